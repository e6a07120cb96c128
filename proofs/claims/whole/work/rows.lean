section
-- ===== PART A: goes FIRST, ahead of the names: the tables' words, and 'selects' of the private methods out of them =====
/-- a private method of a class that the tables say can be made, by its rows of tables_1 -/
def lw_okq (q : MethodName × Nat) : Prop := (q.1.cls ≠ "java/lang/invoke/MethodHandle" ∧ q.1.cls ≠ "java/lang/invoke/VarHandle") ∧ Cond.instantiable q.1.cls q.2 ∈ tables_1 ∧ Cond.privateMethod q.1 ∈ tables_1 ∧ Cond.instanceMethod q.1 ∈ tables_1
theorem lw_p0 : lw_okq (⟨"CartridgeDesk$Machine", "setFlags", "(ZZZZ)V"⟩, 13) := ⟨⟨by decide +kernel, by decide +kernel⟩, List.mem_of_getElem? (i := 105) (by decide +kernel), List.mem_of_getElem? (i := 115) (by decide +kernel), List.mem_of_getElem? (i := 116) (by decide +kernel)⟩
theorem lw_p1 : lw_okq (⟨"java/lang/Throwable", "fillInStackTrace", "(I)Ljava/lang/Throwable;"⟩, 6) := ⟨⟨by decide +kernel, by decide +kernel⟩, List.mem_of_getElem? (i := 272) (by decide +kernel), List.mem_of_getElem? (i := 270) (by decide +kernel), List.mem_of_getElem? (i := 271) (by decide +kernel)⟩
theorem lw_p2 : lw_okq (⟨"CartridgeDesk$Packing", "packPinned", "(LCartridgeDesk$Sections;I)Z"⟩, 4) := ⟨⟨by decide +kernel, by decide +kernel⟩, List.mem_of_getElem? (i := 166) (by decide +kernel), List.mem_of_getElem? (i := 369) (by decide +kernel), List.mem_of_getElem? (i := 370) (by decide +kernel)⟩
theorem lw_p3 : lw_okq (⟨"CartridgeDesk$Packing", "fits", "(II)Z"⟩, 4) := ⟨⟨by decide +kernel, by decide +kernel⟩, List.mem_of_getElem? (i := 166) (by decide +kernel), List.mem_of_getElem? (i := 373) (by decide +kernel), List.mem_of_getElem? (i := 374) (by decide +kernel)⟩
theorem lw_p4 : lw_okq (⟨"CartridgeDesk$Packing", "put", "(III)V"⟩, 4) := ⟨⟨by decide +kernel, by decide +kernel⟩, List.mem_of_getElem? (i := 166) (by decide +kernel), List.mem_of_getElem? (i := 377) (by decide +kernel), List.mem_of_getElem? (i := 378) (by decide +kernel)⟩
theorem lw_p5 : lw_okq (⟨"CartridgeDesk$Packing", "packFloating", "(LCartridgeDesk$Sections;I)Z"⟩, 4) := ⟨⟨by decide +kernel, by decide +kernel⟩, List.mem_of_getElem? (i := 166) (by decide +kernel), List.mem_of_getElem? (i := 381) (by decide +kernel), List.mem_of_getElem? (i := 382) (by decide +kernel)⟩
theorem lw_p6 : lw_okq (⟨"CartridgeDesk$Packing", "packLowest", "(III)Z"⟩, 4) := ⟨⟨by decide +kernel, by decide +kernel⟩, List.mem_of_getElem? (i := 166) (by decide +kernel), List.mem_of_getElem? (i := 385) (by decide +kernel), List.mem_of_getElem? (i := 386) (by decide +kernel)⟩
theorem lw_p7 : lw_okq (⟨"CartridgeDesk", "keepTried", "()V"⟩, 6) := ⟨⟨by decide +kernel, by decide +kernel⟩, List.mem_of_getElem? (i := 16) (by decide +kernel), List.mem_of_getElem? (i := 389) (by decide +kernel), List.mem_of_getElem? (i := 390) (by decide +kernel)⟩
theorem lw_p8 : lw_okq (⟨"CartridgeDesk$Cartridge", "lay", "(LCartridgeDesk$Sections;LCartridgeDesk$Packing;I)V"⟩, 2) := ⟨⟨by decide +kernel, by decide +kernel⟩, List.mem_of_getElem? (i := 55) (by decide +kernel), List.mem_of_getElem? (i := 401) (by decide +kernel), List.mem_of_getElem? (i := 402) (by decide +kernel)⟩
theorem lw_p9 : lw_okq (⟨"CartridgeDesk$Cartridge", "writeHead", "(I)V"⟩, 2) := ⟨⟨by decide +kernel, by decide +kernel⟩, List.mem_of_getElem? (i := 55) (by decide +kernel), List.mem_of_getElem? (i := 409) (by decide +kernel), List.mem_of_getElem? (i := 410) (by decide +kernel)⟩
theorem lw_p10 : lw_okq (⟨"CartridgeDesk$Cartridge", "sizeCode", "()I"⟩, 2) := ⟨⟨by decide +kernel, by decide +kernel⟩, List.mem_of_getElem? (i := 55) (by decide +kernel), List.mem_of_getElem? (i := 415) (by decide +kernel), List.mem_of_getElem? (i := 416) (by decide +kernel)⟩
theorem lw_p11 : lw_okq (⟨"CartridgeDesk$Cartridge", "headCheck", "()I"⟩, 2) := ⟨⟨by decide +kernel, by decide +kernel⟩, List.mem_of_getElem? (i := 55) (by decide +kernel), List.mem_of_getElem? (i := 419) (by decide +kernel), List.mem_of_getElem? (i := 420) (by decide +kernel)⟩
theorem lw_p12 : lw_okq (⟨"CartridgeDesk$Cartridge", "imageCheck", "()I"⟩, 2) := ⟨⟨by decide +kernel, by decide +kernel⟩, List.mem_of_getElem? (i := 55) (by decide +kernel), List.mem_of_getElem? (i := 423) (by decide +kernel), List.mem_of_getElem? (i := 424) (by decide +kernel)⟩
theorem lw_p13 : lw_okq (⟨"CartridgeDesk$Machine", "wakeFor", "(I)V"⟩, 13) := ⟨⟨by decide +kernel, by decide +kernel⟩, List.mem_of_getElem? (i := 105) (by decide +kernel), List.mem_of_getElem? (i := 496) (by decide +kernel), List.mem_of_getElem? (i := 497) (by decide +kernel)⟩
theorem lw_p14 : lw_okq (⟨"CartridgeDesk$Machine", "interruptFor", "(I)V"⟩, 13) := ⟨⟨by decide +kernel, by decide +kernel⟩, List.mem_of_getElem? (i := 105) (by decide +kernel), List.mem_of_getElem? (i := 500) (by decide +kernel), List.mem_of_getElem? (i := 501) (by decide +kernel)⟩
theorem lw_p15 : lw_okq (⟨"CartridgeDesk$Machine", "push", "(I)V"⟩, 13) := ⟨⟨by decide +kernel, by decide +kernel⟩, List.mem_of_getElem? (i := 105) (by decide +kernel), List.mem_of_getElem? (i := 504) (by decide +kernel), List.mem_of_getElem? (i := 505) (by decide +kernel)⟩
def lw_privs_1 : List (MethodName × Nat) := [(⟨"CartridgeDesk$Machine", "setFlags", "(ZZZZ)V"⟩, 13), (⟨"java/lang/Throwable", "fillInStackTrace", "(I)Ljava/lang/Throwable;"⟩, 6), (⟨"CartridgeDesk$Packing", "packPinned", "(LCartridgeDesk$Sections;I)Z"⟩, 4), (⟨"CartridgeDesk$Packing", "fits", "(II)Z"⟩, 4), (⟨"CartridgeDesk$Packing", "put", "(III)V"⟩, 4), (⟨"CartridgeDesk$Packing", "packFloating", "(LCartridgeDesk$Sections;I)Z"⟩, 4), (⟨"CartridgeDesk$Packing", "packLowest", "(III)Z"⟩, 4), (⟨"CartridgeDesk", "keepTried", "()V"⟩, 6), (⟨"CartridgeDesk$Cartridge", "lay", "(LCartridgeDesk$Sections;LCartridgeDesk$Packing;I)V"⟩, 2), (⟨"CartridgeDesk$Cartridge", "writeHead", "(I)V"⟩, 2), (⟨"CartridgeDesk$Cartridge", "sizeCode", "()I"⟩, 2), (⟨"CartridgeDesk$Cartridge", "headCheck", "()I"⟩, 2), (⟨"CartridgeDesk$Cartridge", "imageCheck", "()I"⟩, 2), (⟨"CartridgeDesk$Machine", "wakeFor", "(I)V"⟩, 13), (⟨"CartridgeDesk$Machine", "interruptFor", "(I)V"⟩, 13), (⟨"CartridgeDesk$Machine", "push", "(I)V"⟩, 13)]
theorem lw_r1 : ∀ q ∈ lw_privs_1, lw_okq q := List.forall_mem_cons.mpr ⟨lw_p0, List.forall_mem_cons.mpr ⟨lw_p1, List.forall_mem_cons.mpr ⟨lw_p2, List.forall_mem_cons.mpr ⟨lw_p3, List.forall_mem_cons.mpr ⟨lw_p4, List.forall_mem_cons.mpr ⟨lw_p5, List.forall_mem_cons.mpr ⟨lw_p6, List.forall_mem_cons.mpr ⟨lw_p7, List.forall_mem_cons.mpr ⟨lw_p8, List.forall_mem_cons.mpr ⟨lw_p9, List.forall_mem_cons.mpr ⟨lw_p10, List.forall_mem_cons.mpr ⟨lw_p11, List.forall_mem_cons.mpr ⟨lw_p12, List.forall_mem_cons.mpr ⟨lw_p13, List.forall_mem_cons.mpr ⟨lw_p14, List.forall_mem_cons.mpr ⟨lw_p15, fun _ h => absurd h List.not_mem_nil⟩⟩⟩⟩⟩⟩⟩⟩⟩⟩⟩⟩⟩⟩⟩⟩
theorem lw_p16 : lw_okq (⟨"CartridgeDesk$Memory", "turnSwitch", "(II)V"⟩, 9) := ⟨⟨by decide +kernel, by decide +kernel⟩, List.mem_of_getElem? (i := 69) (by decide +kernel), List.mem_of_getElem? (i := 512) (by decide +kernel), List.mem_of_getElem? (i := 513) (by decide +kernel)⟩
theorem lw_p17 : lw_okq (⟨"CartridgeDesk$Memory", "ramPlace", "(I)I"⟩, 9) := ⟨⟨by decide +kernel, by decide +kernel⟩, List.mem_of_getElem? (i := 69) (by decide +kernel), List.mem_of_getElem? (i := 516) (by decide +kernel), List.mem_of_getElem? (i := 517) (by decide +kernel)⟩
theorem lw_p18 : lw_okq (⟨"CartridgeDesk$Machine", "next", "()I"⟩, 13) := ⟨⟨by decide +kernel, by decide +kernel⟩, List.mem_of_getElem? (i := 105) (by decide +kernel), List.mem_of_getElem? (i := 520) (by decide +kernel), List.mem_of_getElem? (i := 521) (by decide +kernel)⟩
theorem lw_p19 : lw_okq (⟨"CartridgeDesk$Machine", "obey", "(I)V"⟩, 13) := ⟨⟨by decide +kernel, by decide +kernel⟩, List.mem_of_getElem? (i := 105) (by decide +kernel), List.mem_of_getElem? (i := 532) (by decide +kernel), List.mem_of_getElem? (i := 533) (by decide +kernel)⟩
theorem lw_p20 : lw_okq (⟨"CartridgeDesk$Machine", "obeySingle", "(I)V"⟩, 13) := ⟨⟨by decide +kernel, by decide +kernel⟩, List.mem_of_getElem? (i := 105) (by decide +kernel), List.mem_of_getElem? (i := 536) (by decide +kernel), List.mem_of_getElem? (i := 537) (by decide +kernel)⟩
theorem lw_p21 : lw_okq (⟨"CartridgeDesk$Machine", "endAs", "(I)V"⟩, 13) := ⟨⟨by decide +kernel, by decide +kernel⟩, List.mem_of_getElem? (i := 105) (by decide +kernel), List.mem_of_getElem? (i := 540) (by decide +kernel), List.mem_of_getElem? (i := 541) (by decide +kernel)⟩
theorem lw_p22 : lw_okq (⟨"CartridgeDesk$Machine", "pull", "()I"⟩, 13) := ⟨⟨by decide +kernel, by decide +kernel⟩, List.mem_of_getElem? (i := 105) (by decide +kernel), List.mem_of_getElem? (i := 544) (by decide +kernel), List.mem_of_getElem? (i := 545) (by decide +kernel)⟩
theorem lw_p23 : lw_okq (⟨"CartridgeDesk$Machine", "adjust", "()V"⟩, 13) := ⟨⟨by decide +kernel, by decide +kernel⟩, List.mem_of_getElem? (i := 105) (by decide +kernel), List.mem_of_getElem? (i := 548) (by decide +kernel), List.mem_of_getElem? (i := 549) (by decide +kernel)⟩
theorem lw_p24 : lw_okq (⟨"CartridgeDesk$Machine", "send", "(I)V"⟩, 13) := ⟨⟨by decide +kernel, by decide +kernel⟩, List.mem_of_getElem? (i := 105) (by decide +kernel), List.mem_of_getElem? (i := 552) (by decide +kernel), List.mem_of_getElem? (i := 553) (by decide +kernel)⟩
theorem lw_p25 : lw_okq (⟨"CartridgeDesk$Machine", "obeyOnOne", "(II)V"⟩, 13) := ⟨⟨by decide +kernel, by decide +kernel⟩, List.mem_of_getElem? (i := 105) (by decide +kernel), List.mem_of_getElem? (i := 556) (by decide +kernel), List.mem_of_getElem? (i := 557) (by decide +kernel)⟩
theorem lw_p26 : lw_okq (⟨"CartridgeDesk$Machine", "get", "(I)I"⟩, 13) := ⟨⟨by decide +kernel, by decide +kernel⟩, List.mem_of_getElem? (i := 105) (by decide +kernel), List.mem_of_getElem? (i := 560) (by decide +kernel), List.mem_of_getElem? (i := 561) (by decide +kernel)⟩
theorem lw_p27 : lw_okq (⟨"CartridgeDesk$Machine", "oneMore", "(I)I"⟩, 13) := ⟨⟨by decide +kernel, by decide +kernel⟩, List.mem_of_getElem? (i := 105) (by decide +kernel), List.mem_of_getElem? (i := 564) (by decide +kernel), List.mem_of_getElem? (i := 565) (by decide +kernel)⟩
theorem lw_p28 : lw_okq (⟨"CartridgeDesk$Machine", "set", "(II)V"⟩, 13) := ⟨⟨by decide +kernel, by decide +kernel⟩, List.mem_of_getElem? (i := 105) (by decide +kernel), List.mem_of_getElem? (i := 568) (by decide +kernel), List.mem_of_getElem? (i := 569) (by decide +kernel)⟩
theorem lw_p29 : lw_okq (⟨"CartridgeDesk$Machine", "oneLess", "(I)I"⟩, 13) := ⟨⟨by decide +kernel, by decide +kernel⟩, List.mem_of_getElem? (i := 105) (by decide +kernel), List.mem_of_getElem? (i := 572) (by decide +kernel), List.mem_of_getElem? (i := 573) (by decide +kernel)⟩
theorem lw_p30 : lw_okq (⟨"CartridgeDesk$Machine", "exchanged", "(I)I"⟩, 13) := ⟨⟨by decide +kernel, by decide +kernel⟩, List.mem_of_getElem? (i := 105) (by decide +kernel), List.mem_of_getElem? (i := 576) (by decide +kernel), List.mem_of_getElem? (i := 577) (by decide +kernel)⟩
theorem lw_p31 : lw_okq (⟨"CartridgeDesk$Machine", "calculate", "(II)V"⟩, 13) := ⟨⟨by decide +kernel, by decide +kernel⟩, List.mem_of_getElem? (i := 105) (by decide +kernel), List.mem_of_getElem? (i := 580) (by decide +kernel), List.mem_of_getElem? (i := 581) (by decide +kernel)⟩
def lw_privs_2 : List (MethodName × Nat) := [(⟨"CartridgeDesk$Memory", "turnSwitch", "(II)V"⟩, 9), (⟨"CartridgeDesk$Memory", "ramPlace", "(I)I"⟩, 9), (⟨"CartridgeDesk$Machine", "next", "()I"⟩, 13), (⟨"CartridgeDesk$Machine", "obey", "(I)V"⟩, 13), (⟨"CartridgeDesk$Machine", "obeySingle", "(I)V"⟩, 13), (⟨"CartridgeDesk$Machine", "endAs", "(I)V"⟩, 13), (⟨"CartridgeDesk$Machine", "pull", "()I"⟩, 13), (⟨"CartridgeDesk$Machine", "adjust", "()V"⟩, 13), (⟨"CartridgeDesk$Machine", "send", "(I)V"⟩, 13), (⟨"CartridgeDesk$Machine", "obeyOnOne", "(II)V"⟩, 13), (⟨"CartridgeDesk$Machine", "get", "(I)I"⟩, 13), (⟨"CartridgeDesk$Machine", "oneMore", "(I)I"⟩, 13), (⟨"CartridgeDesk$Machine", "set", "(II)V"⟩, 13), (⟨"CartridgeDesk$Machine", "oneLess", "(I)I"⟩, 13), (⟨"CartridgeDesk$Machine", "exchanged", "(I)I"⟩, 13), (⟨"CartridgeDesk$Machine", "calculate", "(II)V"⟩, 13)]
theorem lw_r2 : ∀ q ∈ lw_privs_2, lw_okq q := List.forall_mem_cons.mpr ⟨lw_p16, List.forall_mem_cons.mpr ⟨lw_p17, List.forall_mem_cons.mpr ⟨lw_p18, List.forall_mem_cons.mpr ⟨lw_p19, List.forall_mem_cons.mpr ⟨lw_p20, List.forall_mem_cons.mpr ⟨lw_p21, List.forall_mem_cons.mpr ⟨lw_p22, List.forall_mem_cons.mpr ⟨lw_p23, List.forall_mem_cons.mpr ⟨lw_p24, List.forall_mem_cons.mpr ⟨lw_p25, List.forall_mem_cons.mpr ⟨lw_p26, List.forall_mem_cons.mpr ⟨lw_p27, List.forall_mem_cons.mpr ⟨lw_p28, List.forall_mem_cons.mpr ⟨lw_p29, List.forall_mem_cons.mpr ⟨lw_p30, List.forall_mem_cons.mpr ⟨lw_p31, fun _ h => absurd h List.not_mem_nil⟩⟩⟩⟩⟩⟩⟩⟩⟩⟩⟩⟩⟩⟩⟩⟩
theorem lw_p32 : lw_okq (⟨"CartridgeDesk$Machine", "sum", "(II)I"⟩, 13) := ⟨⟨by decide +kernel, by decide +kernel⟩, List.mem_of_getElem? (i := 105) (by decide +kernel), List.mem_of_getElem? (i := 584) (by decide +kernel), List.mem_of_getElem? (i := 585) (by decide +kernel)⟩
theorem lw_p33 : lw_okq (⟨"CartridgeDesk$Machine", "carryBit", "()I"⟩, 13) := ⟨⟨by decide +kernel, by decide +kernel⟩, List.mem_of_getElem? (i := 105) (by decide +kernel), List.mem_of_getElem? (i := 588) (by decide +kernel), List.mem_of_getElem? (i := 589) (by decide +kernel)⟩
theorem lw_p34 : lw_okq (⟨"CartridgeDesk$Machine", "difference", "(II)I"⟩, 13) := ⟨⟨by decide +kernel, by decide +kernel⟩, List.mem_of_getElem? (i := 105) (by decide +kernel), List.mem_of_getElem? (i := 592) (by decide +kernel), List.mem_of_getElem? (i := 593) (by decide +kernel)⟩
theorem lw_p35 : lw_okq (⟨"CartridgeDesk$Machine", "obeyJump", "(II)V"⟩, 13) := ⟨⟨by decide +kernel, by decide +kernel⟩, List.mem_of_getElem? (i := 105) (by decide +kernel), List.mem_of_getElem? (i := 596) (by decide +kernel), List.mem_of_getElem? (i := 597) (by decide +kernel)⟩
theorem lw_p36 : lw_okq (⟨"CartridgeDesk$Machine", "holds", "(I)Z"⟩, 13) := ⟨⟨by decide +kernel, by decide +kernel⟩, List.mem_of_getElem? (i := 105) (by decide +kernel), List.mem_of_getElem? (i := 600) (by decide +kernel), List.mem_of_getElem? (i := 601) (by decide +kernel)⟩
theorem lw_p37 : lw_okq (⟨"CartridgeDesk$Machine", "obeyOnBits", "(I)V"⟩, 13) := ⟨⟨by decide +kernel, by decide +kernel⟩, List.mem_of_getElem? (i := 105) (by decide +kernel), List.mem_of_getElem? (i := 604) (by decide +kernel), List.mem_of_getElem? (i := 605) (by decide +kernel)⟩
theorem lw_p38 : lw_okq (⟨"CartridgeDesk$Machine", "shifted", "(II)I"⟩, 13) := ⟨⟨by decide +kernel, by decide +kernel⟩, List.mem_of_getElem? (i := 105) (by decide +kernel), List.mem_of_getElem? (i := 608) (by decide +kernel), List.mem_of_getElem? (i := 609) (by decide +kernel)⟩
theorem lw_p39 : lw_okq (⟨"CartridgeDesk$Machine", "comesIn", "(III)I"⟩, 13) := ⟨⟨by decide +kernel, by decide +kernel⟩, List.mem_of_getElem? (i := 105) (by decide +kernel), List.mem_of_getElem? (i := 612) (by decide +kernel), List.mem_of_getElem? (i := 613) (by decide +kernel)⟩
theorem lw_p40 : lw_okq (⟨"CartridgeDeskModel", "begin", "()V"⟩, 30) := ⟨⟨by decide +kernel, by decide +kernel⟩, List.mem_of_getElem? (i := 653) (by decide +kernel), List.mem_of_getElem? (i := 659) (by decide +kernel), List.mem_of_getElem? (i := 660) (by decide +kernel)⟩
theorem lw_p41 : lw_okq (⟨"CartridgeDeskModel", "room", "(I)Z"⟩, 30) := ⟨⟨by decide +kernel, by decide +kernel⟩, List.mem_of_getElem? (i := 653) (by decide +kernel), List.mem_of_getElem? (i := 769) (by decide +kernel), List.mem_of_getElem? (i := 770) (by decide +kernel)⟩
theorem lw_p42 : lw_okq (⟨"CartridgeDeskModel", "append", "(II)V"⟩, 30) := ⟨⟨by decide +kernel, by decide +kernel⟩, List.mem_of_getElem? (i := 653) (by decide +kernel), List.mem_of_getElem? (i := 773) (by decide +kernel), List.mem_of_getElem? (i := 774) (by decide +kernel)⟩
theorem lw_p43 : lw_okq (⟨"CartridgeDeskModel", "allKnown", "()Z"⟩, 30) := ⟨⟨by decide +kernel, by decide +kernel⟩, List.mem_of_getElem? (i := 653) (by decide +kernel), List.mem_of_getElem? (i := 789) (by decide +kernel), List.mem_of_getElem? (i := 790) (by decide +kernel)⟩
theorem lw_p44 : lw_okq (⟨"CartridgeDeskModel", "pack", "(I)Z"⟩, 30) := ⟨⟨by decide +kernel, by decide +kernel⟩, List.mem_of_getElem? (i := 653) (by decide +kernel), List.mem_of_getElem? (i := 793) (by decide +kernel), List.mem_of_getElem? (i := 794) (by decide +kernel)⟩
theorem lw_p45 : lw_okq (⟨"CartridgeDeskModel", "put", "(III)Z"⟩, 30) := ⟨⟨by decide +kernel, by decide +kernel⟩, List.mem_of_getElem? (i := 653) (by decide +kernel), List.mem_of_getElem? (i := 797) (by decide +kernel), List.mem_of_getElem? (i := 798) (by decide +kernel)⟩
theorem lw_p46 : lw_okq (⟨"CartridgeDeskModel", "build", "(I)V"⟩, 30) := ⟨⟨by decide +kernel, by decide +kernel⟩, List.mem_of_getElem? (i := 653) (by decide +kernel), List.mem_of_getElem? (i := 801) (by decide +kernel), List.mem_of_getElem? (i := 802) (by decide +kernel)⟩
theorem lw_p47 : lw_okq (⟨"CartridgeDeskModel", "headByte", "(I)I"⟩, 30) := ⟨⟨by decide +kernel, by decide +kernel⟩, List.mem_of_getElem? (i := 653) (by decide +kernel), List.mem_of_getElem? (i := 805) (by decide +kernel), List.mem_of_getElem? (i := 806) (by decide +kernel)⟩
def lw_privs_3 : List (MethodName × Nat) := [(⟨"CartridgeDesk$Machine", "sum", "(II)I"⟩, 13), (⟨"CartridgeDesk$Machine", "carryBit", "()I"⟩, 13), (⟨"CartridgeDesk$Machine", "difference", "(II)I"⟩, 13), (⟨"CartridgeDesk$Machine", "obeyJump", "(II)V"⟩, 13), (⟨"CartridgeDesk$Machine", "holds", "(I)Z"⟩, 13), (⟨"CartridgeDesk$Machine", "obeyOnBits", "(I)V"⟩, 13), (⟨"CartridgeDesk$Machine", "shifted", "(II)I"⟩, 13), (⟨"CartridgeDesk$Machine", "comesIn", "(III)I"⟩, 13), (⟨"CartridgeDeskModel", "begin", "()V"⟩, 30), (⟨"CartridgeDeskModel", "room", "(I)Z"⟩, 30), (⟨"CartridgeDeskModel", "append", "(II)V"⟩, 30), (⟨"CartridgeDeskModel", "allKnown", "()Z"⟩, 30), (⟨"CartridgeDeskModel", "pack", "(I)Z"⟩, 30), (⟨"CartridgeDeskModel", "put", "(III)Z"⟩, 30), (⟨"CartridgeDeskModel", "build", "(I)V"⟩, 30), (⟨"CartridgeDeskModel", "headByte", "(I)I"⟩, 30)]
theorem lw_r3 : ∀ q ∈ lw_privs_3, lw_okq q := List.forall_mem_cons.mpr ⟨lw_p32, List.forall_mem_cons.mpr ⟨lw_p33, List.forall_mem_cons.mpr ⟨lw_p34, List.forall_mem_cons.mpr ⟨lw_p35, List.forall_mem_cons.mpr ⟨lw_p36, List.forall_mem_cons.mpr ⟨lw_p37, List.forall_mem_cons.mpr ⟨lw_p38, List.forall_mem_cons.mpr ⟨lw_p39, List.forall_mem_cons.mpr ⟨lw_p40, List.forall_mem_cons.mpr ⟨lw_p41, List.forall_mem_cons.mpr ⟨lw_p42, List.forall_mem_cons.mpr ⟨lw_p43, List.forall_mem_cons.mpr ⟨lw_p44, List.forall_mem_cons.mpr ⟨lw_p45, List.forall_mem_cons.mpr ⟨lw_p46, List.forall_mem_cons.mpr ⟨lw_p47, fun _ h => absurd h List.not_mem_nil⟩⟩⟩⟩⟩⟩⟩⟩⟩⟩⟩⟩⟩⟩⟩⟩
theorem lw_p48 : lw_okq (⟨"CartridgeDeskModel", "mark", "(I)I"⟩, 30) := ⟨⟨by decide +kernel, by decide +kernel⟩, List.mem_of_getElem? (i := 653) (by decide +kernel), List.mem_of_getElem? (i := 809) (by decide +kernel), List.mem_of_getElem? (i := 810) (by decide +kernel)⟩
theorem lw_p49 : lw_okq (⟨"CartridgeDeskModel", "headCheck", "()I"⟩, 30) := ⟨⟨by decide +kernel, by decide +kernel⟩, List.mem_of_getElem? (i := 653) (by decide +kernel), List.mem_of_getElem? (i := 813) (by decide +kernel), List.mem_of_getElem? (i := 814) (by decide +kernel)⟩
theorem lw_p50 : lw_okq (⟨"CartridgeDeskModel", "imageCheck", "()I"⟩, 30) := ⟨⟨by decide +kernel, by decide +kernel⟩, List.mem_of_getElem? (i := 653) (by decide +kernel), List.mem_of_getElem? (i := 817) (by decide +kernel), List.mem_of_getElem? (i := 818) (by decide +kernel)⟩
theorem lw_p51 : lw_okq (⟨"CartridgeDeskModel", "refuse", "(I)I"⟩, 30) := ⟨⟨by decide +kernel, by decide +kernel⟩, List.mem_of_getElem? (i := 653) (by decide +kernel), List.mem_of_getElem? (i := 826) (by decide +kernel), List.mem_of_getElem? (i := 827) (by decide +kernel)⟩
theorem lw_p52 : lw_okq (⟨"CartridgeDeskModel", "step", "()V"⟩, 30) := ⟨⟨by decide +kernel, by decide +kernel⟩, List.mem_of_getElem? (i := 653) (by decide +kernel), List.mem_of_getElem? (i := 854) (by decide +kernel), List.mem_of_getElem? (i := 855) (by decide +kernel)⟩
theorem lw_p53 : lw_okq (⟨"CartridgeDeskModel", "interrupt", "(I)V"⟩, 30) := ⟨⟨by decide +kernel, by decide +kernel⟩, List.mem_of_getElem? (i := 653) (by decide +kernel), List.mem_of_getElem? (i := 858) (by decide +kernel), List.mem_of_getElem? (i := 859) (by decide +kernel)⟩
theorem lw_p54 : lw_okq (⟨"CartridgeDeskModel", "push", "(I)V"⟩, 30) := ⟨⟨by decide +kernel, by decide +kernel⟩, List.mem_of_getElem? (i := 653) (by decide +kernel), List.mem_of_getElem? (i := 862) (by decide +kernel), List.mem_of_getElem? (i := 863) (by decide +kernel)⟩
theorem lw_p55 : lw_okq (⟨"CartridgeDeskModel", "write", "(II)V"⟩, 30) := ⟨⟨by decide +kernel, by decide +kernel⟩, List.mem_of_getElem? (i := 653) (by decide +kernel), List.mem_of_getElem? (i := 866) (by decide +kernel), List.mem_of_getElem? (i := 867) (by decide +kernel)⟩
theorem lw_p56 : lw_okq (⟨"CartridgeDeskModel", "where", "(I)I"⟩, 30) := ⟨⟨by decide +kernel, by decide +kernel⟩, List.mem_of_getElem? (i := 653) (by decide +kernel), List.mem_of_getElem? (i := 870) (by decide +kernel), List.mem_of_getElem? (i := 871) (by decide +kernel)⟩
theorem lw_p57 : lw_okq (⟨"CartridgeDeskModel", "instruction", "()V"⟩, 30) := ⟨⟨by decide +kernel, by decide +kernel⟩, List.mem_of_getElem? (i := 653) (by decide +kernel), List.mem_of_getElem? (i := 874) (by decide +kernel), List.mem_of_getElem? (i := 875) (by decide +kernel)⟩
theorem lw_p58 : lw_okq (⟨"CartridgeDeskModel", "next", "()I"⟩, 30) := ⟨⟨by decide +kernel, by decide +kernel⟩, List.mem_of_getElem? (i := 653) (by decide +kernel), List.mem_of_getElem? (i := 878) (by decide +kernel), List.mem_of_getElem? (i := 879) (by decide +kernel)⟩
theorem lw_p59 : lw_okq (⟨"CartridgeDeskModel", "read", "(I)I"⟩, 30) := ⟨⟨by decide +kernel, by decide +kernel⟩, List.mem_of_getElem? (i := 653) (by decide +kernel), List.mem_of_getElem? (i := 882) (by decide +kernel), List.mem_of_getElem? (i := 883) (by decide +kernel)⟩
theorem lw_p60 : lw_okq (⟨"CartridgeDeskModel", "few", "(I)V"⟩, 30) := ⟨⟨by decide +kernel, by decide +kernel⟩, List.mem_of_getElem? (i := 653) (by decide +kernel), List.mem_of_getElem? (i := 886) (by decide +kernel), List.mem_of_getElem? (i := 887) (by decide +kernel)⟩
theorem lw_p61 : lw_okq (⟨"CartridgeDeskModel", "stand", "(I)V"⟩, 30) := ⟨⟨by decide +kernel, by decide +kernel⟩, List.mem_of_getElem? (i := 653) (by decide +kernel), List.mem_of_getElem? (i := 890) (by decide +kernel), List.mem_of_getElem? (i := 891) (by decide +kernel)⟩
theorem lw_p62 : lw_okq (⟨"CartridgeDeskModel", "adjust", "()V"⟩, 30) := ⟨⟨by decide +kernel, by decide +kernel⟩, List.mem_of_getElem? (i := 653) (by decide +kernel), List.mem_of_getElem? (i := 894) (by decide +kernel), List.mem_of_getElem? (i := 895) (by decide +kernel)⟩
theorem lw_p63 : lw_okq (⟨"CartridgeDeskModel", "pop", "()I"⟩, 30) := ⟨⟨by decide +kernel, by decide +kernel⟩, List.mem_of_getElem? (i := 653) (by decide +kernel), List.mem_of_getElem? (i := 898) (by decide +kernel), List.mem_of_getElem? (i := 899) (by decide +kernel)⟩
def lw_privs_4 : List (MethodName × Nat) := [(⟨"CartridgeDeskModel", "mark", "(I)I"⟩, 30), (⟨"CartridgeDeskModel", "headCheck", "()I"⟩, 30), (⟨"CartridgeDeskModel", "imageCheck", "()I"⟩, 30), (⟨"CartridgeDeskModel", "refuse", "(I)I"⟩, 30), (⟨"CartridgeDeskModel", "step", "()V"⟩, 30), (⟨"CartridgeDeskModel", "interrupt", "(I)V"⟩, 30), (⟨"CartridgeDeskModel", "push", "(I)V"⟩, 30), (⟨"CartridgeDeskModel", "write", "(II)V"⟩, 30), (⟨"CartridgeDeskModel", "where", "(I)I"⟩, 30), (⟨"CartridgeDeskModel", "instruction", "()V"⟩, 30), (⟨"CartridgeDeskModel", "next", "()I"⟩, 30), (⟨"CartridgeDeskModel", "read", "(I)I"⟩, 30), (⟨"CartridgeDeskModel", "few", "(I)V"⟩, 30), (⟨"CartridgeDeskModel", "stand", "(I)V"⟩, 30), (⟨"CartridgeDeskModel", "adjust", "()V"⟩, 30), (⟨"CartridgeDeskModel", "pop", "()I"⟩, 30)]
theorem lw_r4 : ∀ q ∈ lw_privs_4, lw_okq q := List.forall_mem_cons.mpr ⟨lw_p48, List.forall_mem_cons.mpr ⟨lw_p49, List.forall_mem_cons.mpr ⟨lw_p50, List.forall_mem_cons.mpr ⟨lw_p51, List.forall_mem_cons.mpr ⟨lw_p52, List.forall_mem_cons.mpr ⟨lw_p53, List.forall_mem_cons.mpr ⟨lw_p54, List.forall_mem_cons.mpr ⟨lw_p55, List.forall_mem_cons.mpr ⟨lw_p56, List.forall_mem_cons.mpr ⟨lw_p57, List.forall_mem_cons.mpr ⟨lw_p58, List.forall_mem_cons.mpr ⟨lw_p59, List.forall_mem_cons.mpr ⟨lw_p60, List.forall_mem_cons.mpr ⟨lw_p61, List.forall_mem_cons.mpr ⟨lw_p62, List.forall_mem_cons.mpr ⟨lw_p63, fun _ h => absurd h List.not_mem_nil⟩⟩⟩⟩⟩⟩⟩⟩⟩⟩⟩⟩⟩⟩⟩⟩
theorem lw_p64 : lw_okq (⟨"CartridgeDeskModel", "single", "(II)V"⟩, 30) := ⟨⟨by decide +kernel, by decide +kernel⟩, List.mem_of_getElem? (i := 653) (by decide +kernel), List.mem_of_getElem? (i := 902) (by decide +kernel), List.mem_of_getElem? (i := 903) (by decide +kernel)⟩
theorem lw_p65 : lw_okq (⟨"CartridgeDeskModel", "get", "(I)I"⟩, 30) := ⟨⟨by decide +kernel, by decide +kernel⟩, List.mem_of_getElem? (i := 653) (by decide +kernel), List.mem_of_getElem? (i := 906) (by decide +kernel), List.mem_of_getElem? (i := 907) (by decide +kernel)⟩
theorem lw_p66 : lw_okq (⟨"CartridgeDeskModel", "count", "(IZ)I"⟩, 30) := ⟨⟨by decide +kernel, by decide +kernel⟩, List.mem_of_getElem? (i := 653) (by decide +kernel), List.mem_of_getElem? (i := 910) (by decide +kernel), List.mem_of_getElem? (i := 911) (by decide +kernel)⟩
theorem lw_p67 : lw_okq (⟨"CartridgeDeskModel", "add", "(III)I"⟩, 30) := ⟨⟨by decide +kernel, by decide +kernel⟩, List.mem_of_getElem? (i := 653) (by decide +kernel), List.mem_of_getElem? (i := 914) (by decide +kernel), List.mem_of_getElem? (i := 915) (by decide +kernel)⟩
theorem lw_p68 : lw_okq (⟨"CartridgeDeskModel", "take", "(III)I"⟩, 30) := ⟨⟨by decide +kernel, by decide +kernel⟩, List.mem_of_getElem? (i := 653) (by decide +kernel), List.mem_of_getElem? (i := 918) (by decide +kernel), List.mem_of_getElem? (i := 919) (by decide +kernel)⟩
theorem lw_p69 : lw_okq (⟨"CartridgeDeskModel", "set", "(II)V"⟩, 30) := ⟨⟨by decide +kernel, by decide +kernel⟩, List.mem_of_getElem? (i := 653) (by decide +kernel), List.mem_of_getElem? (i := 922) (by decide +kernel), List.mem_of_getElem? (i := 923) (by decide +kernel)⟩
theorem lw_p70 : lw_okq (⟨"CartridgeDeskModel", "plain", "(IZ)I"⟩, 30) := ⟨⟨by decide +kernel, by decide +kernel⟩, List.mem_of_getElem? (i := 653) (by decide +kernel), List.mem_of_getElem? (i := 926) (by decide +kernel), List.mem_of_getElem? (i := 927) (by decide +kernel)⟩
theorem lw_p71 : lw_okq (⟨"CartridgeDeskModel", "reckon", "(II)V"⟩, 30) := ⟨⟨by decide +kernel, by decide +kernel⟩, List.mem_of_getElem? (i := 653) (by decide +kernel), List.mem_of_getElem? (i := 930) (by decide +kernel), List.mem_of_getElem? (i := 931) (by decide +kernel)⟩
theorem lw_p72 : lw_okq (⟨"CartridgeDeskModel", "lead", "(I)V"⟩, 30) := ⟨⟨by decide +kernel, by decide +kernel⟩, List.mem_of_getElem? (i := 653) (by decide +kernel), List.mem_of_getElem? (i := 934) (by decide +kernel), List.mem_of_getElem? (i := 935) (by decide +kernel)⟩
theorem lw_p73 : lw_okq (⟨"CartridgeDeskModel", "holds", "(I)Z"⟩, 30) := ⟨⟨by decide +kernel, by decide +kernel⟩, List.mem_of_getElem? (i := 653) (by decide +kernel), List.mem_of_getElem? (i := 938) (by decide +kernel), List.mem_of_getElem? (i := 939) (by decide +kernel)⟩
theorem lw_p74 : lw_okq (⟨"CartridgeDeskModel", "bits", "(I)V"⟩, 30) := ⟨⟨by decide +kernel, by decide +kernel⟩, List.mem_of_getElem? (i := 653) (by decide +kernel), List.mem_of_getElem? (i := 942) (by decide +kernel), List.mem_of_getElem? (i := 943) (by decide +kernel)⟩
theorem lw_p75 : lw_okq (⟨"CartridgeDeskModel", "turned", "(II)I"⟩, 30) := ⟨⟨by decide +kernel, by decide +kernel⟩, List.mem_of_getElem? (i := 653) (by decide +kernel), List.mem_of_getElem? (i := 946) (by decide +kernel), List.mem_of_getElem? (i := 947) (by decide +kernel)⟩
def lw_privs_5 : List (MethodName × Nat) := [(⟨"CartridgeDeskModel", "single", "(II)V"⟩, 30), (⟨"CartridgeDeskModel", "get", "(I)I"⟩, 30), (⟨"CartridgeDeskModel", "count", "(IZ)I"⟩, 30), (⟨"CartridgeDeskModel", "add", "(III)I"⟩, 30), (⟨"CartridgeDeskModel", "take", "(III)I"⟩, 30), (⟨"CartridgeDeskModel", "set", "(II)V"⟩, 30), (⟨"CartridgeDeskModel", "plain", "(IZ)I"⟩, 30), (⟨"CartridgeDeskModel", "reckon", "(II)V"⟩, 30), (⟨"CartridgeDeskModel", "lead", "(I)V"⟩, 30), (⟨"CartridgeDeskModel", "holds", "(I)Z"⟩, 30), (⟨"CartridgeDeskModel", "bits", "(I)V"⟩, 30), (⟨"CartridgeDeskModel", "turned", "(II)I"⟩, 30)]
theorem lw_r5 : ∀ q ∈ lw_privs_5, lw_okq q := List.forall_mem_cons.mpr ⟨lw_p64, List.forall_mem_cons.mpr ⟨lw_p65, List.forall_mem_cons.mpr ⟨lw_p66, List.forall_mem_cons.mpr ⟨lw_p67, List.forall_mem_cons.mpr ⟨lw_p68, List.forall_mem_cons.mpr ⟨lw_p69, List.forall_mem_cons.mpr ⟨lw_p70, List.forall_mem_cons.mpr ⟨lw_p71, List.forall_mem_cons.mpr ⟨lw_p72, List.forall_mem_cons.mpr ⟨lw_p73, List.forall_mem_cons.mpr ⟨lw_p74, List.forall_mem_cons.mpr ⟨lw_p75, fun _ h => absurd h List.not_mem_nil⟩⟩⟩⟩⟩⟩⟩⟩⟩⟩⟩⟩
def lw_privs : List (MethodName × Nat) := lw_privs_1 ++ (lw_privs_2 ++ (lw_privs_3 ++ (lw_privs_4 ++ (lw_privs_5))))
def lw_tbl : List Cond := k2_sels lw_privs ++ tables_1
theorem lw_privs_ok : ∀ q ∈ lw_privs, lw_okq q := by
  show ∀ q ∈ lw_privs_1 ++ (lw_privs_2 ++ (lw_privs_3 ++ (lw_privs_4 ++ (lw_privs_5)))), lw_okq q
  exact List.forall_mem_append.mpr ⟨lw_r1, List.forall_mem_append.mpr ⟨lw_r2, List.forall_mem_append.mpr ⟨lw_r3, List.forall_mem_append.mpr ⟨lw_r4, lw_r5⟩⟩⟩⟩
/-! names: classes, their fields in the order of the slots, methods; printed by a program of ours -/
def wS : List Cond := lw_tbl.filter goodWord
theorem wS_good : ∀ w ∈ wS, (w.onTables && w.keeps) = true ∨ ∃ ty, w = .arrayClass ty := fun w h => good_of_word (List.mem_filter.mp h).2
theorem wS_of {w : Cond} (h : w ∈ lw_tbl) (g : goodWord w = true) : w ∈ wS := List.mem_filter.mpr ⟨h, g⟩
theorem wT1 {w : Cond} (i : Nat) (h0 : tables_1_1[i]? = some w) (g : goodWord w = true) : w ∈ wS := wS_of (by have h := List.mem_of_getElem? h0; exact List.mem_append_right _ (List.mem_append_left _ h)) g
theorem wT2 {w : Cond} (i : Nat) (h0 : tables_1_2[i]? = some w) (g : goodWord w = true) : w ∈ wS := wS_of (by have h := List.mem_of_getElem? h0; exact List.mem_append_right _ (List.mem_append_right _ (List.mem_append_left _ h))) g
theorem wT3 {w : Cond} (i : Nat) (h0 : tables_1_3[i]? = some w) (g : goodWord w = true) : w ∈ wS := wS_of (by have h := List.mem_of_getElem? h0; exact List.mem_append_right _ (List.mem_append_right _ (List.mem_append_right _ (List.mem_append_left _ h)))) g
theorem wT4 {w : Cond} (i : Nat) (h0 : tables_1_4[i]? = some w) (g : goodWord w = true) : w ∈ wS := wS_of (by have h := List.mem_of_getElem? h0; exact List.mem_append_right _ (List.mem_append_right _ (List.mem_append_right _ (List.mem_append_right _ (List.mem_append_left _ h))))) g
theorem wT5 {w : Cond} (i : Nat) (h0 : tables_1_5[i]? = some w) (g : goodWord w = true) : w ∈ wS := wS_of (by have h := List.mem_of_getElem? h0; exact List.mem_append_right _ (List.mem_append_right _ (List.mem_append_right _ (List.mem_append_right _ (List.mem_append_right _ (h)))))) g
theorem wP1 {y : MethodName} {n : Nat} (i : Nat) (h0 : lw_privs_1[i]? = some (y, n)) : Cond.selects y.cls y y ∈ wS := wS_of (List.mem_append_left _ (List.mem_map.mpr ⟨(y, n), (by have h := List.mem_of_getElem? h0; exact List.mem_append_left _ h), rfl⟩)) rfl
theorem wP2 {y : MethodName} {n : Nat} (i : Nat) (h0 : lw_privs_2[i]? = some (y, n)) : Cond.selects y.cls y y ∈ wS := wS_of (List.mem_append_left _ (List.mem_map.mpr ⟨(y, n), (by have h := List.mem_of_getElem? h0; exact List.mem_append_right _ (List.mem_append_left _ h)), rfl⟩)) rfl
theorem wP3 {y : MethodName} {n : Nat} (i : Nat) (h0 : lw_privs_3[i]? = some (y, n)) : Cond.selects y.cls y y ∈ wS := wS_of (List.mem_append_left _ (List.mem_map.mpr ⟨(y, n), (by have h := List.mem_of_getElem? h0; exact List.mem_append_right _ (List.mem_append_right _ (List.mem_append_left _ h))), rfl⟩)) rfl
theorem wP4 {y : MethodName} {n : Nat} (i : Nat) (h0 : lw_privs_4[i]? = some (y, n)) : Cond.selects y.cls y y ∈ wS := wS_of (List.mem_append_left _ (List.mem_map.mpr ⟨(y, n), (by have h := List.mem_of_getElem? h0; exact List.mem_append_right _ (List.mem_append_right _ (List.mem_append_right _ (List.mem_append_left _ h)))), rfl⟩)) rfl
theorem wP5 {y : MethodName} {n : Nat} (i : Nat) (h0 : lw_privs_5[i]? = some (y, n)) : Cond.selects y.cls y y ∈ wS := wS_of (List.mem_append_left _ (List.mem_map.mpr ⟨(y, n), (by have h := List.mem_of_getElem? h0; exact List.mem_append_right _ (List.mem_append_right _ (List.mem_append_right _ (List.mem_append_right _ (h))))), rfl⟩)) rfl
def RK : String := "CartridgeDesk$Cartridge"
def TK : u_T := fun k => match k with
  | 0 => ("CartridgeDesk$Cartridge", "cells", "[I", true)
  | _ => ("CartridgeDesk$Cartridge", "bankCount", "I", false)
def tK : Nat → FieldType := fun k => match k with
  | 0 => .array .int
  | _ => .int
theorem nK_ok : ∀ a, a < 2 → ∀ b, b < 2 → a ≠ b → (TK a).2.1 ≠ (TK b).2.1 := by decide +kernel
theorem tK_ok : ∀ k, k < 2 → parseFieldDescriptor (TK k).2.2.1 = some (tK k) := by decide +kernel
def RN : String := "CartridgeDesk$Machine"
def TN : u_T := fun k => match k with
  | 0 => ("CartridgeDesk$Machine", "memory", "LCartridgeDesk$Memory;", true)
  | 1 => ("CartridgeDesk$Machine", "registers", "[I", true)
  | 2 => ("CartridgeDesk$Machine", "stack", "I", false)
  | 3 => ("CartridgeDesk$Machine", "place", "I", false)
  | 4 => ("CartridgeDesk$Machine", "zero", "Z", false)
  | 5 => ("CartridgeDesk$Machine", "minus", "Z", false)
  | 6 => ("CartridgeDesk$Machine", "half", "Z", false)
  | 7 => ("CartridgeDesk$Machine", "carry", "Z", false)
  | 8 => ("CartridgeDesk$Machine", "enabled", "Z", false)
  | 9 => ("CartridgeDesk$Machine", "enabledSoon", "Z", false)
  | 10 => ("CartridgeDesk$Machine", "condition", "I", false)
  | 11 => ("CartridgeDesk$Machine", "sentCount", "I", false)
  | _ => ("CartridgeDesk$Machine", "sentBytes", "[I", true)
def tN : Nat → FieldType := fun k => match k with
  | 0 => .object "CartridgeDesk$Memory"
  | 1 => .array .int
  | 2 => .int
  | 3 => .int
  | 4 => .boolean
  | 5 => .boolean
  | 6 => .boolean
  | 7 => .boolean
  | 8 => .boolean
  | 9 => .boolean
  | 10 => .int
  | 11 => .int
  | _ => .array .int
theorem nN_ok : ∀ a, a < 13 → ∀ b, b < 13 → a ≠ b → (TN a).2.1 ≠ (TN b).2.1 := by decide +kernel
theorem tN_ok : ∀ k, k < 13 → parseFieldDescriptor (TN k).2.2.1 = some (tN k) := by decide +kernel
def RM : String := "CartridgeDesk$Memory"
def TM : u_T := fun k => match k with
  | 0 => ("CartridgeDesk$Memory", "cartridge", "LCartridgeDesk$Cartridge;", true)
  | 1 => ("CartridgeDesk$Memory", "ram", "[I", true)
  | 2 => ("CartridgeDesk$Memory", "upper", "[I", true)
  | 3 => ("CartridgeDesk$Memory", "ramOn", "Z", false)
  | 4 => ("CartridgeDesk$Memory", "low", "I", false)
  | 5 => ("CartridgeDesk$Memory", "high", "I", false)
  | 6 => ("CartridgeDesk$Memory", "mode", "I", false)
  | 7 => ("CartridgeDesk$Memory", "mask", "I", false)
  | _ => ("CartridgeDesk$Memory", "lines", "I", false)
def tM : Nat → FieldType := fun k => match k with
  | 0 => .object "CartridgeDesk$Cartridge"
  | 1 => .array .int
  | 2 => .array .int
  | 3 => .boolean
  | 4 => .int
  | 5 => .int
  | 6 => .int
  | 7 => .int
  | _ => .int
theorem nM_ok : ∀ a, a < 9 → ∀ b, b < 9 → a ≠ b → (TM a).2.1 ≠ (TM b).2.1 := by decide +kernel
theorem tM_ok : ∀ k, k < 9 → parseFieldDescriptor (TM k).2.2.1 = some (tM k) := by decide +kernel
def RP : String := "CartridgeDesk$Packing"
def TP : u_T := fun k => match k with
  | 0 => ("CartridgeDesk$Packing", "banks", "[I", true)
  | 1 => ("CartridgeDesk$Packing", "offsets", "[I", true)
  | 2 => ("CartridgeDesk$Packing", "ends", "[I", true)
  | _ => ("CartridgeDesk$Packing", "count", "I", false)
def tP : Nat → FieldType := fun k => match k with
  | 0 => .array .int
  | 1 => .array .int
  | 2 => .array .int
  | _ => .int
theorem nP_ok : ∀ a, a < 4 → ∀ b, b < 4 → a ≠ b → (TP a).2.1 ≠ (TP b).2.1 := by decide +kernel
theorem tP_ok : ∀ k, k < 4 → parseFieldDescriptor (TP k).2.2.1 = some (tP k) := by decide +kernel
def RS : String := "CartridgeDesk$Sections"
def TS : u_T := fun k => match k with
  | 0 => ("CartridgeDesk$Sections", "banks", "[I", true)
  | 1 => ("CartridgeDesk$Sections", "lengths", "[I", true)
  | 2 => ("CartridgeDesk$Sections", "kinds", "[I", true)
  | 3 => ("CartridgeDesk$Sections", "values", "[I", true)
  | _ => ("CartridgeDesk$Sections", "count", "I", false)
def tS : Nat → FieldType := fun k => match k with
  | 0 => .array .int
  | 1 => .array .int
  | 2 => .array .int
  | 3 => .array .int
  | _ => .int
theorem nS_ok : ∀ a, a < 5 → ∀ b, b < 5 → a ≠ b → (TS a).2.1 ≠ (TS b).2.1 := by decide +kernel
theorem tS_ok : ∀ k, k < 5 → parseFieldDescriptor (TS k).2.2.1 = some (tS k) := by decide +kernel
def RD : String := "CartridgeDesk"
def TD : u_T := fun k => match k with
  | 0 => ("CartridgeDesk", "sections", "LCartridgeDesk$Sections;", true)
  | 1 => ("CartridgeDesk", "cartridge", "LCartridgeDesk$Cartridge;", true)
  | 2 => ("CartridgeDesk", "memory", "LCartridgeDesk$Memory;", true)
  | 3 => ("CartridgeDesk", "machine", "LCartridgeDesk$Machine;", true)
  | 4 => ("CartridgeDesk", "linked", "LCartridgeDesk$Packing;", false)
  | _ => ("CartridgeDesk", "tried", "LCartridgeDesk$Packing;", false)
def tD : Nat → FieldType := fun k => match k with
  | 0 => .object "CartridgeDesk$Sections"
  | 1 => .object "CartridgeDesk$Cartridge"
  | 2 => .object "CartridgeDesk$Memory"
  | 3 => .object "CartridgeDesk$Machine"
  | 4 => .object "CartridgeDesk$Packing"
  | _ => .object "CartridgeDesk$Packing"
theorem nD_ok : ∀ a, a < 6 → ∀ b, b < 6 → a ≠ b → (TD a).2.1 ≠ (TD b).2.1 := by decide +kernel
theorem tD_ok : ∀ k, k < 6 → parseFieldDescriptor (TD k).2.2.1 = some (tD k) := by decide +kernel
def RQ : String := "CartridgeDeskModel"
def TQ : u_T := fun k => match k with
  | 0 => ("CartridgeDeskModel", "code", "I", false)
  | 1 => ("CartridgeDeskModel", "many", "I", false)
  | 2 => ("CartridgeDeskModel", "pin", "[I", true)
  | 3 => ("CartridgeDeskModel", "size", "[I", true)
  | 4 => ("CartridgeDeskModel", "bytes", "[I", true)
  | 5 => ("CartridgeDeskModel", "kind", "[I", true)
  | 6 => ("CartridgeDeskModel", "bank", "[I", true)
  | 7 => ("CartridgeDeskModel", "address", "[I", true)
  | 8 => ("CartridgeDeskModel", "full", "[I", true)
  | 9 => ("CartridgeDeskModel", "linked", "I", false)
  | 10 => ("CartridgeDeskModel", "packedBank", "[I", true)
  | 11 => ("CartridgeDeskModel", "packedAddress", "[I", true)
  | 12 => ("CartridgeDeskModel", "banks", "I", false)
  | 13 => ("CartridgeDeskModel", "memory", "[I", true)
  | 14 => ("CartridgeDeskModel", "register", "[I", true)
  | 15 => ("CartridgeDeskModel", "stack", "I", false)
  | 16 => ("CartridgeDeskModel", "place", "I", false)
  | 17 => ("CartridgeDeskModel", "zero", "Z", false)
  | 18 => ("CartridgeDeskModel", "less", "Z", false)
  | 19 => ("CartridgeDeskModel", "half", "Z", false)
  | 20 => ("CartridgeDeskModel", "carry", "Z", false)
  | 21 => ("CartridgeDeskModel", "enabled", "Z", false)
  | 22 => ("CartridgeDeskModel", "soon", "Z", false)
  | 23 => ("CartridgeDeskModel", "ram", "Z", false)
  | 24 => ("CartridgeDeskModel", "low", "I", false)
  | 25 => ("CartridgeDeskModel", "top", "I", false)
  | 26 => ("CartridgeDeskModel", "mode", "I", false)
  | 27 => ("CartridgeDeskModel", "state", "I", false)
  | 28 => ("CartridgeDeskModel", "sent", "I", false)
  | _ => ("CartridgeDeskModel", "out", "[I", true)
def tQ : Nat → FieldType := fun k => match k with
  | 0 => .int
  | 1 => .int
  | 2 => .array .int
  | 3 => .array .int
  | 4 => .array .int
  | 5 => .array .int
  | 6 => .array .int
  | 7 => .array .int
  | 8 => .array .int
  | 9 => .int
  | 10 => .array .int
  | 11 => .array .int
  | 12 => .int
  | 13 => .array .int
  | 14 => .array .int
  | 15 => .int
  | 16 => .int
  | 17 => .boolean
  | 18 => .boolean
  | 19 => .boolean
  | 20 => .boolean
  | 21 => .boolean
  | 22 => .boolean
  | 23 => .boolean
  | 24 => .int
  | 25 => .int
  | 26 => .int
  | 27 => .int
  | 28 => .int
  | _ => .array .int
theorem nQ_ok : ∀ a, a < 30 → ∀ b, b < 30 → a ≠ b → (TQ a).2.1 ≠ (TQ b).2.1 := by decide +kernel
theorem tQ_ok : ∀ k, k < 30 → parseFieldDescriptor (TQ k).2.2.1 = some (tQ k) := by decide +kernel
abbrev vwCl : List vw_C := [(RK, TK, 2), (RN, TN, 13), (RM, TM, 9), (RP, TP, 4), (RS, TS, 5), (RD, TD, 6), (RQ, TQ, 30)]
def RL : String := "CartridgeDeskLaw"
abbrev bD_init : ByteArray := prog_1_method_1_code
def yD_init : MethodName := ⟨RD, "<init>", "()V"⟩
abbrev bD_section : ByteArray := prog_1_method_2_code
def yD_section : MethodName := ⟨RD, "section", "(I)I"⟩
abbrev bD_bytes : ByteArray := prog_1_method_3_code
def yD_bytes : MethodName := ⟨RD, "bytes", "(II)V"⟩
abbrev bD_mended : ByteArray := prog_1_method_4_code
def yD_mended : MethodName := ⟨RD, "mended", "(II)V"⟩
abbrev bD_clear : ByteArray := prog_1_method_5_code
def yD_clear : MethodName := ⟨RD, "clear", "()V"⟩
abbrev bD_link : ByteArray := prog_1_method_6_code
def yD_link : MethodName := ⟨RD, "link", "(I)I"⟩
abbrev bD_packed : ByteArray := prog_1_method_7_code
def yD_packed : MethodName := ⟨RD, "packed", "(II)I"⟩
abbrev bD_image : ByteArray := prog_1_method_8_code
def yD_image : MethodName := ⟨RD, "image", "(I)I"⟩
abbrev bD_spoil : ByteArray := prog_1_method_9_code
def yD_spoil : MethodName := ⟨RD, "spoil", "(II)V"⟩
abbrev bD_valid : ByteArray := prog_1_method_10_code
def yD_valid : MethodName := ⟨RD, "valid", "()I"⟩
abbrev bD_restart : ByteArray := prog_1_method_11_code
def yD_restart : MethodName := ⟨RD, "restart", "()V"⟩
abbrev bD_raise : ByteArray := prog_1_method_12_code
def yD_raise : MethodName := ⟨RD, "raise", "(I)V"⟩
abbrev bD_run : ByteArray := prog_1_method_13_code
def yD_run : MethodName := ⟨RD, "run", "(I)I"⟩
abbrev bD_state : ByteArray := prog_1_method_14_code
def yD_state : MethodName := ⟨RD, "state", "()I"⟩
abbrev bD_register : ByteArray := prog_1_method_15_code
def yD_register : MethodName := ⟨RD, "register", "(I)I"⟩
abbrev bD_peek : ByteArray := prog_1_method_16_code
def yD_peek : MethodName := ⟨RD, "peek", "(I)I"⟩
abbrev bD_sent : ByteArray := prog_1_method_17_code
def yD_sent : MethodName := ⟨RD, "sent", "()I"⟩
abbrev bD_byteSent : ByteArray := prog_1_method_18_code
def yD_byteSent : MethodName := ⟨RD, "byteSent", "(I)I"⟩
abbrev bD_keepTried : ByteArray := prog_1_method_19_code
def yD_keepTried : MethodName := ⟨RD, "keepTried", "()V"⟩
abbrev bQ_init : ByteArray := prog_8_method_1_code
def yQ_init : MethodName := ⟨RQ, "<init>", "()V"⟩
abbrev bQ_thrown : ByteArray := prog_8_method_2_code
def yQ_thrown : MethodName := ⟨RQ, "thrown", "()I"⟩
abbrev bQ_refuse : ByteArray := prog_8_method_3_code
def yQ_refuse : MethodName := ⟨RQ, "refuse", "(I)I"⟩
abbrev bQ_outside : ByteArray := prog_8_method_4_code
def yQ_outside : MethodName := ⟨RQ, "outside", "(III)Z"⟩
abbrev bQ_begin : ByteArray := prog_8_method_5_code
def yQ_begin : MethodName := ⟨RQ, "begin", "()V"⟩
abbrev bQ_section : ByteArray := prog_8_method_6_code
def yQ_section : MethodName := ⟨RQ, "section", "(I)I"⟩
abbrev bQ_room : ByteArray := prog_8_method_7_code
def yQ_room : MethodName := ⟨RQ, "room", "(I)Z"⟩
abbrev bQ_append : ByteArray := prog_8_method_8_code
def yQ_append : MethodName := ⟨RQ, "append", "(II)V"⟩
abbrev bQ_bytes : ByteArray := prog_8_method_9_code
def yQ_bytes : MethodName := ⟨RQ, "bytes", "(II)V"⟩
abbrev bQ_mended : ByteArray := prog_8_method_10_code
def yQ_mended : MethodName := ⟨RQ, "mended", "(II)V"⟩
abbrev bQ_clear : ByteArray := prog_8_method_11_code
def yQ_clear : MethodName := ⟨RQ, "clear", "()V"⟩
abbrev bQ_put : ByteArray := prog_8_method_12_code
def yQ_put : MethodName := ⟨RQ, "put", "(III)Z"⟩
abbrev bQ_pack : ByteArray := prog_8_method_13_code
def yQ_pack : MethodName := ⟨RQ, "pack", "(I)Z"⟩
abbrev bQ_allKnown : ByteArray := prog_8_method_14_code
def yQ_allKnown : MethodName := ⟨RQ, "allKnown", "()Z"⟩
abbrev bQ_headCheck : ByteArray := prog_8_method_15_code
def yQ_headCheck : MethodName := ⟨RQ, "headCheck", "()I"⟩
abbrev bQ_imageCheck : ByteArray := prog_8_method_16_code
def yQ_imageCheck : MethodName := ⟨RQ, "imageCheck", "()I"⟩
abbrev bQ_mark : ByteArray := prog_8_method_17_code
def yQ_mark : MethodName := ⟨RQ, "mark", "(I)I"⟩
abbrev bQ_headByte : ByteArray := prog_8_method_18_code
def yQ_headByte : MethodName := ⟨RQ, "headByte", "(I)I"⟩
abbrev bQ_build : ByteArray := prog_8_method_19_code
def yQ_build : MethodName := ⟨RQ, "build", "(I)V"⟩
abbrev bQ_link : ByteArray := prog_8_method_20_code
def yQ_link : MethodName := ⟨RQ, "link", "(I)I"⟩
abbrev bQ_packed : ByteArray := prog_8_method_21_code
def yQ_packed : MethodName := ⟨RQ, "packed", "(II)I"⟩
abbrev bQ_image : ByteArray := prog_8_method_22_code
def yQ_image : MethodName := ⟨RQ, "image", "(I)I"⟩
abbrev bQ_spoil : ByteArray := prog_8_method_23_code
def yQ_spoil : MethodName := ⟨RQ, "spoil", "(II)V"⟩
abbrev bQ_valid : ByteArray := prog_8_method_24_code
def yQ_valid : MethodName := ⟨RQ, "valid", "()I"⟩
abbrev bQ_where : ByteArray := prog_8_method_25_code
def yQ_where : MethodName := ⟨RQ, "where", "(I)I"⟩
abbrev bQ_read : ByteArray := prog_8_method_26_code
def yQ_read : MethodName := ⟨RQ, "read", "(I)I"⟩
abbrev bQ_write : ByteArray := prog_8_method_27_code
def yQ_write : MethodName := ⟨RQ, "write", "(II)V"⟩
abbrev bQ_get : ByteArray := prog_8_method_28_code
def yQ_get : MethodName := ⟨RQ, "get", "(I)I"⟩
abbrev bQ_set : ByteArray := prog_8_method_29_code
def yQ_set : MethodName := ⟨RQ, "set", "(II)V"⟩
abbrev bQ_next : ByteArray := prog_8_method_30_code
def yQ_next : MethodName := ⟨RQ, "next", "()I"⟩
abbrev bQ_push : ByteArray := prog_8_method_31_code
def yQ_push : MethodName := ⟨RQ, "push", "(I)V"⟩
abbrev bQ_pop : ByteArray := prog_8_method_32_code
def yQ_pop : MethodName := ⟨RQ, "pop", "()I"⟩
abbrev bQ_add : ByteArray := prog_8_method_33_code
def yQ_add : MethodName := ⟨RQ, "add", "(III)I"⟩
abbrev bQ_take : ByteArray := prog_8_method_34_code
def yQ_take : MethodName := ⟨RQ, "take", "(III)I"⟩
abbrev bQ_plain : ByteArray := prog_8_method_35_code
def yQ_plain : MethodName := ⟨RQ, "plain", "(IZ)I"⟩
abbrev bQ_reckon : ByteArray := prog_8_method_36_code
def yQ_reckon : MethodName := ⟨RQ, "reckon", "(II)V"⟩
abbrev bQ_count : ByteArray := prog_8_method_37_code
def yQ_count : MethodName := ⟨RQ, "count", "(IZ)I"⟩
abbrev bQ_adjust : ByteArray := prog_8_method_38_code
def yQ_adjust : MethodName := ⟨RQ, "adjust", "()V"⟩
abbrev bQ_turned : ByteArray := prog_8_method_39_code
def yQ_turned : MethodName := ⟨RQ, "turned", "(II)I"⟩
abbrev bQ_bits : ByteArray := prog_8_method_40_code
def yQ_bits : MethodName := ⟨RQ, "bits", "(I)V"⟩
abbrev bQ_stand : ByteArray := prog_8_method_41_code
def yQ_stand : MethodName := ⟨RQ, "stand", "(I)V"⟩
abbrev bQ_few : ByteArray := prog_8_method_42_code
def yQ_few : MethodName := ⟨RQ, "few", "(I)V"⟩
abbrev bQ_single : ByteArray := prog_8_method_43_code
def yQ_single : MethodName := ⟨RQ, "single", "(II)V"⟩
abbrev bQ_holds : ByteArray := prog_8_method_44_code
def yQ_holds : MethodName := ⟨RQ, "holds", "(I)Z"⟩
abbrev bQ_lead : ByteArray := prog_8_method_45_code
def yQ_lead : MethodName := ⟨RQ, "lead", "(I)V"⟩
abbrev bQ_instruction : ByteArray := prog_8_method_46_code
def yQ_instruction : MethodName := ⟨RQ, "instruction", "()V"⟩
abbrev bQ_interrupt : ByteArray := prog_8_method_47_code
def yQ_interrupt : MethodName := ⟨RQ, "interrupt", "(I)V"⟩
abbrev bQ_step : ByteArray := prog_8_method_48_code
def yQ_step : MethodName := ⟨RQ, "step", "()V"⟩
abbrev bQ_restart : ByteArray := prog_8_method_49_code
def yQ_restart : MethodName := ⟨RQ, "restart", "()V"⟩
abbrev bQ_raise : ByteArray := prog_8_method_50_code
def yQ_raise : MethodName := ⟨RQ, "raise", "(I)V"⟩
abbrev bQ_run : ByteArray := prog_8_method_51_code
def yQ_run : MethodName := ⟨RQ, "run", "(I)I"⟩
abbrev bQ_state : ByteArray := prog_8_method_52_code
def yQ_state : MethodName := ⟨RQ, "state", "()I"⟩
abbrev bQ_register : ByteArray := prog_8_method_53_code
def yQ_register : MethodName := ⟨RQ, "register", "(I)I"⟩
abbrev bQ_peek : ByteArray := prog_8_method_54_code
def yQ_peek : MethodName := ⟨RQ, "peek", "(I)I"⟩
abbrev bQ_sent : ByteArray := prog_8_method_55_code
def yQ_sent : MethodName := ⟨RQ, "sent", "()I"⟩
abbrev bQ_byteSent : ByteArray := prog_8_method_56_code
def yQ_byteSent : MethodName := ⟨RQ, "byteSent", "(I)I"⟩
abbrev bK_init : ByteArray := prog_2_method_1_code
def yK_init : MethodName := ⟨RK, "<init>", "()V"⟩
abbrev bK_isMade : ByteArray := prog_2_method_2_code
def yK_isMade : MethodName := ⟨RK, "isMade", "()Z"⟩
abbrev bK_size : ByteArray := prog_2_method_3_code
def yK_size : MethodName := ⟨RK, "size", "()I"⟩
abbrev bK_at : ByteArray := prog_2_method_4_code
def yK_at : MethodName := ⟨RK, "at", "(II)I"⟩
abbrev bK_make : ByteArray := prog_2_method_5_code
def yK_make : MethodName := ⟨RK, "make", "(LCartridgeDesk$Sections;LCartridgeDesk$Packing;I)V"⟩
abbrev bK_verdict : ByteArray := prog_2_method_6_code
def yK_verdict : MethodName := ⟨RK, "verdict", "()I"⟩
abbrev bK_lay : ByteArray := prog_2_method_7_code
def yK_lay : MethodName := ⟨RK, "lay", "(LCartridgeDesk$Sections;LCartridgeDesk$Packing;I)V"⟩
abbrev bK_writeHead : ByteArray := prog_2_method_8_code
def yK_writeHead : MethodName := ⟨RK, "writeHead", "(I)V"⟩
abbrev bK_sizeCode : ByteArray := prog_2_method_9_code
def yK_sizeCode : MethodName := ⟨RK, "sizeCode", "()I"⟩
abbrev bK_headCheck : ByteArray := prog_2_method_10_code
def yK_headCheck : MethodName := ⟨RK, "headCheck", "()I"⟩
abbrev bK_imageCheck : ByteArray := prog_2_method_11_code
def yK_imageCheck : MethodName := ⟨RK, "imageCheck", "()I"⟩
abbrev bN_init : ByteArray := prog_3_method_1_code
def yN_init : MethodName := ⟨RN, "<init>", "(LCartridgeDesk$Memory;)V"⟩
abbrev bN_begin : ByteArray := prog_3_method_2_code
def yN_begin : MethodName := ⟨RN, "begin", "()V"⟩
abbrev bN_keptCount : ByteArray := prog_3_method_3_code
def yN_keptCount : MethodName := ⟨RN, "keptCount", "()I"⟩
abbrev bN_shown : ByteArray := prog_3_method_4_code
def yN_shown : MethodName := ⟨RN, "shown", "(I)I"⟩
abbrev bN_canGo : ByteArray := prog_3_method_5_code
def yN_canGo : MethodName := ⟨RN, "canGo", "()Z"⟩
abbrev bN_step : ByteArray := prog_3_method_6_code
def yN_step : MethodName := ⟨RN, "step", "()V"⟩
abbrev bN_wakeFor : ByteArray := prog_3_method_7_code
def yN_wakeFor : MethodName := ⟨RN, "wakeFor", "(I)V"⟩
abbrev bN_interruptFor : ByteArray := prog_3_method_8_code
def yN_interruptFor : MethodName := ⟨RN, "interruptFor", "(I)V"⟩
abbrev bN_obey : ByteArray := prog_3_method_9_code
def yN_obey : MethodName := ⟨RN, "obey", "(I)V"⟩
abbrev bN_obeySingle : ByteArray := prog_3_method_10_code
def yN_obeySingle : MethodName := ⟨RN, "obeySingle", "(I)V"⟩
abbrev bN_obeyOnOne : ByteArray := prog_3_method_11_code
def yN_obeyOnOne : MethodName := ⟨RN, "obeyOnOne", "(II)V"⟩
abbrev bN_obeyJump : ByteArray := prog_3_method_12_code
def yN_obeyJump : MethodName := ⟨RN, "obeyJump", "(II)V"⟩
abbrev bN_holds : ByteArray := prog_3_method_13_code
def yN_holds : MethodName := ⟨RN, "holds", "(I)Z"⟩
abbrev bN_calculate : ByteArray := prog_3_method_14_code
def yN_calculate : MethodName := ⟨RN, "calculate", "(II)V"⟩
abbrev bN_sum : ByteArray := prog_3_method_15_code
def yN_sum : MethodName := ⟨RN, "sum", "(II)I"⟩
abbrev bN_difference : ByteArray := prog_3_method_16_code
def yN_difference : MethodName := ⟨RN, "difference", "(II)I"⟩
abbrev bN_oneMore : ByteArray := prog_3_method_17_code
def yN_oneMore : MethodName := ⟨RN, "oneMore", "(I)I"⟩
abbrev bN_oneLess : ByteArray := prog_3_method_18_code
def yN_oneLess : MethodName := ⟨RN, "oneLess", "(I)I"⟩
abbrev bN_exchanged : ByteArray := prog_3_method_19_code
def yN_exchanged : MethodName := ⟨RN, "exchanged", "(I)I"⟩
abbrev bN_adjust : ByteArray := prog_3_method_20_code
def yN_adjust : MethodName := ⟨RN, "adjust", "()V"⟩
abbrev bN_obeyOnBits : ByteArray := prog_3_method_21_code
def yN_obeyOnBits : MethodName := ⟨RN, "obeyOnBits", "(I)V"⟩
abbrev bN_shifted : ByteArray := prog_3_method_22_code
def yN_shifted : MethodName := ⟨RN, "shifted", "(II)I"⟩
abbrev bN_comesIn : ByteArray := prog_3_method_23_code
def yN_comesIn : MethodName := ⟨RN, "comesIn", "(III)I"⟩
abbrev bN_send : ByteArray := prog_3_method_24_code
def yN_send : MethodName := ⟨RN, "send", "(I)V"⟩
abbrev bN_endAs : ByteArray := prog_3_method_25_code
def yN_endAs : MethodName := ⟨RN, "endAs", "(I)V"⟩
abbrev bN_next : ByteArray := prog_3_method_26_code
def yN_next : MethodName := ⟨RN, "next", "()I"⟩
abbrev bN_push : ByteArray := prog_3_method_27_code
def yN_push : MethodName := ⟨RN, "push", "(I)V"⟩
abbrev bN_pull : ByteArray := prog_3_method_28_code
def yN_pull : MethodName := ⟨RN, "pull", "()I"⟩
abbrev bN_get : ByteArray := prog_3_method_29_code
def yN_get : MethodName := ⟨RN, "get", "(I)I"⟩
abbrev bN_set : ByteArray := prog_3_method_30_code
def yN_set : MethodName := ⟨RN, "set", "(II)V"⟩
abbrev bN_carryBit : ByteArray := prog_3_method_31_code
def yN_carryBit : MethodName := ⟨RN, "carryBit", "()I"⟩
abbrev bN_setFlags : ByteArray := prog_3_method_32_code
def yN_setFlags : MethodName := ⟨RN, "setFlags", "(ZZZZ)V"⟩
abbrev bM_init : ByteArray := prog_4_method_1_code
def yM_init : MethodName := ⟨RM, "<init>", "(LCartridgeDesk$Cartridge;)V"⟩
abbrev bM_begin : ByteArray := prog_4_method_2_code
def yM_begin : MethodName := ⟨RM, "begin", "()V"⟩
abbrev bM_switches : ByteArray := prog_4_method_3_code
def yM_switches : MethodName := ⟨RM, "switches", "()I"⟩
abbrev bM_askingLine : ByteArray := prog_4_method_4_code
def yM_askingLine : MethodName := ⟨RM, "askingLine", "()I"⟩
abbrev bM_read : ByteArray := prog_4_method_5_code
def yM_read : MethodName := ⟨RM, "read", "(I)I"⟩
abbrev bM_write : ByteArray := prog_4_method_6_code
def yM_write : MethodName := ⟨RM, "write", "(II)V"⟩
abbrev bM_ramPlace : ByteArray := prog_4_method_7_code
def yM_ramPlace : MethodName := ⟨RM, "ramPlace", "(I)I"⟩
abbrev bM_turnSwitch : ByteArray := prog_4_method_8_code
def yM_turnSwitch : MethodName := ⟨RM, "turnSwitch", "(II)V"⟩
abbrev bP_init : ByteArray := prog_5_method_1_code
def yP_init : MethodName := ⟨RP, "<init>", "()V"⟩
abbrev bP_pack : ByteArray := prog_5_method_2_code
def yP_pack : MethodName := ⟨RP, "pack", "(LCartridgeDesk$Sections;I)Z"⟩
abbrev bP_addressOf : ByteArray := prog_5_method_3_code
def yP_addressOf : MethodName := ⟨RP, "addressOf", "(I)I"⟩
abbrev bP_packPinned : ByteArray := prog_5_method_4_code
def yP_packPinned : MethodName := ⟨RP, "packPinned", "(LCartridgeDesk$Sections;I)Z"⟩
abbrev bP_packFloating : ByteArray := prog_5_method_5_code
def yP_packFloating : MethodName := ⟨RP, "packFloating", "(LCartridgeDesk$Sections;I)Z"⟩
abbrev bP_packLowest : ByteArray := prog_5_method_6_code
def yP_packLowest : MethodName := ⟨RP, "packLowest", "(III)Z"⟩
abbrev bP_fits : ByteArray := prog_5_method_7_code
def yP_fits : MethodName := ⟨RP, "fits", "(II)Z"⟩
abbrev bP_put : ByteArray := prog_5_method_8_code
def yP_put : MethodName := ⟨RP, "put", "(III)V"⟩
abbrev bS_init : ByteArray := prog_6_method_1_code
def yS_init : MethodName := ⟨RS, "<init>", "()V"⟩
abbrev bS_open : ByteArray := prog_6_method_2_code
def yS_open : MethodName := ⟨RS, "open", "(I)I"⟩
abbrev bS_canTake : ByteArray := prog_6_method_3_code
def yS_canTake : MethodName := ⟨RS, "canTake", "(I)Z"⟩
abbrev bS_append : ByteArray := prog_6_method_4_code
def yS_append : MethodName := ⟨RS, "append", "(II)V"⟩
abbrev bS_lacksOne : ByteArray := prog_6_method_5_code
def yS_lacksOne : MethodName := ⟨RS, "lacksOne", "()Z"⟩
abbrev bS_total : ByteArray := prog_6_method_6_code
def yS_total : MethodName := ⟨RS, "total", "()I"⟩
abbrev bL_section : ByteArray := method_3_code
def yL_section : MethodName := ⟨RL, "section", "(LCartridgeDesk;I[J)I"⟩
abbrev bL_bytes : ByteArray := method_4_code
def yL_bytes : MethodName := ⟨RL, "bytes", "(LCartridgeDesk;II)I"⟩
abbrev bL_mended : ByteArray := method_5_code
def yL_mended : MethodName := ⟨RL, "mended", "(LCartridgeDesk;II)I"⟩
abbrev bL_link : ByteArray := method_6_code
def yL_link : MethodName := ⟨RL, "link", "(LCartridgeDesk;I[J)I"⟩
abbrev bL_packed : ByteArray := method_7_code
def yL_packed : MethodName := ⟨RL, "packed", "(LCartridgeDesk;II[J)I"⟩
abbrev bL_image : ByteArray := method_8_code
def yL_image : MethodName := ⟨RL, "image", "(LCartridgeDesk;I[J)I"⟩
abbrev bL_spoil : ByteArray := method_9_code
def yL_spoil : MethodName := ⟨RL, "spoil", "(LCartridgeDesk;II)I"⟩
abbrev bL_valid : ByteArray := method_10_code
def yL_valid : MethodName := ⟨RL, "valid", "(LCartridgeDesk;[J)I"⟩
abbrev bL_raise : ByteArray := method_11_code
def yL_raise : MethodName := ⟨RL, "raise", "(LCartridgeDesk;I)I"⟩
abbrev bL_run : ByteArray := method_12_code
def yL_run : MethodName := ⟨RL, "run", "(LCartridgeDesk;I[J)I"⟩
abbrev bL_register : ByteArray := method_13_code
def yL_register : MethodName := ⟨RL, "register", "(LCartridgeDesk;I[J)I"⟩
abbrev bL_peek : ByteArray := method_14_code
def yL_peek : MethodName := ⟨RL, "peek", "(LCartridgeDesk;I[J)I"⟩
abbrev bL_byteSent : ByteArray := method_15_code
def yL_byteSent : MethodName := ⟨RL, "byteSent", "(LCartridgeDesk;I[J)I"⟩
theorem inK : ∀ w ∈ u_ws RK TK 2, w ∈ wS := by
  intro w hw
  obtain ⟨k, hk, rfl⟩ := List.mem_map.mp hw
  have hk := List.mem_range.mp hk
  match k, hk with
  | 0, _ => exact wT1 63 rfl rfl
  | 1, _ => exact wT1 65 rfl rfl
theorem inN : ∀ w ∈ u_ws RN TN 13, w ∈ wS := by
  intro w hw
  obtain ⟨k, hk, rfl⟩ := List.mem_map.mp hw
  have hk := List.mem_range.mp hk
  match k, hk with
  | 0, _ => exact wT1 138 rfl rfl
  | 1, _ => exact wT1 140 rfl rfl
  | 2, _ => exact wT1 142 rfl rfl
  | 3, _ => exact wT1 144 rfl rfl
  | 4, _ => exact wT1 146 rfl rfl
  | 5, _ => exact wT1 148 rfl rfl
  | 6, _ => exact wT1 150 rfl rfl
  | 7, _ => exact wT1 152 rfl rfl
  | 8, _ => exact wT1 154 rfl rfl
  | 9, _ => exact wT1 156 rfl rfl
  | 10, _ => exact wT1 158 rfl rfl
  | 11, _ => exact wT1 160 rfl rfl
  | 12, _ => exact wT1 162 rfl rfl
theorem inM : ∀ w ∈ u_ws RM TM 9, w ∈ wS := by
  intro w hw
  obtain ⟨k, hk, rfl⟩ := List.mem_map.mp hw
  have hk := List.mem_range.mp hk
  match k, hk with
  | 0, _ => exact wT1 85 rfl rfl
  | 1, _ => exact wT1 87 rfl rfl
  | 2, _ => exact wT1 89 rfl rfl
  | 3, _ => exact wT1 91 rfl rfl
  | 4, _ => exact wT1 93 rfl rfl
  | 5, _ => exact wT1 95 rfl rfl
  | 6, _ => exact wT1 97 rfl rfl
  | 7, _ => exact wT1 99 rfl rfl
  | 8, _ => exact wT1 101 rfl rfl
theorem inP : ∀ w ∈ u_ws RP TP 4, w ∈ wS := by
  intro w hw
  obtain ⟨k, hk, rfl⟩ := List.mem_map.mp hw
  have hk := List.mem_range.mp hk
  match k, hk with
  | 0, _ => exact wT1 179 rfl rfl
  | 1, _ => exact wT1 181 rfl rfl
  | 2, _ => exact wT1 183 rfl rfl
  | 3, _ => exact wT1 185 rfl rfl
theorem inS : ∀ w ∈ u_ws RS TS 5, w ∈ wS := by
  intro w hw
  obtain ⟨k, hk, rfl⟩ := List.mem_map.mp hw
  have hk := List.mem_range.mp hk
  match k, hk with
  | 0, _ => exact wT1 42 rfl rfl
  | 1, _ => exact wT1 44 rfl rfl
  | 2, _ => exact wT1 46 rfl rfl
  | 3, _ => exact wT1 48 rfl rfl
  | 4, _ => exact wT1 50 rfl rfl
theorem inD : ∀ w ∈ u_ws RD TD 6, w ∈ wS := by
  intro w hw
  obtain ⟨k, hk, rfl⟩ := List.mem_map.mp hw
  have hk := List.mem_range.mp hk
  match k, hk with
  | 0, _ => exact wT1 194 rfl rfl
  | 1, _ => exact wT1 196 rfl rfl
  | 2, _ => exact wT1 198 rfl rfl
  | 3, _ => exact wT1 200 rfl rfl
  | 4, _ => exact wT1 202 rfl rfl
  | 5, _ => exact wT1 204 rfl rfl
theorem inQ : ∀ w ∈ u_ws RQ TQ 30, w ∈ wS := by
  intro w hw
  obtain ⟨k, hk, rfl⟩ := List.mem_map.mp hw
  have hk := List.mem_range.mp hk
  match k, hk with
  | 0, _ => exact wT3 212 rfl rfl
  | 1, _ => exact wT3 214 rfl rfl
  | 2, _ => exact wT3 216 rfl rfl
  | 3, _ => exact wT3 218 rfl rfl
  | 4, _ => exact wT3 220 rfl rfl
  | 5, _ => exact wT3 222 rfl rfl
  | 6, _ => exact wT3 224 rfl rfl
  | 7, _ => exact wT3 226 rfl rfl
  | 8, _ => exact wT3 228 rfl rfl
  | 9, _ => exact wT3 230 rfl rfl
  | 10, _ => exact wT3 232 rfl rfl
  | 11, _ => exact wT3 234 rfl rfl
  | 12, _ => exact wT3 236 rfl rfl
  | 13, _ => exact wT3 238 rfl rfl
  | 14, _ => exact wT4 0 rfl rfl
  | 15, _ => exact wT4 2 rfl rfl
  | 16, _ => exact wT4 4 rfl rfl
  | 17, _ => exact wT4 6 rfl rfl
  | 18, _ => exact wT4 8 rfl rfl
  | 19, _ => exact wT4 10 rfl rfl
  | 20, _ => exact wT4 12 rfl rfl
  | 21, _ => exact wT4 14 rfl rfl
  | 22, _ => exact wT4 16 rfl rfl
  | 23, _ => exact wT4 18 rfl rfl
  | 24, _ => exact wT4 20 rfl rfl
  | 25, _ => exact wT4 22 rfl rfl
  | 26, _ => exact wT4 24 rfl rfl
  | 27, _ => exact wT4 26 rfl rfl
  | 28, _ => exact wT4 28 rfl rfl
  | 29, _ => exact wT4 30 rfl rfl
  | k + 30, h => exact absurd h (by omega)
end
section
theorem dD_init_0 : decode bD_init 0 = .ok (.aload_n 0, 1) := by decide +kernel
theorem dD_init_1 : decode bD_init 1 = .ok (.invokespecial 1, 3) := by decide +kernel
theorem dD_init_4 : decode bD_init 4 = .ok (.aload_n 0, 1) := by decide +kernel
theorem dD_init_5 : decode bD_init 5 = .ok (.new 7, 3) := by decide +kernel
theorem dD_init_8 : decode bD_init 8 = .ok (.dup, 1) := by decide +kernel
theorem dD_init_9 : decode bD_init 9 = .ok (.invokespecial 9, 3) := by decide +kernel
theorem dD_init_12 : decode bD_init 12 = .ok (.putfield 10, 3) := by decide +kernel
theorem dD_init_15 : decode bD_init 15 = .ok (.aload_n 0, 1) := by decide +kernel
theorem dD_init_16 : decode bD_init 16 = .ok (.new 16, 3) := by decide +kernel
theorem dD_init_19 : decode bD_init 19 = .ok (.dup, 1) := by decide +kernel
theorem dD_init_20 : decode bD_init 20 = .ok (.invokespecial 18, 3) := by decide +kernel
theorem dD_init_23 : decode bD_init 23 = .ok (.putfield 19, 3) := by decide +kernel
theorem dD_init_26 : decode bD_init 26 = .ok (.aload_n 0, 1) := by decide +kernel
theorem dD_init_27 : decode bD_init 27 = .ok (.new 23, 3) := by decide +kernel
theorem dD_init_30 : decode bD_init 30 = .ok (.dup, 1) := by decide +kernel
theorem dD_init_31 : decode bD_init 31 = .ok (.aload_n 0, 1) := by decide +kernel
theorem dD_init_32 : decode bD_init 32 = .ok (.getfield 19, 3) := by decide +kernel
theorem dD_init_35 : decode bD_init 35 = .ok (.invokespecial 25, 3) := by decide +kernel
theorem dD_init_38 : decode bD_init 38 = .ok (.putfield 28, 3) := by decide +kernel
theorem dD_init_41 : decode bD_init 41 = .ok (.aload_n 0, 1) := by decide +kernel
theorem dD_init_42 : decode bD_init 42 = .ok (.new 32, 3) := by decide +kernel
theorem dD_init_45 : decode bD_init 45 = .ok (.dup, 1) := by decide +kernel
theorem dD_init_46 : decode bD_init 46 = .ok (.aload_n 0, 1) := by decide +kernel
theorem dD_init_47 : decode bD_init 47 = .ok (.getfield 28, 3) := by decide +kernel
theorem dD_init_50 : decode bD_init 50 = .ok (.invokespecial 34, 3) := by decide +kernel
theorem dD_init_53 : decode bD_init 53 = .ok (.putfield 37, 3) := by decide +kernel
theorem dD_init_56 : decode bD_init 56 = .ok (.aload_n 0, 1) := by decide +kernel
theorem dD_init_57 : decode bD_init 57 = .ok (.new 41, 3) := by decide +kernel
theorem dD_init_60 : decode bD_init 60 = .ok (.dup, 1) := by decide +kernel
theorem dD_init_61 : decode bD_init 61 = .ok (.invokespecial 43, 3) := by decide +kernel
theorem dD_init_64 : decode bD_init 64 = .ok (.putfield 44, 3) := by decide +kernel
theorem dD_init_67 : decode bD_init 67 = .ok (.aload_n 0, 1) := by decide +kernel
theorem dD_init_68 : decode bD_init 68 = .ok (.new 41, 3) := by decide +kernel
theorem dD_init_71 : decode bD_init 71 = .ok (.dup, 1) := by decide +kernel
theorem dD_init_72 : decode bD_init 72 = .ok (.invokespecial 43, 3) := by decide +kernel
theorem dD_init_75 : decode bD_init 75 = .ok (.putfield 48, 3) := by decide +kernel
theorem dD_init_78 : decode bD_init 78 = .ok (.return_, 1) := by decide +kernel
theorem dD_section_0 : decode bD_section 0 = .ok (.iload_n 1, 1) := by decide +kernel
theorem dD_section_1 : decode bD_section 1 = .ok (.iconst (-1), 1) := by decide +kernel
theorem dD_section_2 : decode bD_section 2 = .ok (.if_icmp .lt 9, 3) := by decide +kernel
theorem dD_section_5 : decode bD_section 5 = .ok (.iload_n 1, 1) := by decide +kernel
theorem dD_section_6 : decode bD_section 6 = .ok (.bipush 8, 2) := by decide +kernel
theorem dD_section_8 : decode bD_section 8 = .ok (.if_icmp .lt 11, 3) := by decide +kernel
theorem dD_section_11 : decode bD_section 11 = .ok (.new 51, 3) := by decide +kernel
theorem dD_section_14 : decode bD_section 14 = .ok (.dup, 1) := by decide +kernel
theorem dD_section_15 : decode bD_section 15 = .ok (.invokespecial 53, 3) := by decide +kernel
theorem dD_section_18 : decode bD_section 18 = .ok (.athrow, 1) := by decide +kernel
theorem dD_section_19 : decode bD_section 19 = .ok (.aload_n 0, 1) := by decide +kernel
theorem dD_section_20 : decode bD_section 20 = .ok (.getfield 10, 3) := by decide +kernel
theorem dD_section_23 : decode bD_section 23 = .ok (.getfield 54, 3) := by decide +kernel
theorem dD_section_26 : decode bD_section 26 = .ok (.bipush 10, 2) := by decide +kernel
theorem dD_section_28 : decode bD_section 28 = .ok (.if_icmp .lt 11, 3) := by decide +kernel
theorem dD_section_31 : decode bD_section 31 = .ok (.new 58, 3) := by decide +kernel
theorem dD_section_34 : decode bD_section 34 = .ok (.dup, 1) := by decide +kernel
theorem dD_section_35 : decode bD_section 35 = .ok (.invokespecial 60, 3) := by decide +kernel
theorem dD_section_38 : decode bD_section 38 = .ok (.athrow, 1) := by decide +kernel
theorem dD_section_39 : decode bD_section 39 = .ok (.aload_n 0, 1) := by decide +kernel
theorem dD_section_40 : decode bD_section 40 = .ok (.getfield 10, 3) := by decide +kernel
theorem dD_section_43 : decode bD_section 43 = .ok (.iload_n 1, 1) := by decide +kernel
theorem dD_section_44 : decode bD_section 44 = .ok (.invokevirtual 61, 3) := by decide +kernel
theorem dD_section_47 : decode bD_section 47 = .ok (.ireturn, 1) := by decide +kernel
theorem dD_bytes_0 : decode bD_bytes 0 = .ok (.iload_n 2, 1) := by decide +kernel
theorem dD_bytes_1 : decode bD_bytes 1 = .ok (.iconst 1, 1) := by decide +kernel
theorem dD_bytes_2 : decode bD_bytes 2 = .ok (.if_icmp .lt 8, 3) := by decide +kernel
theorem dD_bytes_5 : decode bD_bytes 5 = .ok (.iload_n 2, 1) := by decide +kernel
theorem dD_bytes_6 : decode bD_bytes 6 = .ok (.iconst 4, 1) := by decide +kernel
theorem dD_bytes_7 : decode bD_bytes 7 = .ok (.if_icmp .le 11, 3) := by decide +kernel
theorem dD_bytes_10 : decode bD_bytes 10 = .ok (.new 51, 3) := by decide +kernel
theorem dD_bytes_13 : decode bD_bytes 13 = .ok (.dup, 1) := by decide +kernel
theorem dD_bytes_14 : decode bD_bytes 14 = .ok (.invokespecial 53, 3) := by decide +kernel
theorem dD_bytes_17 : decode bD_bytes 17 = .ok (.athrow, 1) := by decide +kernel
theorem dD_bytes_18 : decode bD_bytes 18 = .ok (.aload_n 0, 1) := by decide +kernel
theorem dD_bytes_19 : decode bD_bytes 19 = .ok (.getfield 10, 3) := by decide +kernel
theorem dD_bytes_22 : decode bD_bytes 22 = .ok (.iload_n 2, 1) := by decide +kernel
theorem dD_bytes_23 : decode bD_bytes 23 = .ok (.invokevirtual 65, 3) := by decide +kernel
theorem dD_bytes_26 : decode bD_bytes 26 = .ok (.ifCond .ne 11, 3) := by decide +kernel
theorem dD_bytes_29 : decode bD_bytes 29 = .ok (.new 58, 3) := by decide +kernel
theorem dD_bytes_32 : decode bD_bytes 32 = .ok (.dup, 1) := by decide +kernel
theorem dD_bytes_33 : decode bD_bytes 33 = .ok (.invokespecial 60, 3) := by decide +kernel
theorem dD_bytes_36 : decode bD_bytes 36 = .ok (.athrow, 1) := by decide +kernel
theorem dD_bytes_37 : decode bD_bytes 37 = .ok (.iload_n 2, 1) := by decide +kernel
theorem dD_bytes_38 : decode bD_bytes 38 = .ok (.iconst 1, 1) := by decide +kernel
theorem dD_bytes_39 : decode bD_bytes 39 = .ok (.isub, 1) := by decide +kernel
theorem dD_bytes_40 : decode bD_bytes 40 = .ok (.istore_n 3, 1) := by decide +kernel
theorem dD_bytes_41 : decode bD_bytes 41 = .ok (.iload_n 3, 1) := by decide +kernel
theorem dD_bytes_42 : decode bD_bytes 42 = .ok (.ifCond .lt 27, 3) := by decide +kernel
theorem dD_bytes_45 : decode bD_bytes 45 = .ok (.aload_n 0, 1) := by decide +kernel
theorem dD_bytes_46 : decode bD_bytes 46 = .ok (.getfield 10, 3) := by decide +kernel
theorem dD_bytes_49 : decode bD_bytes 49 = .ok (.iconst 0, 1) := by decide +kernel
theorem dD_bytes_50 : decode bD_bytes 50 = .ok (.iload_n 1, 1) := by decide +kernel
theorem dD_bytes_51 : decode bD_bytes 51 = .ok (.bipush 8, 2) := by decide +kernel
theorem dD_bytes_53 : decode bD_bytes 53 = .ok (.iload_n 3, 1) := by decide +kernel
theorem dD_bytes_54 : decode bD_bytes 54 = .ok (.imul, 1) := by decide +kernel
theorem dD_bytes_55 : decode bD_bytes 55 = .ok (.ishr, 1) := by decide +kernel
theorem dD_bytes_56 : decode bD_bytes 56 = .ok (.sipush 255, 3) := by decide +kernel
theorem dD_bytes_59 : decode bD_bytes 59 = .ok (.iand, 1) := by decide +kernel
theorem dD_bytes_60 : decode bD_bytes 60 = .ok (.invokevirtual 69, 3) := by decide +kernel
theorem dD_bytes_63 : decode bD_bytes 63 = .ok (.iinc 3 (-1), 3) := by decide +kernel
theorem dD_bytes_66 : decode bD_bytes 66 = .ok (.goto (-25), 3) := by decide +kernel
theorem dD_bytes_69 : decode bD_bytes 69 = .ok (.return_, 1) := by decide +kernel
theorem dD_mended_0 : decode bD_mended 0 = .ok (.iload_n 1, 1) := by decide +kernel
theorem dD_mended_1 : decode bD_mended 1 = .ok (.iconst 1, 1) := by decide +kernel
theorem dD_mended_2 : decode bD_mended 2 = .ok (.if_icmp .eq 8, 3) := by decide +kernel
theorem dD_mended_5 : decode bD_mended 5 = .ok (.iload_n 1, 1) := by decide +kernel
theorem dD_mended_6 : decode bD_mended 6 = .ok (.iconst 2, 1) := by decide +kernel
theorem dD_mended_7 : decode bD_mended 7 = .ok (.if_icmp .ne 7, 3) := by decide +kernel
theorem dD_mended_10 : decode bD_mended 10 = .ok (.iconst 1, 1) := by decide +kernel
theorem dD_mended_11 : decode bD_mended 11 = .ok (.goto 4, 3) := by decide +kernel
theorem dD_mended_14 : decode bD_mended 14 = .ok (.iconst 0, 1) := by decide +kernel
theorem dD_mended_15 : decode bD_mended 15 = .ok (.istore_n 3, 1) := by decide +kernel
theorem dD_mended_16 : decode bD_mended 16 = .ok (.iload_n 3, 1) := by decide +kernel
theorem dD_mended_17 : decode bD_mended 17 = .ok (.ifCond .eq 13, 3) := by decide +kernel
theorem dD_mended_20 : decode bD_mended 20 = .ok (.iload_n 2, 1) := by decide +kernel
theorem dD_mended_21 : decode bD_mended 21 = .ok (.ifCond .lt 9, 3) := by decide +kernel
theorem dD_mended_24 : decode bD_mended 24 = .ok (.iload_n 2, 1) := by decide +kernel
theorem dD_mended_25 : decode bD_mended 25 = .ok (.bipush 10, 2) := by decide +kernel
theorem dD_mended_27 : decode bD_mended 27 = .ok (.if_icmp .lt 11, 3) := by decide +kernel
theorem dD_mended_30 : decode bD_mended 30 = .ok (.new 51, 3) := by decide +kernel
theorem dD_mended_33 : decode bD_mended 33 = .ok (.dup, 1) := by decide +kernel
theorem dD_mended_34 : decode bD_mended 34 = .ok (.invokespecial 53, 3) := by decide +kernel
theorem dD_mended_37 : decode bD_mended 37 = .ok (.athrow, 1) := by decide +kernel
theorem dD_mended_38 : decode bD_mended 38 = .ok (.aload_n 0, 1) := by decide +kernel
theorem dD_mended_39 : decode bD_mended 39 = .ok (.getfield 10, 3) := by decide +kernel
theorem dD_mended_42 : decode bD_mended 42 = .ok (.iconst 1, 1) := by decide +kernel
theorem dD_mended_43 : decode bD_mended 43 = .ok (.invokevirtual 65, 3) := by decide +kernel
theorem dD_mended_46 : decode bD_mended 46 = .ok (.ifCond .ne 11, 3) := by decide +kernel
theorem dD_mended_49 : decode bD_mended 49 = .ok (.new 58, 3) := by decide +kernel
theorem dD_mended_52 : decode bD_mended 52 = .ok (.dup, 1) := by decide +kernel
theorem dD_mended_53 : decode bD_mended 53 = .ok (.invokespecial 60, 3) := by decide +kernel
theorem dD_mended_56 : decode bD_mended 56 = .ok (.athrow, 1) := by decide +kernel
theorem dD_mended_57 : decode bD_mended 57 = .ok (.aload_n 0, 1) := by decide +kernel
theorem dD_mended_58 : decode bD_mended 58 = .ok (.getfield 10, 3) := by decide +kernel
theorem dD_mended_61 : decode bD_mended 61 = .ok (.iload_n 1, 1) := by decide +kernel
theorem dD_mended_62 : decode bD_mended 62 = .ok (.iload_n 2, 1) := by decide +kernel
theorem dD_mended_63 : decode bD_mended 63 = .ok (.invokevirtual 69, 3) := by decide +kernel
theorem dD_mended_66 : decode bD_mended 66 = .ok (.return_, 1) := by decide +kernel
theorem dD_clear_0 : decode bD_clear 0 = .ok (.aload_n 0, 1) := by decide +kernel
theorem dD_clear_1 : decode bD_clear 1 = .ok (.getfield 10, 3) := by decide +kernel
theorem dD_clear_4 : decode bD_clear 4 = .ok (.iconst 0, 1) := by decide +kernel
theorem dD_clear_5 : decode bD_clear 5 = .ok (.putfield 54, 3) := by decide +kernel
theorem dD_clear_8 : decode bD_clear 8 = .ok (.return_, 1) := by decide +kernel
theorem dD_link_0 : decode bD_link 0 = .ok (.iload_n 1, 1) := by decide +kernel
theorem dD_link_1 : decode bD_link 1 = .ok (.iconst 2, 1) := by decide +kernel
theorem dD_link_2 : decode bD_link 2 = .ok (.if_icmp .eq 22, 3) := by decide +kernel
theorem dD_link_5 : decode bD_link 5 = .ok (.iload_n 1, 1) := by decide +kernel
theorem dD_link_6 : decode bD_link 6 = .ok (.iconst 4, 1) := by decide +kernel
theorem dD_link_7 : decode bD_link 7 = .ok (.if_icmp .eq 17, 3) := by decide +kernel
theorem dD_link_10 : decode bD_link 10 = .ok (.iload_n 1, 1) := by decide +kernel
theorem dD_link_11 : decode bD_link 11 = .ok (.bipush 8, 2) := by decide +kernel
theorem dD_link_13 : decode bD_link 13 = .ok (.if_icmp .eq 11, 3) := by decide +kernel
theorem dD_link_16 : decode bD_link 16 = .ok (.new 51, 3) := by decide +kernel
theorem dD_link_19 : decode bD_link 19 = .ok (.dup, 1) := by decide +kernel
theorem dD_link_20 : decode bD_link 20 = .ok (.invokespecial 53, 3) := by decide +kernel
theorem dD_link_23 : decode bD_link 23 = .ok (.athrow, 1) := by decide +kernel
theorem dD_link_24 : decode bD_link 24 = .ok (.aload_n 0, 1) := by decide +kernel
theorem dD_link_25 : decode bD_link 25 = .ok (.getfield 10, 3) := by decide +kernel
theorem dD_link_28 : decode bD_link 28 = .ok (.getfield 54, 3) := by decide +kernel
theorem dD_link_31 : decode bD_link 31 = .ok (.ifCond .eq 13, 3) := by decide +kernel
theorem dD_link_34 : decode bD_link 34 = .ok (.aload_n 0, 1) := by decide +kernel
theorem dD_link_35 : decode bD_link 35 = .ok (.getfield 10, 3) := by decide +kernel
theorem dD_link_38 : decode bD_link 38 = .ok (.invokevirtual 73, 3) := by decide +kernel
theorem dD_link_41 : decode bD_link 41 = .ok (.ifCond .eq 11, 3) := by decide +kernel
theorem dD_link_44 : decode bD_link 44 = .ok (.new 77, 3) := by decide +kernel
theorem dD_link_47 : decode bD_link 47 = .ok (.dup, 1) := by decide +kernel
theorem dD_link_48 : decode bD_link 48 = .ok (.invokespecial 79, 3) := by decide +kernel
theorem dD_link_51 : decode bD_link 51 = .ok (.athrow, 1) := by decide +kernel
theorem dD_link_52 : decode bD_link 52 = .ok (.aload_n 0, 1) := by decide +kernel
theorem dD_link_53 : decode bD_link 53 = .ok (.getfield 48, 3) := by decide +kernel
theorem dD_link_56 : decode bD_link 56 = .ok (.aload_n 0, 1) := by decide +kernel
theorem dD_link_57 : decode bD_link 57 = .ok (.getfield 10, 3) := by decide +kernel
theorem dD_link_60 : decode bD_link 60 = .ok (.iload_n 1, 1) := by decide +kernel
theorem dD_link_61 : decode bD_link 61 = .ok (.invokevirtual 80, 3) := by decide +kernel
theorem dD_link_64 : decode bD_link 64 = .ok (.ifCond .ne 11, 3) := by decide +kernel
theorem dD_link_67 : decode bD_link 67 = .ok (.new 58, 3) := by decide +kernel
theorem dD_link_70 : decode bD_link 70 = .ok (.dup, 1) := by decide +kernel
theorem dD_link_71 : decode bD_link 71 = .ok (.invokespecial 60, 3) := by decide +kernel
theorem dD_link_74 : decode bD_link 74 = .ok (.athrow, 1) := by decide +kernel
theorem dD_link_75 : decode bD_link 75 = .ok (.aload_n 0, 1) := by decide +kernel
theorem dD_link_76 : decode bD_link 76 = .ok (.invokevirtual 84, 3) := by decide +kernel
theorem dD_link_79 : decode bD_link 79 = .ok (.aload_n 0, 1) := by decide +kernel
theorem dD_link_80 : decode bD_link 80 = .ok (.getfield 19, 3) := by decide +kernel
theorem dD_link_83 : decode bD_link 83 = .ok (.aload_n 0, 1) := by decide +kernel
theorem dD_link_84 : decode bD_link 84 = .ok (.getfield 10, 3) := by decide +kernel
theorem dD_link_87 : decode bD_link 87 = .ok (.aload_n 0, 1) := by decide +kernel
theorem dD_link_88 : decode bD_link 88 = .ok (.getfield 44, 3) := by decide +kernel
theorem dD_link_91 : decode bD_link 91 = .ok (.iload_n 1, 1) := by decide +kernel
theorem dD_link_92 : decode bD_link 92 = .ok (.invokevirtual 87, 3) := by decide +kernel
theorem dD_link_95 : decode bD_link 95 = .ok (.aload_n 0, 1) := by decide +kernel
theorem dD_link_96 : decode bD_link 96 = .ok (.getfield 37, 3) := by decide +kernel
theorem dD_link_99 : decode bD_link 99 = .ok (.invokevirtual 91, 3) := by decide +kernel
theorem dD_link_102 : decode bD_link 102 = .ok (.aload_n 0, 1) := by decide +kernel
theorem dD_link_103 : decode bD_link 103 = .ok (.getfield 10, 3) := by decide +kernel
theorem dD_link_106 : decode bD_link 106 = .ok (.invokevirtual 94, 3) := by decide +kernel
theorem dD_link_109 : decode bD_link 109 = .ok (.ireturn, 1) := by decide +kernel
theorem dD_packed_0 : decode bD_packed 0 = .ok (.iload_n 1, 1) := by decide +kernel
theorem dD_packed_1 : decode bD_packed 1 = .ok (.ifCond .lt 23, 3) := by decide +kernel
theorem dD_packed_4 : decode bD_packed 4 = .ok (.iload_n 1, 1) := by decide +kernel
theorem dD_packed_5 : decode bD_packed 5 = .ok (.aload_n 0, 1) := by decide +kernel
theorem dD_packed_6 : decode bD_packed 6 = .ok (.getfield 44, 3) := by decide +kernel
theorem dD_packed_9 : decode bD_packed 9 = .ok (.getfield 98, 3) := by decide +kernel
theorem dD_packed_12 : decode bD_packed 12 = .ok (.if_icmp .ge 12, 3) := by decide +kernel
theorem dD_packed_15 : decode bD_packed 15 = .ok (.iload_n 2, 1) := by decide +kernel
theorem dD_packed_16 : decode bD_packed 16 = .ok (.ifCond .lt 8, 3) := by decide +kernel
theorem dD_packed_19 : decode bD_packed 19 = .ok (.iload_n 2, 1) := by decide +kernel
theorem dD_packed_20 : decode bD_packed 20 = .ok (.iconst 1, 1) := by decide +kernel
theorem dD_packed_21 : decode bD_packed 21 = .ok (.if_icmp .le 11, 3) := by decide +kernel
theorem dD_packed_24 : decode bD_packed 24 = .ok (.new 77, 3) := by decide +kernel
theorem dD_packed_27 : decode bD_packed 27 = .ok (.dup, 1) := by decide +kernel
theorem dD_packed_28 : decode bD_packed 28 = .ok (.invokespecial 79, 3) := by decide +kernel
theorem dD_packed_31 : decode bD_packed 31 = .ok (.athrow, 1) := by decide +kernel
theorem dD_packed_32 : decode bD_packed 32 = .ok (.iload_n 2, 1) := by decide +kernel
theorem dD_packed_33 : decode bD_packed 33 = .ok (.ifCond .ne 15, 3) := by decide +kernel
theorem dD_packed_36 : decode bD_packed 36 = .ok (.aload_n 0, 1) := by decide +kernel
theorem dD_packed_37 : decode bD_packed 37 = .ok (.getfield 44, 3) := by decide +kernel
theorem dD_packed_40 : decode bD_packed 40 = .ok (.getfield 99, 3) := by decide +kernel
theorem dD_packed_43 : decode bD_packed 43 = .ok (.iload_n 1, 1) := by decide +kernel
theorem dD_packed_44 : decode bD_packed 44 = .ok (.iaload, 1) := by decide +kernel
theorem dD_packed_45 : decode bD_packed 45 = .ok (.goto 11, 3) := by decide +kernel
theorem dD_packed_48 : decode bD_packed 48 = .ok (.aload_n 0, 1) := by decide +kernel
theorem dD_packed_49 : decode bD_packed 49 = .ok (.getfield 44, 3) := by decide +kernel
theorem dD_packed_52 : decode bD_packed 52 = .ok (.iload_n 1, 1) := by decide +kernel
theorem dD_packed_53 : decode bD_packed 53 = .ok (.invokevirtual 103, 3) := by decide +kernel
theorem dD_packed_56 : decode bD_packed 56 = .ok (.ireturn, 1) := by decide +kernel
theorem dD_image_0 : decode bD_image 0 = .ok (.iload_n 1, 1) := by decide +kernel
theorem dD_image_1 : decode bD_image 1 = .ok (.ifCond .lt 14, 3) := by decide +kernel
theorem dD_image_4 : decode bD_image 4 = .ok (.iload_n 1, 1) := by decide +kernel
theorem dD_image_5 : decode bD_image 5 = .ok (.aload_n 0, 1) := by decide +kernel
theorem dD_image_6 : decode bD_image 6 = .ok (.getfield 19, 3) := by decide +kernel
theorem dD_image_9 : decode bD_image 9 = .ok (.invokevirtual 106, 3) := by decide +kernel
theorem dD_image_12 : decode bD_image 12 = .ok (.if_icmp .lt 11, 3) := by decide +kernel
theorem dD_image_15 : decode bD_image 15 = .ok (.new 77, 3) := by decide +kernel
theorem dD_image_18 : decode bD_image 18 = .ok (.dup, 1) := by decide +kernel
theorem dD_image_19 : decode bD_image 19 = .ok (.invokespecial 79, 3) := by decide +kernel
theorem dD_image_22 : decode bD_image 22 = .ok (.athrow, 1) := by decide +kernel
theorem dD_image_23 : decode bD_image 23 = .ok (.aload_n 0, 1) := by decide +kernel
theorem dD_image_24 : decode bD_image 24 = .ok (.getfield 19, 3) := by decide +kernel
theorem dD_image_27 : decode bD_image 27 = .ok (.getfield 109, 3) := by decide +kernel
theorem dD_image_30 : decode bD_image 30 = .ok (.iload_n 1, 1) := by decide +kernel
theorem dD_image_31 : decode bD_image 31 = .ok (.iaload, 1) := by decide +kernel
theorem dD_image_32 : decode bD_image 32 = .ok (.ireturn, 1) := by decide +kernel
theorem dD_spoil_0 : decode bD_spoil 0 = .ok (.iload_n 1, 1) := by decide +kernel
theorem dD_spoil_1 : decode bD_spoil 1 = .ok (.ifCond .lt 14, 3) := by decide +kernel
theorem dD_spoil_4 : decode bD_spoil 4 = .ok (.iload_n 1, 1) := by decide +kernel
theorem dD_spoil_5 : decode bD_spoil 5 = .ok (.aload_n 0, 1) := by decide +kernel
theorem dD_spoil_6 : decode bD_spoil 6 = .ok (.getfield 19, 3) := by decide +kernel
theorem dD_spoil_9 : decode bD_spoil 9 = .ok (.invokevirtual 106, 3) := by decide +kernel
theorem dD_spoil_12 : decode bD_spoil 12 = .ok (.if_icmp .lt 11, 3) := by decide +kernel
theorem dD_spoil_15 : decode bD_spoil 15 = .ok (.new 77, 3) := by decide +kernel
theorem dD_spoil_18 : decode bD_spoil 18 = .ok (.dup, 1) := by decide +kernel
theorem dD_spoil_19 : decode bD_spoil 19 = .ok (.invokespecial 79, 3) := by decide +kernel
theorem dD_spoil_22 : decode bD_spoil 22 = .ok (.athrow, 1) := by decide +kernel
theorem dD_spoil_23 : decode bD_spoil 23 = .ok (.aload_n 0, 1) := by decide +kernel
theorem dD_spoil_24 : decode bD_spoil 24 = .ok (.getfield 19, 3) := by decide +kernel
theorem dD_spoil_27 : decode bD_spoil 27 = .ok (.getfield 109, 3) := by decide +kernel
theorem dD_spoil_30 : decode bD_spoil 30 = .ok (.iload_n 1, 1) := by decide +kernel
theorem dD_spoil_31 : decode bD_spoil 31 = .ok (.iload_n 2, 1) := by decide +kernel
theorem dD_spoil_32 : decode bD_spoil 32 = .ok (.sipush 255, 3) := by decide +kernel
theorem dD_spoil_35 : decode bD_spoil 35 = .ok (.iand, 1) := by decide +kernel
theorem dD_spoil_36 : decode bD_spoil 36 = .ok (.iastore, 1) := by decide +kernel
theorem dD_spoil_37 : decode bD_spoil 37 = .ok (.return_, 1) := by decide +kernel
theorem dD_valid_0 : decode bD_valid 0 = .ok (.aload_n 0, 1) := by decide +kernel
theorem dD_valid_1 : decode bD_valid 1 = .ok (.getfield 19, 3) := by decide +kernel
theorem dD_valid_4 : decode bD_valid 4 = .ok (.invokevirtual 112, 3) := by decide +kernel
theorem dD_valid_7 : decode bD_valid 7 = .ok (.ifCond .ne 11, 3) := by decide +kernel
theorem dD_valid_10 : decode bD_valid 10 = .ok (.new 77, 3) := by decide +kernel
theorem dD_valid_13 : decode bD_valid 13 = .ok (.dup, 1) := by decide +kernel
theorem dD_valid_14 : decode bD_valid 14 = .ok (.invokespecial 79, 3) := by decide +kernel
theorem dD_valid_17 : decode bD_valid 17 = .ok (.athrow, 1) := by decide +kernel
theorem dD_valid_18 : decode bD_valid 18 = .ok (.aload_n 0, 1) := by decide +kernel
theorem dD_valid_19 : decode bD_valid 19 = .ok (.getfield 19, 3) := by decide +kernel
theorem dD_valid_22 : decode bD_valid 22 = .ok (.invokevirtual 115, 3) := by decide +kernel
theorem dD_valid_25 : decode bD_valid 25 = .ok (.ireturn, 1) := by decide +kernel
theorem dD_restart_0 : decode bD_restart 0 = .ok (.aload_n 0, 1) := by decide +kernel
theorem dD_restart_1 : decode bD_restart 1 = .ok (.getfield 37, 3) := by decide +kernel
theorem dD_restart_4 : decode bD_restart 4 = .ok (.invokevirtual 91, 3) := by decide +kernel
theorem dD_restart_7 : decode bD_restart 7 = .ok (.return_, 1) := by decide +kernel
theorem dD_raise_0 : decode bD_raise 0 = .ok (.iload_n 1, 1) := by decide +kernel
theorem dD_raise_1 : decode bD_raise 1 = .ok (.ifCond .lt 8, 3) := by decide +kernel
theorem dD_raise_4 : decode bD_raise 4 = .ok (.iload_n 1, 1) := by decide +kernel
theorem dD_raise_5 : decode bD_raise 5 = .ok (.iconst 4, 1) := by decide +kernel
theorem dD_raise_6 : decode bD_raise 6 = .ok (.if_icmp .lt 11, 3) := by decide +kernel
theorem dD_raise_9 : decode bD_raise 9 = .ok (.new 51, 3) := by decide +kernel
theorem dD_raise_12 : decode bD_raise 12 = .ok (.dup, 1) := by decide +kernel
theorem dD_raise_13 : decode bD_raise 13 = .ok (.invokespecial 53, 3) := by decide +kernel
theorem dD_raise_16 : decode bD_raise 16 = .ok (.athrow, 1) := by decide +kernel
theorem dD_raise_17 : decode bD_raise 17 = .ok (.aload_n 0, 1) := by decide +kernel
theorem dD_raise_18 : decode bD_raise 18 = .ok (.getfield 28, 3) := by decide +kernel
theorem dD_raise_21 : decode bD_raise 21 = .ok (.dup, 1) := by decide +kernel
theorem dD_raise_22 : decode bD_raise 22 = .ok (.getfield 118, 3) := by decide +kernel
theorem dD_raise_25 : decode bD_raise 25 = .ok (.iconst 1, 1) := by decide +kernel
theorem dD_raise_26 : decode bD_raise 26 = .ok (.iload_n 1, 1) := by decide +kernel
theorem dD_raise_27 : decode bD_raise 27 = .ok (.ishl, 1) := by decide +kernel
theorem dD_raise_28 : decode bD_raise 28 = .ok (.ior, 1) := by decide +kernel
theorem dD_raise_29 : decode bD_raise 29 = .ok (.putfield 118, 3) := by decide +kernel
theorem dD_raise_32 : decode bD_raise 32 = .ok (.return_, 1) := by decide +kernel
theorem dD_run_0 : decode bD_run 0 = .ok (.aload_n 0, 1) := by decide +kernel
theorem dD_run_1 : decode bD_run 1 = .ok (.getfield 19, 3) := by decide +kernel
theorem dD_run_4 : decode bD_run 4 = .ok (.invokevirtual 112, 3) := by decide +kernel
theorem dD_run_7 : decode bD_run 7 = .ok (.ifCond .ne 11, 3) := by decide +kernel
theorem dD_run_10 : decode bD_run 10 = .ok (.new 77, 3) := by decide +kernel
theorem dD_run_13 : decode bD_run 13 = .ok (.dup, 1) := by decide +kernel
theorem dD_run_14 : decode bD_run 14 = .ok (.invokespecial 79, 3) := by decide +kernel
theorem dD_run_17 : decode bD_run 17 = .ok (.athrow, 1) := by decide +kernel
theorem dD_run_18 : decode bD_run 18 = .ok (.iconst 0, 1) := by decide +kernel
theorem dD_run_19 : decode bD_run 19 = .ok (.istore_n 2, 1) := by decide +kernel
theorem dD_run_20 : decode bD_run 20 = .ok (.iload_n 2, 1) := by decide +kernel
theorem dD_run_21 : decode bD_run 21 = .ok (.iload_n 1, 1) := by decide +kernel
theorem dD_run_22 : decode bD_run 22 = .ok (.if_icmp .ge 33, 3) := by decide +kernel
theorem dD_run_25 : decode bD_run 25 = .ok (.iload_n 2, 1) := by decide +kernel
theorem dD_run_26 : decode bD_run 26 = .ok (.sipush 2000, 3) := by decide +kernel
theorem dD_run_29 : decode bD_run 29 = .ok (.if_icmp .ge 26, 3) := by decide +kernel
theorem dD_run_32 : decode bD_run 32 = .ok (.aload_n 0, 1) := by decide +kernel
theorem dD_run_33 : decode bD_run 33 = .ok (.getfield 37, 3) := by decide +kernel
theorem dD_run_36 : decode bD_run 36 = .ok (.invokevirtual 121, 3) := by decide +kernel
theorem dD_run_39 : decode bD_run 39 = .ok (.ifCond .eq 16, 3) := by decide +kernel
theorem dD_run_42 : decode bD_run 42 = .ok (.aload_n 0, 1) := by decide +kernel
theorem dD_run_43 : decode bD_run 43 = .ok (.getfield 37, 3) := by decide +kernel
theorem dD_run_46 : decode bD_run 46 = .ok (.invokevirtual 124, 3) := by decide +kernel
theorem dD_run_49 : decode bD_run 49 = .ok (.iinc 2 1, 3) := by decide +kernel
theorem dD_run_52 : decode bD_run 52 = .ok (.goto (-32), 3) := by decide +kernel
theorem dD_run_55 : decode bD_run 55 = .ok (.iload_n 2, 1) := by decide +kernel
theorem dD_run_56 : decode bD_run 56 = .ok (.ireturn, 1) := by decide +kernel
theorem dD_state_0 : decode bD_state 0 = .ok (.aload_n 0, 1) := by decide +kernel
theorem dD_state_1 : decode bD_state 1 = .ok (.getfield 37, 3) := by decide +kernel
theorem dD_state_4 : decode bD_state 4 = .ok (.getfield 127, 3) := by decide +kernel
theorem dD_state_7 : decode bD_state 7 = .ok (.ireturn, 1) := by decide +kernel
theorem dD_register_0 : decode bD_register 0 = .ok (.iload_n 1, 1) := by decide +kernel
theorem dD_register_1 : decode bD_register 1 = .ok (.bipush 6, 2) := by decide +kernel
theorem dD_register_3 : decode bD_register 3 = .ok (.if_icmp .ne 7, 3) := by decide +kernel
theorem dD_register_6 : decode bD_register 6 = .ok (.iconst 1, 1) := by decide +kernel
theorem dD_register_7 : decode bD_register 7 = .ok (.goto 4, 3) := by decide +kernel
theorem dD_register_10 : decode bD_register 10 = .ok (.iconst 0, 1) := by decide +kernel
theorem dD_register_11 : decode bD_register 11 = .ok (.istore_n 2, 1) := by decide +kernel
theorem dD_register_12 : decode bD_register 12 = .ok (.iload_n 1, 1) := by decide +kernel
theorem dD_register_13 : decode bD_register 13 = .ok (.ifCond .lt 23, 3) := by decide +kernel
theorem dD_register_16 : decode bD_register 16 = .ok (.iload_n 1, 1) := by decide +kernel
theorem dD_register_17 : decode bD_register 17 = .ok (.bipush 12, 2) := by decide +kernel
theorem dD_register_19 : decode bD_register 19 = .ok (.if_icmp .gt 17, 3) := by decide +kernel
theorem dD_register_22 : decode bD_register 22 = .ok (.iload_n 2, 1) := by decide +kernel
theorem dD_register_23 : decode bD_register 23 = .ok (.ifCond .eq 21, 3) := by decide +kernel
theorem dD_register_26 : decode bD_register 26 = .ok (.aload_n 0, 1) := by decide +kernel
theorem dD_register_27 : decode bD_register 27 = .ok (.getfield 19, 3) := by decide +kernel
theorem dD_register_30 : decode bD_register 30 = .ok (.invokevirtual 112, 3) := by decide +kernel
theorem dD_register_33 : decode bD_register 33 = .ok (.ifCond .ne 11, 3) := by decide +kernel
theorem dD_register_36 : decode bD_register 36 = .ok (.new 77, 3) := by decide +kernel
theorem dD_register_39 : decode bD_register 39 = .ok (.dup, 1) := by decide +kernel
theorem dD_register_40 : decode bD_register 40 = .ok (.invokespecial 79, 3) := by decide +kernel
theorem dD_register_43 : decode bD_register 43 = .ok (.athrow, 1) := by decide +kernel
theorem dD_register_44 : decode bD_register 44 = .ok (.aload_n 0, 1) := by decide +kernel
theorem dD_register_45 : decode bD_register 45 = .ok (.getfield 37, 3) := by decide +kernel
theorem dD_register_48 : decode bD_register 48 = .ok (.iload_n 1, 1) := by decide +kernel
theorem dD_register_49 : decode bD_register 49 = .ok (.invokevirtual 130, 3) := by decide +kernel
theorem dD_register_52 : decode bD_register 52 = .ok (.ireturn, 1) := by decide +kernel
theorem dD_peek_0 : decode bD_peek 0 = .ok (.iload_n 1, 1) := by decide +kernel
theorem dD_peek_1 : decode bD_peek 1 = .ok (.ifCond .lt 20, 3) := by decide +kernel
theorem dD_peek_4 : decode bD_peek 4 = .ok (.iload_n 1, 1) := by decide +kernel
theorem dD_peek_5 : decode bD_peek 5 = .ok (.sipush 255, 3) := by decide +kernel
theorem dD_peek_8 : decode bD_peek 8 = .ok (.if_icmp .gt 13, 3) := by decide +kernel
theorem dD_peek_11 : decode bD_peek 11 = .ok (.aload_n 0, 1) := by decide +kernel
theorem dD_peek_12 : decode bD_peek 12 = .ok (.getfield 19, 3) := by decide +kernel
theorem dD_peek_15 : decode bD_peek 15 = .ok (.invokevirtual 112, 3) := by decide +kernel
theorem dD_peek_18 : decode bD_peek 18 = .ok (.ifCond .ne 11, 3) := by decide +kernel
theorem dD_peek_21 : decode bD_peek 21 = .ok (.new 77, 3) := by decide +kernel
theorem dD_peek_24 : decode bD_peek 24 = .ok (.dup, 1) := by decide +kernel
theorem dD_peek_25 : decode bD_peek 25 = .ok (.invokespecial 79, 3) := by decide +kernel
theorem dD_peek_28 : decode bD_peek 28 = .ok (.athrow, 1) := by decide +kernel
theorem dD_peek_29 : decode bD_peek 29 = .ok (.aload_n 0, 1) := by decide +kernel
theorem dD_peek_30 : decode bD_peek 30 = .ok (.getfield 28, 3) := by decide +kernel
theorem dD_peek_33 : decode bD_peek 33 = .ok (.iload_n 1, 1) := by decide +kernel
theorem dD_peek_34 : decode bD_peek 34 = .ok (.invokevirtual 133, 3) := by decide +kernel
theorem dD_peek_37 : decode bD_peek 37 = .ok (.ireturn, 1) := by decide +kernel
theorem dD_sent_0 : decode bD_sent 0 = .ok (.aload_n 0, 1) := by decide +kernel
theorem dD_sent_1 : decode bD_sent 1 = .ok (.getfield 37, 3) := by decide +kernel
theorem dD_sent_4 : decode bD_sent 4 = .ok (.getfield 136, 3) := by decide +kernel
theorem dD_sent_7 : decode bD_sent 7 = .ok (.ireturn, 1) := by decide +kernel
theorem dD_byteSent_0 : decode bD_byteSent 0 = .ok (.iload_n 1, 1) := by decide +kernel
theorem dD_byteSent_1 : decode bD_byteSent 1 = .ok (.ifCond .lt 14, 3) := by decide +kernel
theorem dD_byteSent_4 : decode bD_byteSent 4 = .ok (.iload_n 1, 1) := by decide +kernel
theorem dD_byteSent_5 : decode bD_byteSent 5 = .ok (.aload_n 0, 1) := by decide +kernel
theorem dD_byteSent_6 : decode bD_byteSent 6 = .ok (.getfield 37, 3) := by decide +kernel
theorem dD_byteSent_9 : decode bD_byteSent 9 = .ok (.invokevirtual 139, 3) := by decide +kernel
theorem dD_byteSent_12 : decode bD_byteSent 12 = .ok (.if_icmp .lt 11, 3) := by decide +kernel
theorem dD_byteSent_15 : decode bD_byteSent 15 = .ok (.new 77, 3) := by decide +kernel
theorem dD_byteSent_18 : decode bD_byteSent 18 = .ok (.dup, 1) := by decide +kernel
theorem dD_byteSent_19 : decode bD_byteSent 19 = .ok (.invokespecial 79, 3) := by decide +kernel
theorem dD_byteSent_22 : decode bD_byteSent 22 = .ok (.athrow, 1) := by decide +kernel
theorem dD_byteSent_23 : decode bD_byteSent 23 = .ok (.aload_n 0, 1) := by decide +kernel
theorem dD_byteSent_24 : decode bD_byteSent 24 = .ok (.getfield 37, 3) := by decide +kernel
theorem dD_byteSent_27 : decode bD_byteSent 27 = .ok (.getfield 142, 3) := by decide +kernel
theorem dD_byteSent_30 : decode bD_byteSent 30 = .ok (.iload_n 1, 1) := by decide +kernel
theorem dD_byteSent_31 : decode bD_byteSent 31 = .ok (.iaload, 1) := by decide +kernel
theorem dD_byteSent_32 : decode bD_byteSent 32 = .ok (.ireturn, 1) := by decide +kernel
theorem dD_keepTried_0 : decode bD_keepTried 0 = .ok (.aload_n 0, 1) := by decide +kernel
theorem dD_keepTried_1 : decode bD_keepTried 1 = .ok (.getfield 44, 3) := by decide +kernel
theorem dD_keepTried_4 : decode bD_keepTried 4 = .ok (.astore_n 1, 1) := by decide +kernel
theorem dD_keepTried_5 : decode bD_keepTried 5 = .ok (.aload_n 0, 1) := by decide +kernel
theorem dD_keepTried_6 : decode bD_keepTried 6 = .ok (.aload_n 0, 1) := by decide +kernel
theorem dD_keepTried_7 : decode bD_keepTried 7 = .ok (.getfield 48, 3) := by decide +kernel
theorem dD_keepTried_10 : decode bD_keepTried 10 = .ok (.putfield 44, 3) := by decide +kernel
theorem dD_keepTried_13 : decode bD_keepTried 13 = .ok (.aload_n 0, 1) := by decide +kernel
theorem dD_keepTried_14 : decode bD_keepTried 14 = .ok (.aload_n 1, 1) := by decide +kernel
theorem dD_keepTried_15 : decode bD_keepTried 15 = .ok (.putfield 48, 3) := by decide +kernel
theorem dD_keepTried_18 : decode bD_keepTried 18 = .ok (.return_, 1) := by decide +kernel
theorem dQ_init_0 : decode bQ_init 0 = .ok (.aload_n 0, 1) := by decide +kernel
theorem dQ_init_1 : decode bQ_init 1 = .ok (.invokespecial 1, 3) := by decide +kernel
theorem dQ_init_4 : decode bQ_init 4 = .ok (.aload_n 0, 1) := by decide +kernel
theorem dQ_init_5 : decode bQ_init 5 = .ok (.bipush 10, 2) := by decide +kernel
theorem dQ_init_7 : decode bQ_init 7 = .ok (.newarray .int, 2) := by decide +kernel
theorem dQ_init_9 : decode bQ_init 9 = .ok (.putfield 7, 3) := by decide +kernel
theorem dQ_init_12 : decode bQ_init 12 = .ok (.aload_n 0, 1) := by decide +kernel
theorem dQ_init_13 : decode bQ_init 13 = .ok (.bipush 10, 2) := by decide +kernel
theorem dQ_init_15 : decode bQ_init 15 = .ok (.newarray .int, 2) := by decide +kernel
theorem dQ_init_17 : decode bQ_init 17 = .ok (.putfield 13, 3) := by decide +kernel
theorem dQ_init_20 : decode bQ_init 20 = .ok (.aload_n 0, 1) := by decide +kernel
theorem dQ_init_21 : decode bQ_init 21 = .ok (.sipush 480, 3) := by decide +kernel
theorem dQ_init_24 : decode bQ_init 24 = .ok (.newarray .int, 2) := by decide +kernel
theorem dQ_init_26 : decode bQ_init 26 = .ok (.putfield 16, 3) := by decide +kernel
theorem dQ_init_29 : decode bQ_init 29 = .ok (.aload_n 0, 1) := by decide +kernel
theorem dQ_init_30 : decode bQ_init 30 = .ok (.sipush 480, 3) := by decide +kernel
theorem dQ_init_33 : decode bQ_init 33 = .ok (.newarray .int, 2) := by decide +kernel
theorem dQ_init_35 : decode bQ_init 35 = .ok (.putfield 19, 3) := by decide +kernel
theorem dQ_init_38 : decode bQ_init 38 = .ok (.aload_n 0, 1) := by decide +kernel
theorem dQ_init_39 : decode bQ_init 39 = .ok (.bipush 10, 2) := by decide +kernel
theorem dQ_init_41 : decode bQ_init 41 = .ok (.newarray .int, 2) := by decide +kernel
theorem dQ_init_43 : decode bQ_init 43 = .ok (.putfield 22, 3) := by decide +kernel
theorem dQ_init_46 : decode bQ_init 46 = .ok (.aload_n 0, 1) := by decide +kernel
theorem dQ_init_47 : decode bQ_init 47 = .ok (.bipush 10, 2) := by decide +kernel
theorem dQ_init_49 : decode bQ_init 49 = .ok (.newarray .int, 2) := by decide +kernel
theorem dQ_init_51 : decode bQ_init 51 = .ok (.putfield 25, 3) := by decide +kernel
theorem dQ_init_54 : decode bQ_init 54 = .ok (.aload_n 0, 1) := by decide +kernel
theorem dQ_init_55 : decode bQ_init 55 = .ok (.bipush 8, 2) := by decide +kernel
theorem dQ_init_57 : decode bQ_init 57 = .ok (.newarray .int, 2) := by decide +kernel
theorem dQ_init_59 : decode bQ_init 59 = .ok (.putfield 28, 3) := by decide +kernel
theorem dQ_init_62 : decode bQ_init 62 = .ok (.aload_n 0, 1) := by decide +kernel
theorem dQ_init_63 : decode bQ_init 63 = .ok (.bipush 10, 2) := by decide +kernel
theorem dQ_init_65 : decode bQ_init 65 = .ok (.newarray .int, 2) := by decide +kernel
theorem dQ_init_67 : decode bQ_init 67 = .ok (.putfield 31, 3) := by decide +kernel
theorem dQ_init_70 : decode bQ_init 70 = .ok (.aload_n 0, 1) := by decide +kernel
theorem dQ_init_71 : decode bQ_init 71 = .ok (.bipush 10, 2) := by decide +kernel
theorem dQ_init_73 : decode bQ_init 73 = .ok (.newarray .int, 2) := by decide +kernel
theorem dQ_init_75 : decode bQ_init 75 = .ok (.putfield 34, 3) := by decide +kernel
theorem dQ_init_78 : decode bQ_init 78 = .ok (.aload_n 0, 1) := by decide +kernel
theorem dQ_init_79 : decode bQ_init 79 = .ok (.sipush 705, 3) := by decide +kernel
theorem dQ_init_82 : decode bQ_init 82 = .ok (.newarray .int, 2) := by decide +kernel
theorem dQ_init_84 : decode bQ_init 84 = .ok (.putfield 37, 3) := by decide +kernel
theorem dQ_init_87 : decode bQ_init 87 = .ok (.aload_n 0, 1) := by decide +kernel
theorem dQ_init_88 : decode bQ_init 88 = .ok (.bipush 8, 2) := by decide +kernel
theorem dQ_init_90 : decode bQ_init 90 = .ok (.newarray .int, 2) := by decide +kernel
theorem dQ_init_92 : decode bQ_init 92 = .ok (.putfield 40, 3) := by decide +kernel
theorem dQ_init_95 : decode bQ_init 95 = .ok (.aload_n 0, 1) := by decide +kernel
theorem dQ_init_96 : decode bQ_init 96 = .ok (.bipush 100, 2) := by decide +kernel
theorem dQ_init_98 : decode bQ_init 98 = .ok (.newarray .int, 2) := by decide +kernel
theorem dQ_init_100 : decode bQ_init 100 = .ok (.putfield 43, 3) := by decide +kernel
theorem dQ_init_103 : decode bQ_init 103 = .ok (.aload_n 0, 1) := by decide +kernel
theorem dQ_init_104 : decode bQ_init 104 = .ok (.invokevirtual 46, 3) := by decide +kernel
theorem dQ_init_107 : decode bQ_init 107 = .ok (.return_, 1) := by decide +kernel
theorem dQ_thrown_0 : decode bQ_thrown 0 = .ok (.aload_n 0, 1) := by decide +kernel
theorem dQ_thrown_1 : decode bQ_thrown 1 = .ok (.getfield 49, 3) := by decide +kernel
theorem dQ_thrown_4 : decode bQ_thrown 4 = .ok (.ireturn, 1) := by decide +kernel
theorem dQ_refuse_0 : decode bQ_refuse 0 = .ok (.aload_n 0, 1) := by decide +kernel
theorem dQ_refuse_1 : decode bQ_refuse 1 = .ok (.iload_n 1, 1) := by decide +kernel
theorem dQ_refuse_2 : decode bQ_refuse 2 = .ok (.putfield 49, 3) := by decide +kernel
theorem dQ_refuse_5 : decode bQ_refuse 5 = .ok (.iconst 0, 1) := by decide +kernel
theorem dQ_refuse_6 : decode bQ_refuse 6 = .ok (.ireturn, 1) := by decide +kernel
theorem dQ_outside_0 : decode bQ_outside 0 = .ok (.iload_n 0, 1) := by decide +kernel
theorem dQ_outside_1 : decode bQ_outside 1 = .ok (.iload_n 1, 1) := by decide +kernel
theorem dQ_outside_2 : decode bQ_outside 2 = .ok (.if_icmp .lt 8, 3) := by decide +kernel
theorem dQ_outside_5 : decode bQ_outside 5 = .ok (.iload_n 0, 1) := by decide +kernel
theorem dQ_outside_6 : decode bQ_outside 6 = .ok (.iload_n 2, 1) := by decide +kernel
theorem dQ_outside_7 : decode bQ_outside 7 = .ok (.if_icmp .le 7, 3) := by decide +kernel
theorem dQ_outside_10 : decode bQ_outside 10 = .ok (.iconst 1, 1) := by decide +kernel
theorem dQ_outside_11 : decode bQ_outside 11 = .ok (.goto 4, 3) := by decide +kernel
theorem dQ_outside_14 : decode bQ_outside 14 = .ok (.iconst 0, 1) := by decide +kernel
theorem dQ_outside_15 : decode bQ_outside 15 = .ok (.ireturn, 1) := by decide +kernel
theorem dQ_begin_0 : decode bQ_begin 0 = .ok (.sipush 512, 3) := by decide +kernel
theorem dQ_begin_3 : decode bQ_begin 3 = .ok (.istore_n 1, 1) := by decide +kernel
theorem dQ_begin_4 : decode bQ_begin 4 = .ok (.iload_n 1, 1) := by decide +kernel
theorem dQ_begin_5 : decode bQ_begin 5 = .ok (.sipush 705, 3) := by decide +kernel
theorem dQ_begin_8 : decode bQ_begin 8 = .ok (.if_icmp .ge 29, 3) := by decide +kernel
theorem dQ_begin_11 : decode bQ_begin 11 = .ok (.aload_n 0, 1) := by decide +kernel
theorem dQ_begin_12 : decode bQ_begin 12 = .ok (.getfield 37, 3) := by decide +kernel
theorem dQ_begin_15 : decode bQ_begin 15 = .ok (.iload_n 1, 1) := by decide +kernel
theorem dQ_begin_16 : decode bQ_begin 16 = .ok (.iload_n 1, 1) := by decide +kernel
theorem dQ_begin_17 : decode bQ_begin 17 = .ok (.sipush 704, 3) := by decide +kernel
theorem dQ_begin_20 : decode bQ_begin 20 = .ok (.if_icmp .ne 9, 3) := by decide +kernel
theorem dQ_begin_23 : decode bQ_begin 23 = .ok (.sipush 255, 3) := by decide +kernel
theorem dQ_begin_26 : decode bQ_begin 26 = .ok (.goto 4, 3) := by decide +kernel
theorem dQ_begin_29 : decode bQ_begin 29 = .ok (.iconst 0, 1) := by decide +kernel
theorem dQ_begin_30 : decode bQ_begin 30 = .ok (.iastore, 1) := by decide +kernel
theorem dQ_begin_31 : decode bQ_begin 31 = .ok (.iinc 1 1, 3) := by decide +kernel
theorem dQ_begin_34 : decode bQ_begin 34 = .ok (.goto (-30), 3) := by decide +kernel
theorem dQ_begin_37 : decode bQ_begin 37 = .ok (.iconst 0, 1) := by decide +kernel
theorem dQ_begin_38 : decode bQ_begin 38 = .ok (.istore_n 1, 1) := by decide +kernel
theorem dQ_begin_39 : decode bQ_begin 39 = .ok (.iload_n 1, 1) := by decide +kernel
theorem dQ_begin_40 : decode bQ_begin 40 = .ok (.bipush 8, 2) := by decide +kernel
theorem dQ_begin_42 : decode bQ_begin 42 = .ok (.if_icmp .ge 16, 3) := by decide +kernel
theorem dQ_begin_45 : decode bQ_begin 45 = .ok (.aload_n 0, 1) := by decide +kernel
theorem dQ_begin_46 : decode bQ_begin 46 = .ok (.getfield 40, 3) := by decide +kernel
theorem dQ_begin_49 : decode bQ_begin 49 = .ok (.iload_n 1, 1) := by decide +kernel
theorem dQ_begin_50 : decode bQ_begin 50 = .ok (.iconst 0, 1) := by decide +kernel
theorem dQ_begin_51 : decode bQ_begin 51 = .ok (.iastore, 1) := by decide +kernel
theorem dQ_begin_52 : decode bQ_begin 52 = .ok (.iinc 1 1, 3) := by decide +kernel
theorem dQ_begin_55 : decode bQ_begin 55 = .ok (.goto (-16), 3) := by decide +kernel
theorem dQ_begin_58 : decode bQ_begin 58 = .ok (.aload_n 0, 1) := by decide +kernel
theorem dQ_begin_59 : decode bQ_begin 59 = .ok (.sipush 240, 3) := by decide +kernel
theorem dQ_begin_62 : decode bQ_begin 62 = .ok (.putfield 53, 3) := by decide +kernel
theorem dQ_begin_65 : decode bQ_begin 65 = .ok (.aload_n 0, 1) := by decide +kernel
theorem dQ_begin_66 : decode bQ_begin 66 = .ok (.iconst 0, 1) := by decide +kernel
theorem dQ_begin_67 : decode bQ_begin 67 = .ok (.putfield 56, 3) := by decide +kernel
theorem dQ_begin_70 : decode bQ_begin 70 = .ok (.aload_n 0, 1) := by decide +kernel
theorem dQ_begin_71 : decode bQ_begin 71 = .ok (.iconst 0, 1) := by decide +kernel
theorem dQ_begin_72 : decode bQ_begin 72 = .ok (.putfield 59, 3) := by decide +kernel
theorem dQ_begin_75 : decode bQ_begin 75 = .ok (.aload_n 0, 1) := by decide +kernel
theorem dQ_begin_76 : decode bQ_begin 76 = .ok (.iconst 0, 1) := by decide +kernel
theorem dQ_begin_77 : decode bQ_begin 77 = .ok (.putfield 63, 3) := by decide +kernel
theorem dQ_begin_80 : decode bQ_begin 80 = .ok (.aload_n 0, 1) := by decide +kernel
theorem dQ_begin_81 : decode bQ_begin 81 = .ok (.iconst 0, 1) := by decide +kernel
theorem dQ_begin_82 : decode bQ_begin 82 = .ok (.putfield 66, 3) := by decide +kernel
theorem dQ_begin_85 : decode bQ_begin 85 = .ok (.aload_n 0, 1) := by decide +kernel
theorem dQ_begin_86 : decode bQ_begin 86 = .ok (.iconst 0, 1) := by decide +kernel
theorem dQ_begin_87 : decode bQ_begin 87 = .ok (.putfield 69, 3) := by decide +kernel
theorem dQ_begin_90 : decode bQ_begin 90 = .ok (.aload_n 0, 1) := by decide +kernel
theorem dQ_begin_91 : decode bQ_begin 91 = .ok (.iconst 0, 1) := by decide +kernel
theorem dQ_begin_92 : decode bQ_begin 92 = .ok (.putfield 72, 3) := by decide +kernel
theorem dQ_begin_95 : decode bQ_begin 95 = .ok (.aload_n 0, 1) := by decide +kernel
theorem dQ_begin_96 : decode bQ_begin 96 = .ok (.iconst 0, 1) := by decide +kernel
theorem dQ_begin_97 : decode bQ_begin 97 = .ok (.putfield 75, 3) := by decide +kernel
theorem dQ_begin_100 : decode bQ_begin 100 = .ok (.aload_n 0, 1) := by decide +kernel
theorem dQ_begin_101 : decode bQ_begin 101 = .ok (.iconst 0, 1) := by decide +kernel
theorem dQ_begin_102 : decode bQ_begin 102 = .ok (.putfield 78, 3) := by decide +kernel
theorem dQ_begin_105 : decode bQ_begin 105 = .ok (.aload_n 0, 1) := by decide +kernel
theorem dQ_begin_106 : decode bQ_begin 106 = .ok (.iconst 1, 1) := by decide +kernel
theorem dQ_begin_107 : decode bQ_begin 107 = .ok (.putfield 81, 3) := by decide +kernel
theorem dQ_begin_110 : decode bQ_begin 110 = .ok (.aload_n 0, 1) := by decide +kernel
theorem dQ_begin_111 : decode bQ_begin 111 = .ok (.iconst 0, 1) := by decide +kernel
theorem dQ_begin_112 : decode bQ_begin 112 = .ok (.putfield 84, 3) := by decide +kernel
theorem dQ_begin_115 : decode bQ_begin 115 = .ok (.aload_n 0, 1) := by decide +kernel
theorem dQ_begin_116 : decode bQ_begin 116 = .ok (.iconst 0, 1) := by decide +kernel
theorem dQ_begin_117 : decode bQ_begin 117 = .ok (.putfield 87, 3) := by decide +kernel
theorem dQ_begin_120 : decode bQ_begin 120 = .ok (.aload_n 0, 1) := by decide +kernel
theorem dQ_begin_121 : decode bQ_begin 121 = .ok (.iconst 0, 1) := by decide +kernel
theorem dQ_begin_122 : decode bQ_begin 122 = .ok (.putfield 90, 3) := by decide +kernel
theorem dQ_begin_125 : decode bQ_begin 125 = .ok (.aload_n 0, 1) := by decide +kernel
theorem dQ_begin_126 : decode bQ_begin 126 = .ok (.iconst 0, 1) := by decide +kernel
theorem dQ_begin_127 : decode bQ_begin 127 = .ok (.putfield 93, 3) := by decide +kernel
theorem dQ_begin_130 : decode bQ_begin 130 = .ok (.return_, 1) := by decide +kernel
theorem dQ_section_0 : decode bQ_section 0 = .ok (.aload_n 0, 1) := by decide +kernel
theorem dQ_section_1 : decode bQ_section 1 = .ok (.iload_n 1, 1) := by decide +kernel
theorem dQ_section_2 : decode bQ_section 2 = .ok (.iconst (-1), 1) := by decide +kernel
theorem dQ_section_3 : decode bQ_section 3 = .ok (.bipush 7, 2) := by decide +kernel
theorem dQ_section_5 : decode bQ_section 5 = .ok (.invokestatic 96, 3) := by decide +kernel
theorem dQ_section_8 : decode bQ_section 8 = .ok (.ifCond .eq 7, 3) := by decide +kernel
theorem dQ_section_11 : decode bQ_section 11 = .ok (.iconst 1, 1) := by decide +kernel
theorem dQ_section_12 : decode bQ_section 12 = .ok (.goto 17, 3) := by decide +kernel
theorem dQ_section_15 : decode bQ_section 15 = .ok (.aload_n 0, 1) := by decide +kernel
theorem dQ_section_16 : decode bQ_section 16 = .ok (.getfield 100, 3) := by decide +kernel
theorem dQ_section_19 : decode bQ_section 19 = .ok (.bipush 10, 2) := by decide +kernel
theorem dQ_section_21 : decode bQ_section 21 = .ok (.if_icmp .ne 7, 3) := by decide +kernel
theorem dQ_section_24 : decode bQ_section 24 = .ok (.iconst 2, 1) := by decide +kernel
theorem dQ_section_25 : decode bQ_section 25 = .ok (.goto 4, 3) := by decide +kernel
theorem dQ_section_28 : decode bQ_section 28 = .ok (.iconst 0, 1) := by decide +kernel
theorem dQ_section_29 : decode bQ_section 29 = .ok (.putfield 49, 3) := by decide +kernel
theorem dQ_section_32 : decode bQ_section 32 = .ok (.aload_n 0, 1) := by decide +kernel
theorem dQ_section_33 : decode bQ_section 33 = .ok (.getfield 49, 3) := by decide +kernel
theorem dQ_section_36 : decode bQ_section 36 = .ok (.ifCond .le 5, 3) := by decide +kernel
theorem dQ_section_39 : decode bQ_section 39 = .ok (.iconst 0, 1) := by decide +kernel
theorem dQ_section_40 : decode bQ_section 40 = .ok (.ireturn, 1) := by decide +kernel
theorem dQ_section_41 : decode bQ_section 41 = .ok (.aload_n 0, 1) := by decide +kernel
theorem dQ_section_42 : decode bQ_section 42 = .ok (.getfield 7, 3) := by decide +kernel
theorem dQ_section_45 : decode bQ_section 45 = .ok (.aload_n 0, 1) := by decide +kernel
theorem dQ_section_46 : decode bQ_section 46 = .ok (.getfield 100, 3) := by decide +kernel
theorem dQ_section_49 : decode bQ_section 49 = .ok (.iload_n 1, 1) := by decide +kernel
theorem dQ_section_50 : decode bQ_section 50 = .ok (.iastore, 1) := by decide +kernel
theorem dQ_section_51 : decode bQ_section 51 = .ok (.aload_n 0, 1) := by decide +kernel
theorem dQ_section_52 : decode bQ_section 52 = .ok (.getfield 13, 3) := by decide +kernel
theorem dQ_section_55 : decode bQ_section 55 = .ok (.aload_n 0, 1) := by decide +kernel
theorem dQ_section_56 : decode bQ_section 56 = .ok (.getfield 100, 3) := by decide +kernel
theorem dQ_section_59 : decode bQ_section 59 = .ok (.iconst 0, 1) := by decide +kernel
theorem dQ_section_60 : decode bQ_section 60 = .ok (.iastore, 1) := by decide +kernel
theorem dQ_section_61 : decode bQ_section 61 = .ok (.aload_n 0, 1) := by decide +kernel
theorem dQ_section_62 : decode bQ_section 62 = .ok (.dup, 1) := by decide +kernel
theorem dQ_section_63 : decode bQ_section 63 = .ok (.getfield 100, 3) := by decide +kernel
theorem dQ_section_66 : decode bQ_section 66 = .ok (.iconst 1, 1) := by decide +kernel
theorem dQ_section_67 : decode bQ_section 67 = .ok (.iadd, 1) := by decide +kernel
theorem dQ_section_68 : decode bQ_section 68 = .ok (.putfield 100, 3) := by decide +kernel
theorem dQ_section_71 : decode bQ_section 71 = .ok (.aload_n 0, 1) := by decide +kernel
theorem dQ_section_72 : decode bQ_section 72 = .ok (.getfield 100, 3) := by decide +kernel
theorem dQ_section_75 : decode bQ_section 75 = .ok (.iconst 1, 1) := by decide +kernel
theorem dQ_section_76 : decode bQ_section 76 = .ok (.isub, 1) := by decide +kernel
theorem dQ_section_77 : decode bQ_section 77 = .ok (.ireturn, 1) := by decide +kernel
theorem dQ_room_0 : decode bQ_room 0 = .ok (.aload_n 0, 1) := by decide +kernel
theorem dQ_room_1 : decode bQ_room 1 = .ok (.getfield 100, 3) := by decide +kernel
theorem dQ_room_4 : decode bQ_room 4 = .ok (.ifCond .le 25, 3) := by decide +kernel
theorem dQ_room_7 : decode bQ_room 7 = .ok (.aload_n 0, 1) := by decide +kernel
theorem dQ_room_8 : decode bQ_room 8 = .ok (.getfield 13, 3) := by decide +kernel
theorem dQ_room_11 : decode bQ_room 11 = .ok (.aload_n 0, 1) := by decide +kernel
theorem dQ_room_12 : decode bQ_room 12 = .ok (.getfield 100, 3) := by decide +kernel
theorem dQ_room_15 : decode bQ_room 15 = .ok (.iconst 1, 1) := by decide +kernel
theorem dQ_room_16 : decode bQ_room 16 = .ok (.isub, 1) := by decide +kernel
theorem dQ_room_17 : decode bQ_room 17 = .ok (.iaload, 1) := by decide +kernel
theorem dQ_room_18 : decode bQ_room 18 = .ok (.iload_n 1, 1) := by decide +kernel
theorem dQ_room_19 : decode bQ_room 19 = .ok (.iadd, 1) := by decide +kernel
theorem dQ_room_20 : decode bQ_room 20 = .ok (.bipush 48, 2) := by decide +kernel
theorem dQ_room_22 : decode bQ_room 22 = .ok (.if_icmp .gt 7, 3) := by decide +kernel
theorem dQ_room_25 : decode bQ_room 25 = .ok (.iconst 1, 1) := by decide +kernel
theorem dQ_room_26 : decode bQ_room 26 = .ok (.goto 4, 3) := by decide +kernel
theorem dQ_room_29 : decode bQ_room 29 = .ok (.iconst 0, 1) := by decide +kernel
theorem dQ_room_30 : decode bQ_room 30 = .ok (.ireturn, 1) := by decide +kernel
theorem dQ_append_0 : decode bQ_append 0 = .ok (.aload_n 0, 1) := by decide +kernel
theorem dQ_append_1 : decode bQ_append 1 = .ok (.getfield 100, 3) := by decide +kernel
theorem dQ_append_4 : decode bQ_append 4 = .ok (.iconst 1, 1) := by decide +kernel
theorem dQ_append_5 : decode bQ_append 5 = .ok (.isub, 1) := by decide +kernel
theorem dQ_append_6 : decode bQ_append 6 = .ok (.istore_n 3, 1) := by decide +kernel
theorem dQ_append_7 : decode bQ_append 7 = .ok (.aload_n 0, 1) := by decide +kernel
theorem dQ_append_8 : decode bQ_append 8 = .ok (.getfield 19, 3) := by decide +kernel
theorem dQ_append_11 : decode bQ_append 11 = .ok (.bipush 48, 2) := by decide +kernel
theorem dQ_append_13 : decode bQ_append 13 = .ok (.iload_n 3, 1) := by decide +kernel
theorem dQ_append_14 : decode bQ_append 14 = .ok (.imul, 1) := by decide +kernel
theorem dQ_append_15 : decode bQ_append 15 = .ok (.aload_n 0, 1) := by decide +kernel
theorem dQ_append_16 : decode bQ_append 16 = .ok (.getfield 13, 3) := by decide +kernel
theorem dQ_append_19 : decode bQ_append 19 = .ok (.iload_n 3, 1) := by decide +kernel
theorem dQ_append_20 : decode bQ_append 20 = .ok (.iaload, 1) := by decide +kernel
theorem dQ_append_21 : decode bQ_append 21 = .ok (.iadd, 1) := by decide +kernel
theorem dQ_append_22 : decode bQ_append 22 = .ok (.iload_n 1, 1) := by decide +kernel
theorem dQ_append_23 : decode bQ_append 23 = .ok (.iastore, 1) := by decide +kernel
theorem dQ_append_24 : decode bQ_append 24 = .ok (.aload_n 0, 1) := by decide +kernel
theorem dQ_append_25 : decode bQ_append 25 = .ok (.getfield 16, 3) := by decide +kernel
theorem dQ_append_28 : decode bQ_append 28 = .ok (.bipush 48, 2) := by decide +kernel
theorem dQ_append_30 : decode bQ_append 30 = .ok (.iload_n 3, 1) := by decide +kernel
theorem dQ_append_31 : decode bQ_append 31 = .ok (.imul, 1) := by decide +kernel
theorem dQ_append_32 : decode bQ_append 32 = .ok (.aload_n 0, 1) := by decide +kernel
theorem dQ_append_33 : decode bQ_append 33 = .ok (.getfield 13, 3) := by decide +kernel
theorem dQ_append_36 : decode bQ_append 36 = .ok (.iload_n 3, 1) := by decide +kernel
theorem dQ_append_37 : decode bQ_append 37 = .ok (.iaload, 1) := by decide +kernel
theorem dQ_append_38 : decode bQ_append 38 = .ok (.iadd, 1) := by decide +kernel
theorem dQ_append_39 : decode bQ_append 39 = .ok (.iload_n 2, 1) := by decide +kernel
theorem dQ_append_40 : decode bQ_append 40 = .ok (.sipush 255, 3) := by decide +kernel
theorem dQ_append_43 : decode bQ_append 43 = .ok (.iand, 1) := by decide +kernel
theorem dQ_append_44 : decode bQ_append 44 = .ok (.iastore, 1) := by decide +kernel
theorem dQ_append_45 : decode bQ_append 45 = .ok (.aload_n 0, 1) := by decide +kernel
theorem dQ_append_46 : decode bQ_append 46 = .ok (.getfield 13, 3) := by decide +kernel
theorem dQ_append_49 : decode bQ_append 49 = .ok (.iload_n 3, 1) := by decide +kernel
theorem dQ_append_50 : decode bQ_append 50 = .ok (.dup2, 1) := by decide +kernel
theorem dQ_append_51 : decode bQ_append 51 = .ok (.iaload, 1) := by decide +kernel
theorem dQ_append_52 : decode bQ_append 52 = .ok (.iconst 1, 1) := by decide +kernel
theorem dQ_append_53 : decode bQ_append 53 = .ok (.iadd, 1) := by decide +kernel
theorem dQ_append_54 : decode bQ_append 54 = .ok (.iastore, 1) := by decide +kernel
theorem dQ_append_55 : decode bQ_append 55 = .ok (.return_, 1) := by decide +kernel
theorem dQ_bytes_0 : decode bQ_bytes 0 = .ok (.aload_n 0, 1) := by decide +kernel
theorem dQ_bytes_1 : decode bQ_bytes 1 = .ok (.iload_n 2, 1) := by decide +kernel
theorem dQ_bytes_2 : decode bQ_bytes 2 = .ok (.iconst 1, 1) := by decide +kernel
theorem dQ_bytes_3 : decode bQ_bytes 3 = .ok (.iconst 4, 1) := by decide +kernel
theorem dQ_bytes_4 : decode bQ_bytes 4 = .ok (.invokestatic 96, 3) := by decide +kernel
theorem dQ_bytes_7 : decode bQ_bytes 7 = .ok (.ifCond .eq 7, 3) := by decide +kernel
theorem dQ_bytes_10 : decode bQ_bytes 10 = .ok (.iconst 1, 1) := by decide +kernel
theorem dQ_bytes_11 : decode bQ_bytes 11 = .ok (.goto 16, 3) := by decide +kernel
theorem dQ_bytes_14 : decode bQ_bytes 14 = .ok (.aload_n 0, 1) := by decide +kernel
theorem dQ_bytes_15 : decode bQ_bytes 15 = .ok (.iload_n 2, 1) := by decide +kernel
theorem dQ_bytes_16 : decode bQ_bytes 16 = .ok (.invokevirtual 103, 3) := by decide +kernel
theorem dQ_bytes_19 : decode bQ_bytes 19 = .ok (.ifCond .eq 7, 3) := by decide +kernel
theorem dQ_bytes_22 : decode bQ_bytes 22 = .ok (.iconst 0, 1) := by decide +kernel
theorem dQ_bytes_23 : decode bQ_bytes 23 = .ok (.goto 4, 3) := by decide +kernel
theorem dQ_bytes_26 : decode bQ_bytes 26 = .ok (.iconst 2, 1) := by decide +kernel
theorem dQ_bytes_27 : decode bQ_bytes 27 = .ok (.putfield 49, 3) := by decide +kernel
theorem dQ_bytes_30 : decode bQ_bytes 30 = .ok (.iload_n 2, 1) := by decide +kernel
theorem dQ_bytes_31 : decode bQ_bytes 31 = .ok (.iconst 1, 1) := by decide +kernel
theorem dQ_bytes_32 : decode bQ_bytes 32 = .ok (.isub, 1) := by decide +kernel
theorem dQ_bytes_33 : decode bQ_bytes 33 = .ok (.istore_n 3, 1) := by decide +kernel
theorem dQ_bytes_34 : decode bQ_bytes 34 = .ok (.iload_n 3, 1) := by decide +kernel
theorem dQ_bytes_35 : decode bQ_bytes 35 = .ok (.ifCond .lt 27, 3) := by decide +kernel
theorem dQ_bytes_38 : decode bQ_bytes 38 = .ok (.aload_n 0, 1) := by decide +kernel
theorem dQ_bytes_39 : decode bQ_bytes 39 = .ok (.getfield 49, 3) := by decide +kernel
theorem dQ_bytes_42 : decode bQ_bytes 42 = .ok (.ifCond .ne 20, 3) := by decide +kernel
theorem dQ_bytes_45 : decode bQ_bytes 45 = .ok (.aload_n 0, 1) := by decide +kernel
theorem dQ_bytes_46 : decode bQ_bytes 46 = .ok (.iconst 0, 1) := by decide +kernel
theorem dQ_bytes_47 : decode bQ_bytes 47 = .ok (.iload_n 1, 1) := by decide +kernel
theorem dQ_bytes_48 : decode bQ_bytes 48 = .ok (.bipush 8, 2) := by decide +kernel
theorem dQ_bytes_50 : decode bQ_bytes 50 = .ok (.iload_n 3, 1) := by decide +kernel
theorem dQ_bytes_51 : decode bQ_bytes 51 = .ok (.imul, 1) := by decide +kernel
theorem dQ_bytes_52 : decode bQ_bytes 52 = .ok (.ishr, 1) := by decide +kernel
theorem dQ_bytes_53 : decode bQ_bytes 53 = .ok (.invokevirtual 107, 3) := by decide +kernel
theorem dQ_bytes_56 : decode bQ_bytes 56 = .ok (.iinc 3 (-1), 3) := by decide +kernel
theorem dQ_bytes_59 : decode bQ_bytes 59 = .ok (.goto (-25), 3) := by decide +kernel
theorem dQ_bytes_62 : decode bQ_bytes 62 = .ok (.return_, 1) := by decide +kernel
theorem dQ_mended_0 : decode bQ_mended 0 = .ok (.aload_n 0, 1) := by decide +kernel
theorem dQ_mended_1 : decode bQ_mended 1 = .ok (.iload_n 1, 1) := by decide +kernel
theorem dQ_mended_2 : decode bQ_mended 2 = .ok (.iconst 1, 1) := by decide +kernel
theorem dQ_mended_3 : decode bQ_mended 3 = .ok (.iconst 2, 1) := by decide +kernel
theorem dQ_mended_4 : decode bQ_mended 4 = .ok (.invokestatic 96, 3) := by decide +kernel
theorem dQ_mended_7 : decode bQ_mended 7 = .ok (.ifCond .ne 13, 3) := by decide +kernel
theorem dQ_mended_10 : decode bQ_mended 10 = .ok (.iload_n 2, 1) := by decide +kernel
theorem dQ_mended_11 : decode bQ_mended 11 = .ok (.iconst 0, 1) := by decide +kernel
theorem dQ_mended_12 : decode bQ_mended 12 = .ok (.bipush 9, 2) := by decide +kernel
theorem dQ_mended_14 : decode bQ_mended 14 = .ok (.invokestatic 96, 3) := by decide +kernel
theorem dQ_mended_17 : decode bQ_mended 17 = .ok (.ifCond .eq 7, 3) := by decide +kernel
theorem dQ_mended_20 : decode bQ_mended 20 = .ok (.iconst 1, 1) := by decide +kernel
theorem dQ_mended_21 : decode bQ_mended 21 = .ok (.goto 16, 3) := by decide +kernel
theorem dQ_mended_24 : decode bQ_mended 24 = .ok (.aload_n 0, 1) := by decide +kernel
theorem dQ_mended_25 : decode bQ_mended 25 = .ok (.iconst 1, 1) := by decide +kernel
theorem dQ_mended_26 : decode bQ_mended 26 = .ok (.invokevirtual 103, 3) := by decide +kernel
theorem dQ_mended_29 : decode bQ_mended 29 = .ok (.ifCond .eq 7, 3) := by decide +kernel
theorem dQ_mended_32 : decode bQ_mended 32 = .ok (.iconst 0, 1) := by decide +kernel
theorem dQ_mended_33 : decode bQ_mended 33 = .ok (.goto 4, 3) := by decide +kernel
theorem dQ_mended_36 : decode bQ_mended 36 = .ok (.iconst 2, 1) := by decide +kernel
theorem dQ_mended_37 : decode bQ_mended 37 = .ok (.putfield 49, 3) := by decide +kernel
theorem dQ_mended_40 : decode bQ_mended 40 = .ok (.aload_n 0, 1) := by decide +kernel
theorem dQ_mended_41 : decode bQ_mended 41 = .ok (.getfield 49, 3) := by decide +kernel
theorem dQ_mended_44 : decode bQ_mended 44 = .ok (.ifCond .ne 9, 3) := by decide +kernel
theorem dQ_mended_47 : decode bQ_mended 47 = .ok (.aload_n 0, 1) := by decide +kernel
theorem dQ_mended_48 : decode bQ_mended 48 = .ok (.iload_n 1, 1) := by decide +kernel
theorem dQ_mended_49 : decode bQ_mended 49 = .ok (.iload_n 2, 1) := by decide +kernel
theorem dQ_mended_50 : decode bQ_mended 50 = .ok (.invokevirtual 107, 3) := by decide +kernel
theorem dQ_mended_53 : decode bQ_mended 53 = .ok (.return_, 1) := by decide +kernel
theorem dQ_clear_0 : decode bQ_clear 0 = .ok (.aload_n 0, 1) := by decide +kernel
theorem dQ_clear_1 : decode bQ_clear 1 = .ok (.iconst 0, 1) := by decide +kernel
theorem dQ_clear_2 : decode bQ_clear 2 = .ok (.putfield 49, 3) := by decide +kernel
theorem dQ_clear_5 : decode bQ_clear 5 = .ok (.aload_n 0, 1) := by decide +kernel
theorem dQ_clear_6 : decode bQ_clear 6 = .ok (.iconst 0, 1) := by decide +kernel
theorem dQ_clear_7 : decode bQ_clear 7 = .ok (.putfield 100, 3) := by decide +kernel
theorem dQ_clear_10 : decode bQ_clear 10 = .ok (.return_, 1) := by decide +kernel
theorem dQ_put_0 : decode bQ_put 0 = .ok (.iload_n 2, 1) := by decide +kernel
theorem dQ_put_1 : decode bQ_put 1 = .ok (.iload_n 3, 1) := by decide +kernel
theorem dQ_put_2 : decode bQ_put 2 = .ok (.if_icmp .ge 21, 3) := by decide +kernel
theorem dQ_put_5 : decode bQ_put 5 = .ok (.aload_n 0, 1) := by decide +kernel
theorem dQ_put_6 : decode bQ_put 6 = .ok (.getfield 28, 3) := by decide +kernel
theorem dQ_put_9 : decode bQ_put 9 = .ok (.iload_n 2, 1) := by decide +kernel
theorem dQ_put_10 : decode bQ_put 10 = .ok (.iaload, 1) := by decide +kernel
theorem dQ_put_11 : decode bQ_put 11 = .ok (.aload_n 0, 1) := by decide +kernel
theorem dQ_put_12 : decode bQ_put 12 = .ok (.getfield 13, 3) := by decide +kernel
theorem dQ_put_15 : decode bQ_put 15 = .ok (.iload_n 1, 1) := by decide +kernel
theorem dQ_put_16 : decode bQ_put 16 = .ok (.iaload, 1) := by decide +kernel
theorem dQ_put_17 : decode bQ_put 17 = .ok (.iadd, 1) := by decide +kernel
theorem dQ_put_18 : decode bQ_put 18 = .ok (.bipush 64, 2) := by decide +kernel
theorem dQ_put_20 : decode bQ_put 20 = .ok (.if_icmp .le 5, 3) := by decide +kernel
theorem dQ_put_23 : decode bQ_put 23 = .ok (.iconst 0, 1) := by decide +kernel
theorem dQ_put_24 : decode bQ_put 24 = .ok (.ireturn, 1) := by decide +kernel
theorem dQ_put_25 : decode bQ_put 25 = .ok (.aload_n 0, 1) := by decide +kernel
theorem dQ_put_26 : decode bQ_put 26 = .ok (.getfield 22, 3) := by decide +kernel
theorem dQ_put_29 : decode bQ_put 29 = .ok (.iload_n 1, 1) := by decide +kernel
theorem dQ_put_30 : decode bQ_put 30 = .ok (.iload_n 2, 1) := by decide +kernel
theorem dQ_put_31 : decode bQ_put 31 = .ok (.iastore, 1) := by decide +kernel
theorem dQ_put_32 : decode bQ_put 32 = .ok (.aload_n 0, 1) := by decide +kernel
theorem dQ_put_33 : decode bQ_put 33 = .ok (.getfield 25, 3) := by decide +kernel
theorem dQ_put_36 : decode bQ_put 36 = .ok (.iload_n 1, 1) := by decide +kernel
theorem dQ_put_37 : decode bQ_put 37 = .ok (.aload_n 0, 1) := by decide +kernel
theorem dQ_put_38 : decode bQ_put 38 = .ok (.getfield 28, 3) := by decide +kernel
theorem dQ_put_41 : decode bQ_put 41 = .ok (.iload_n 2, 1) := by decide +kernel
theorem dQ_put_42 : decode bQ_put 42 = .ok (.iaload, 1) := by decide +kernel
theorem dQ_put_43 : decode bQ_put 43 = .ok (.iload_n 2, 1) := by decide +kernel
theorem dQ_put_44 : decode bQ_put 44 = .ok (.ifCond .le 8, 3) := by decide +kernel
theorem dQ_put_47 : decode bQ_put 47 = .ok (.bipush 64, 2) := by decide +kernel
theorem dQ_put_49 : decode bQ_put 49 = .ok (.goto 4, 3) := by decide +kernel
theorem dQ_put_52 : decode bQ_put 52 = .ok (.iconst 0, 1) := by decide +kernel
theorem dQ_put_53 : decode bQ_put 53 = .ok (.iadd, 1) := by decide +kernel
theorem dQ_put_54 : decode bQ_put 54 = .ok (.iastore, 1) := by decide +kernel
theorem dQ_put_55 : decode bQ_put 55 = .ok (.aload_n 0, 1) := by decide +kernel
theorem dQ_put_56 : decode bQ_put 56 = .ok (.getfield 28, 3) := by decide +kernel
theorem dQ_put_59 : decode bQ_put 59 = .ok (.iload_n 2, 1) := by decide +kernel
theorem dQ_put_60 : decode bQ_put 60 = .ok (.dup2, 1) := by decide +kernel
theorem dQ_put_61 : decode bQ_put 61 = .ok (.iaload, 1) := by decide +kernel
theorem dQ_put_62 : decode bQ_put 62 = .ok (.aload_n 0, 1) := by decide +kernel
theorem dQ_put_63 : decode bQ_put 63 = .ok (.getfield 13, 3) := by decide +kernel
theorem dQ_put_66 : decode bQ_put 66 = .ok (.iload_n 1, 1) := by decide +kernel
theorem dQ_put_67 : decode bQ_put 67 = .ok (.iaload, 1) := by decide +kernel
theorem dQ_put_68 : decode bQ_put 68 = .ok (.iadd, 1) := by decide +kernel
theorem dQ_put_69 : decode bQ_put 69 = .ok (.iastore, 1) := by decide +kernel
theorem dQ_put_70 : decode bQ_put 70 = .ok (.iconst 1, 1) := by decide +kernel
theorem dQ_put_71 : decode bQ_put 71 = .ok (.ireturn, 1) := by decide +kernel
theorem dQ_pack_0 : decode bQ_pack 0 = .ok (.iconst 0, 1) := by decide +kernel
theorem dQ_pack_1 : decode bQ_pack 1 = .ok (.istore_n 2, 1) := by decide +kernel
theorem dQ_pack_2 : decode bQ_pack 2 = .ok (.iload_n 2, 1) := by decide +kernel
theorem dQ_pack_3 : decode bQ_pack 3 = .ok (.bipush 8, 2) := by decide +kernel
theorem dQ_pack_5 : decode bQ_pack 5 = .ok (.if_icmp .ge 25, 3) := by decide +kernel
theorem dQ_pack_8 : decode bQ_pack 8 = .ok (.aload_n 0, 1) := by decide +kernel
theorem dQ_pack_9 : decode bQ_pack 9 = .ok (.getfield 28, 3) := by decide +kernel
theorem dQ_pack_12 : decode bQ_pack 12 = .ok (.iload_n 2, 1) := by decide +kernel
theorem dQ_pack_13 : decode bQ_pack 13 = .ok (.iload_n 2, 1) := by decide +kernel
theorem dQ_pack_14 : decode bQ_pack 14 = .ok (.ifCond .ne 8, 3) := by decide +kernel
theorem dQ_pack_17 : decode bQ_pack 17 = .ok (.bipush 32, 2) := by decide +kernel
theorem dQ_pack_19 : decode bQ_pack 19 = .ok (.goto 4, 3) := by decide +kernel
theorem dQ_pack_22 : decode bQ_pack 22 = .ok (.iconst 0, 1) := by decide +kernel
theorem dQ_pack_23 : decode bQ_pack 23 = .ok (.iastore, 1) := by decide +kernel
theorem dQ_pack_24 : decode bQ_pack 24 = .ok (.iinc 2 1, 3) := by decide +kernel
theorem dQ_pack_27 : decode bQ_pack 27 = .ok (.goto (-25), 3) := by decide +kernel
theorem dQ_pack_30 : decode bQ_pack 30 = .ok (.iconst 0, 1) := by decide +kernel
theorem dQ_pack_31 : decode bQ_pack 31 = .ok (.istore_n 2, 1) := by decide +kernel
theorem dQ_pack_32 : decode bQ_pack 32 = .ok (.iload_n 2, 1) := by decide +kernel
theorem dQ_pack_33 : decode bQ_pack 33 = .ok (.aload_n 0, 1) := by decide +kernel
theorem dQ_pack_34 : decode bQ_pack 34 = .ok (.getfield 100, 3) := by decide +kernel
theorem dQ_pack_37 : decode bQ_pack 37 = .ok (.if_icmp .ge 36, 3) := by decide +kernel
theorem dQ_pack_40 : decode bQ_pack 40 = .ok (.aload_n 0, 1) := by decide +kernel
theorem dQ_pack_41 : decode bQ_pack 41 = .ok (.getfield 7, 3) := by decide +kernel
theorem dQ_pack_44 : decode bQ_pack 44 = .ok (.iload_n 2, 1) := by decide +kernel
theorem dQ_pack_45 : decode bQ_pack 45 = .ok (.iaload, 1) := by decide +kernel
theorem dQ_pack_46 : decode bQ_pack 46 = .ok (.iconst (-1), 1) := by decide +kernel
theorem dQ_pack_47 : decode bQ_pack 47 = .ok (.if_icmp .eq 20, 3) := by decide +kernel
theorem dQ_pack_50 : decode bQ_pack 50 = .ok (.aload_n 0, 1) := by decide +kernel
theorem dQ_pack_51 : decode bQ_pack 51 = .ok (.iload_n 2, 1) := by decide +kernel
theorem dQ_pack_52 : decode bQ_pack 52 = .ok (.aload_n 0, 1) := by decide +kernel
theorem dQ_pack_53 : decode bQ_pack 53 = .ok (.getfield 7, 3) := by decide +kernel
theorem dQ_pack_56 : decode bQ_pack 56 = .ok (.iload_n 2, 1) := by decide +kernel
theorem dQ_pack_57 : decode bQ_pack 57 = .ok (.iaload, 1) := by decide +kernel
theorem dQ_pack_58 : decode bQ_pack 58 = .ok (.iload_n 1, 1) := by decide +kernel
theorem dQ_pack_59 : decode bQ_pack 59 = .ok (.invokevirtual 111, 3) := by decide +kernel
theorem dQ_pack_62 : decode bQ_pack 62 = .ok (.ifCond .ne 5, 3) := by decide +kernel
theorem dQ_pack_65 : decode bQ_pack 65 = .ok (.iconst 0, 1) := by decide +kernel
theorem dQ_pack_66 : decode bQ_pack 66 = .ok (.ireturn, 1) := by decide +kernel
theorem dQ_pack_67 : decode bQ_pack 67 = .ok (.iinc 2 1, 3) := by decide +kernel
theorem dQ_pack_70 : decode bQ_pack 70 = .ok (.goto (-38), 3) := by decide +kernel
theorem dQ_pack_73 : decode bQ_pack 73 = .ok (.bipush 48, 2) := by decide +kernel
theorem dQ_pack_75 : decode bQ_pack 75 = .ok (.istore_n 2, 1) := by decide +kernel
theorem dQ_pack_76 : decode bQ_pack 76 = .ok (.iload_n 2, 1) := by decide +kernel
theorem dQ_pack_77 : decode bQ_pack 77 = .ok (.ifCond .lt 79, 3) := by decide +kernel
theorem dQ_pack_80 : decode bQ_pack 80 = .ok (.iconst 0, 1) := by decide +kernel
theorem dQ_pack_81 : decode bQ_pack 81 = .ok (.istore_n 3, 1) := by decide +kernel
theorem dQ_pack_82 : decode bQ_pack 82 = .ok (.iload_n 3, 1) := by decide +kernel
theorem dQ_pack_83 : decode bQ_pack 83 = .ok (.aload_n 0, 1) := by decide +kernel
theorem dQ_pack_84 : decode bQ_pack 84 = .ok (.getfield 100, 3) := by decide +kernel
theorem dQ_pack_87 : decode bQ_pack 87 = .ok (.if_icmp .ge 63, 3) := by decide +kernel
theorem dQ_pack_90 : decode bQ_pack 90 = .ok (.aload_n 0, 1) := by decide +kernel
theorem dQ_pack_91 : decode bQ_pack 91 = .ok (.getfield 7, 3) := by decide +kernel
theorem dQ_pack_94 : decode bQ_pack 94 = .ok (.iload_n 3, 1) := by decide +kernel
theorem dQ_pack_95 : decode bQ_pack 95 = .ok (.iaload, 1) := by decide +kernel
theorem dQ_pack_96 : decode bQ_pack 96 = .ok (.iconst (-1), 1) := by decide +kernel
theorem dQ_pack_97 : decode bQ_pack 97 = .ok (.if_icmp .ne 47, 3) := by decide +kernel
theorem dQ_pack_100 : decode bQ_pack 100 = .ok (.aload_n 0, 1) := by decide +kernel
theorem dQ_pack_101 : decode bQ_pack 101 = .ok (.getfield 13, 3) := by decide +kernel
theorem dQ_pack_104 : decode bQ_pack 104 = .ok (.iload_n 3, 1) := by decide +kernel
theorem dQ_pack_105 : decode bQ_pack 105 = .ok (.iaload, 1) := by decide +kernel
theorem dQ_pack_106 : decode bQ_pack 106 = .ok (.iload_n 2, 1) := by decide +kernel
theorem dQ_pack_107 : decode bQ_pack 107 = .ok (.if_icmp .ne 37, 3) := by decide +kernel
theorem dQ_pack_110 : decode bQ_pack 110 = .ok (.iconst 0, 1) := by decide +kernel
theorem dQ_pack_111 : decode bQ_pack 111 = .ok (.istore 4, 2) := by decide +kernel
theorem dQ_pack_113 : decode bQ_pack 113 = .ok (.iload 4, 2) := by decide +kernel
theorem dQ_pack_115 : decode bQ_pack 115 = .ok (.iload_n 1, 1) := by decide +kernel
theorem dQ_pack_116 : decode bQ_pack 116 = .ok (.if_icmp .ge 20, 3) := by decide +kernel
theorem dQ_pack_119 : decode bQ_pack 119 = .ok (.aload_n 0, 1) := by decide +kernel
theorem dQ_pack_120 : decode bQ_pack 120 = .ok (.iload_n 3, 1) := by decide +kernel
theorem dQ_pack_121 : decode bQ_pack 121 = .ok (.iload 4, 2) := by decide +kernel
theorem dQ_pack_123 : decode bQ_pack 123 = .ok (.iload_n 1, 1) := by decide +kernel
theorem dQ_pack_124 : decode bQ_pack 124 = .ok (.invokevirtual 111, 3) := by decide +kernel
theorem dQ_pack_127 : decode bQ_pack 127 = .ok (.ifCond .ne 9, 3) := by decide +kernel
theorem dQ_pack_130 : decode bQ_pack 130 = .ok (.iinc 4 1, 3) := by decide +kernel
theorem dQ_pack_133 : decode bQ_pack 133 = .ok (.goto (-20), 3) := by decide +kernel
theorem dQ_pack_136 : decode bQ_pack 136 = .ok (.iload 4, 2) := by decide +kernel
theorem dQ_pack_138 : decode bQ_pack 138 = .ok (.iload_n 1, 1) := by decide +kernel
theorem dQ_pack_139 : decode bQ_pack 139 = .ok (.if_icmp .ne 5, 3) := by decide +kernel
theorem dQ_pack_142 : decode bQ_pack 142 = .ok (.iconst 0, 1) := by decide +kernel
theorem dQ_pack_143 : decode bQ_pack 143 = .ok (.ireturn, 1) := by decide +kernel
theorem dQ_pack_144 : decode bQ_pack 144 = .ok (.iinc 3 1, 3) := by decide +kernel
theorem dQ_pack_147 : decode bQ_pack 147 = .ok (.goto (-65), 3) := by decide +kernel
theorem dQ_pack_150 : decode bQ_pack 150 = .ok (.iinc 2 (-1), 3) := by decide +kernel
theorem dQ_pack_153 : decode bQ_pack 153 = .ok (.goto (-77), 3) := by decide +kernel
theorem dQ_pack_156 : decode bQ_pack 156 = .ok (.iconst 1, 1) := by decide +kernel
theorem dQ_pack_157 : decode bQ_pack 157 = .ok (.ireturn, 1) := by decide +kernel
theorem dQ_allKnown_0 : decode bQ_allKnown 0 = .ok (.iconst 1, 1) := by decide +kernel
theorem dQ_allKnown_1 : decode bQ_allKnown 1 = .ok (.istore_n 1, 1) := by decide +kernel
theorem dQ_allKnown_2 : decode bQ_allKnown 2 = .ok (.iconst 0, 1) := by decide +kernel
theorem dQ_allKnown_3 : decode bQ_allKnown 3 = .ok (.istore_n 2, 1) := by decide +kernel
theorem dQ_allKnown_4 : decode bQ_allKnown 4 = .ok (.iload_n 2, 1) := by decide +kernel
theorem dQ_allKnown_5 : decode bQ_allKnown 5 = .ok (.aload_n 0, 1) := by decide +kernel
theorem dQ_allKnown_6 : decode bQ_allKnown 6 = .ok (.getfield 100, 3) := by decide +kernel
theorem dQ_allKnown_9 : decode bQ_allKnown 9 = .ok (.if_icmp .ge 67, 3) := by decide +kernel
theorem dQ_allKnown_12 : decode bQ_allKnown 12 = .ok (.bipush 48, 2) := by decide +kernel
theorem dQ_allKnown_14 : decode bQ_allKnown 14 = .ok (.iload_n 2, 1) := by decide +kernel
theorem dQ_allKnown_15 : decode bQ_allKnown 15 = .ok (.imul, 1) := by decide +kernel
theorem dQ_allKnown_16 : decode bQ_allKnown 16 = .ok (.istore_n 3, 1) := by decide +kernel
theorem dQ_allKnown_17 : decode bQ_allKnown 17 = .ok (.iload_n 3, 1) := by decide +kernel
theorem dQ_allKnown_18 : decode bQ_allKnown 18 = .ok (.bipush 48, 2) := by decide +kernel
theorem dQ_allKnown_20 : decode bQ_allKnown 20 = .ok (.iload_n 2, 1) := by decide +kernel
theorem dQ_allKnown_21 : decode bQ_allKnown 21 = .ok (.imul, 1) := by decide +kernel
theorem dQ_allKnown_22 : decode bQ_allKnown 22 = .ok (.aload_n 0, 1) := by decide +kernel
theorem dQ_allKnown_23 : decode bQ_allKnown 23 = .ok (.getfield 13, 3) := by decide +kernel
theorem dQ_allKnown_26 : decode bQ_allKnown 26 = .ok (.iload_n 2, 1) := by decide +kernel
theorem dQ_allKnown_27 : decode bQ_allKnown 27 = .ok (.iaload, 1) := by decide +kernel
theorem dQ_allKnown_28 : decode bQ_allKnown 28 = .ok (.iadd, 1) := by decide +kernel
theorem dQ_allKnown_29 : decode bQ_allKnown 29 = .ok (.if_icmp .ge 41, 3) := by decide +kernel
theorem dQ_allKnown_32 : decode bQ_allKnown 32 = .ok (.iload_n 1, 1) := by decide +kernel
theorem dQ_allKnown_33 : decode bQ_allKnown 33 = .ok (.ifCond .eq 29, 3) := by decide +kernel
theorem dQ_allKnown_36 : decode bQ_allKnown 36 = .ok (.aload_n 0, 1) := by decide +kernel
theorem dQ_allKnown_37 : decode bQ_allKnown 37 = .ok (.getfield 19, 3) := by decide +kernel
theorem dQ_allKnown_40 : decode bQ_allKnown 40 = .ok (.iload_n 3, 1) := by decide +kernel
theorem dQ_allKnown_41 : decode bQ_allKnown 41 = .ok (.iaload, 1) := by decide +kernel
theorem dQ_allKnown_42 : decode bQ_allKnown 42 = .ok (.ifCond .eq 16, 3) := by decide +kernel
theorem dQ_allKnown_45 : decode bQ_allKnown 45 = .ok (.aload_n 0, 1) := by decide +kernel
theorem dQ_allKnown_46 : decode bQ_allKnown 46 = .ok (.getfield 16, 3) := by decide +kernel
theorem dQ_allKnown_49 : decode bQ_allKnown 49 = .ok (.iload_n 3, 1) := by decide +kernel
theorem dQ_allKnown_50 : decode bQ_allKnown 50 = .ok (.iaload, 1) := by decide +kernel
theorem dQ_allKnown_51 : decode bQ_allKnown 51 = .ok (.aload_n 0, 1) := by decide +kernel
theorem dQ_allKnown_52 : decode bQ_allKnown 52 = .ok (.getfield 100, 3) := by decide +kernel
theorem dQ_allKnown_55 : decode bQ_allKnown 55 = .ok (.if_icmp .ge 7, 3) := by decide +kernel
theorem dQ_allKnown_58 : decode bQ_allKnown 58 = .ok (.iconst 1, 1) := by decide +kernel
theorem dQ_allKnown_59 : decode bQ_allKnown 59 = .ok (.goto 4, 3) := by decide +kernel
theorem dQ_allKnown_62 : decode bQ_allKnown 62 = .ok (.iconst 0, 1) := by decide +kernel
theorem dQ_allKnown_63 : decode bQ_allKnown 63 = .ok (.istore_n 1, 1) := by decide +kernel
theorem dQ_allKnown_64 : decode bQ_allKnown 64 = .ok (.iinc 3 1, 3) := by decide +kernel
theorem dQ_allKnown_67 : decode bQ_allKnown 67 = .ok (.goto (-50), 3) := by decide +kernel
theorem dQ_allKnown_70 : decode bQ_allKnown 70 = .ok (.iinc 2 1, 3) := by decide +kernel
theorem dQ_allKnown_73 : decode bQ_allKnown 73 = .ok (.goto (-69), 3) := by decide +kernel
theorem dQ_allKnown_76 : decode bQ_allKnown 76 = .ok (.iload_n 1, 1) := by decide +kernel
theorem dQ_allKnown_77 : decode bQ_allKnown 77 = .ok (.ireturn, 1) := by decide +kernel
theorem dQ_headCheck_0 : decode bQ_headCheck 0 = .ok (.iconst 0, 1) := by decide +kernel
theorem dQ_headCheck_1 : decode bQ_headCheck 1 = .ok (.istore_n 1, 1) := by decide +kernel
theorem dQ_headCheck_2 : decode bQ_headCheck 2 = .ok (.iconst 2, 1) := by decide +kernel
theorem dQ_headCheck_3 : decode bQ_headCheck 3 = .ok (.istore_n 2, 1) := by decide +kernel
theorem dQ_headCheck_4 : decode bQ_headCheck 4 = .ok (.iload_n 2, 1) := by decide +kernel
theorem dQ_headCheck_5 : decode bQ_headCheck 5 = .ok (.bipush 13, 2) := by decide +kernel
theorem dQ_headCheck_7 : decode bQ_headCheck 7 = .ok (.if_icmp .ge 20, 3) := by decide +kernel
theorem dQ_headCheck_10 : decode bQ_headCheck 10 = .ok (.iload_n 1, 1) := by decide +kernel
theorem dQ_headCheck_11 : decode bQ_headCheck 11 = .ok (.aload_n 0, 1) := by decide +kernel
theorem dQ_headCheck_12 : decode bQ_headCheck 12 = .ok (.getfield 37, 3) := by decide +kernel
theorem dQ_headCheck_15 : decode bQ_headCheck 15 = .ok (.iload_n 2, 1) := by decide +kernel
theorem dQ_headCheck_16 : decode bQ_headCheck 16 = .ok (.iaload, 1) := by decide +kernel
theorem dQ_headCheck_17 : decode bQ_headCheck 17 = .ok (.iconst 1, 1) := by decide +kernel
theorem dQ_headCheck_18 : decode bQ_headCheck 18 = .ok (.iadd, 1) := by decide +kernel
theorem dQ_headCheck_19 : decode bQ_headCheck 19 = .ok (.iadd, 1) := by decide +kernel
theorem dQ_headCheck_20 : decode bQ_headCheck 20 = .ok (.istore_n 1, 1) := by decide +kernel
theorem dQ_headCheck_21 : decode bQ_headCheck 21 = .ok (.iinc 2 1, 3) := by decide +kernel
theorem dQ_headCheck_24 : decode bQ_headCheck 24 = .ok (.goto (-20), 3) := by decide +kernel
theorem dQ_headCheck_27 : decode bQ_headCheck 27 = .ok (.iload_n 1, 1) := by decide +kernel
theorem dQ_headCheck_28 : decode bQ_headCheck 28 = .ok (.ineg, 1) := by decide +kernel
theorem dQ_headCheck_29 : decode bQ_headCheck 29 = .ok (.sipush 255, 3) := by decide +kernel
theorem dQ_headCheck_32 : decode bQ_headCheck 32 = .ok (.iand, 1) := by decide +kernel
theorem dQ_headCheck_33 : decode bQ_headCheck 33 = .ok (.ireturn, 1) := by decide +kernel
theorem dQ_imageCheck_0 : decode bQ_imageCheck 0 = .ok (.aload_n 0, 1) := by decide +kernel
theorem dQ_imageCheck_1 : decode bQ_imageCheck 1 = .ok (.getfield 37, 3) := by decide +kernel
theorem dQ_imageCheck_4 : decode bQ_imageCheck 4 = .ok (.bipush 14, 2) := by decide +kernel
theorem dQ_imageCheck_6 : decode bQ_imageCheck 6 = .ok (.iaload, 1) := by decide +kernel
theorem dQ_imageCheck_7 : decode bQ_imageCheck 7 = .ok (.ineg, 1) := by decide +kernel
theorem dQ_imageCheck_8 : decode bQ_imageCheck 8 = .ok (.aload_n 0, 1) := by decide +kernel
theorem dQ_imageCheck_9 : decode bQ_imageCheck 9 = .ok (.getfield 37, 3) := by decide +kernel
theorem dQ_imageCheck_12 : decode bQ_imageCheck 12 = .ok (.bipush 15, 2) := by decide +kernel
theorem dQ_imageCheck_14 : decode bQ_imageCheck 14 = .ok (.iaload, 1) := by decide +kernel
theorem dQ_imageCheck_15 : decode bQ_imageCheck 15 = .ok (.isub, 1) := by decide +kernel
theorem dQ_imageCheck_16 : decode bQ_imageCheck 16 = .ok (.istore_n 1, 1) := by decide +kernel
theorem dQ_imageCheck_17 : decode bQ_imageCheck 17 = .ok (.iconst 0, 1) := by decide +kernel
theorem dQ_imageCheck_18 : decode bQ_imageCheck 18 = .ok (.istore_n 2, 1) := by decide +kernel
theorem dQ_imageCheck_19 : decode bQ_imageCheck 19 = .ok (.iload_n 2, 1) := by decide +kernel
theorem dQ_imageCheck_20 : decode bQ_imageCheck 20 = .ok (.bipush 64, 2) := by decide +kernel
theorem dQ_imageCheck_22 : decode bQ_imageCheck 22 = .ok (.aload_n 0, 1) := by decide +kernel
theorem dQ_imageCheck_23 : decode bQ_imageCheck 23 = .ok (.getfield 114, 3) := by decide +kernel
theorem dQ_imageCheck_26 : decode bQ_imageCheck 26 = .ok (.imul, 1) := by decide +kernel
theorem dQ_imageCheck_27 : decode bQ_imageCheck 27 = .ok (.if_icmp .ge 18, 3) := by decide +kernel
theorem dQ_imageCheck_30 : decode bQ_imageCheck 30 = .ok (.iload_n 1, 1) := by decide +kernel
theorem dQ_imageCheck_31 : decode bQ_imageCheck 31 = .ok (.aload_n 0, 1) := by decide +kernel
theorem dQ_imageCheck_32 : decode bQ_imageCheck 32 = .ok (.getfield 37, 3) := by decide +kernel
theorem dQ_imageCheck_35 : decode bQ_imageCheck 35 = .ok (.iload_n 2, 1) := by decide +kernel
theorem dQ_imageCheck_36 : decode bQ_imageCheck 36 = .ok (.iaload, 1) := by decide +kernel
theorem dQ_imageCheck_37 : decode bQ_imageCheck 37 = .ok (.iadd, 1) := by decide +kernel
theorem dQ_imageCheck_38 : decode bQ_imageCheck 38 = .ok (.istore_n 1, 1) := by decide +kernel
theorem dQ_imageCheck_39 : decode bQ_imageCheck 39 = .ok (.iinc 2 1, 3) := by decide +kernel
theorem dQ_imageCheck_42 : decode bQ_imageCheck 42 = .ok (.goto (-23), 3) := by decide +kernel
theorem dQ_imageCheck_45 : decode bQ_imageCheck 45 = .ok (.iload_n 1, 1) := by decide +kernel
theorem dQ_imageCheck_46 : decode bQ_imageCheck 46 = .ok (.ldc 117, 2) := by decide +kernel
theorem dQ_imageCheck_48 : decode bQ_imageCheck 48 = .ok (.iand, 1) := by decide +kernel
theorem dQ_imageCheck_49 : decode bQ_imageCheck 49 = .ok (.ireturn, 1) := by decide +kernel
theorem dQ_mark_0 : decode bQ_mark 0 = .ok (.iload_n 1, 1) := by decide +kernel
theorem dQ_mark_1 : decode bQ_mark 1 = .ok (.iconst 2, 1) := by decide +kernel
theorem dQ_mark_2 : decode bQ_mark 2 = .ok (.if_icmp .ne 9, 3) := by decide +kernel
theorem dQ_mark_5 : decode bQ_mark 5 = .ok (.sipush 206, 3) := by decide +kernel
theorem dQ_mark_8 : decode bQ_mark 8 = .ok (.goto 60, 3) := by decide +kernel
theorem dQ_mark_11 : decode bQ_mark 11 = .ok (.iload_n 1, 1) := by decide +kernel
theorem dQ_mark_12 : decode bQ_mark 12 = .ok (.iconst 3, 1) := by decide +kernel
theorem dQ_mark_13 : decode bQ_mark 13 = .ok (.if_icmp .ne 9, 3) := by decide +kernel
theorem dQ_mark_16 : decode bQ_mark 16 = .ok (.sipush 237, 3) := by decide +kernel
theorem dQ_mark_19 : decode bQ_mark 19 = .ok (.goto 49, 3) := by decide +kernel
theorem dQ_mark_22 : decode bQ_mark 22 = .ok (.iload_n 1, 1) := by decide +kernel
theorem dQ_mark_23 : decode bQ_mark 23 = .ok (.iconst 4, 1) := by decide +kernel
theorem dQ_mark_24 : decode bQ_mark 24 = .ok (.if_icmp .ne 8, 3) := by decide +kernel
theorem dQ_mark_27 : decode bQ_mark 27 = .ok (.bipush 102, 2) := by decide +kernel
theorem dQ_mark_29 : decode bQ_mark 29 = .ok (.goto 39, 3) := by decide +kernel
theorem dQ_mark_32 : decode bQ_mark 32 = .ok (.iload_n 1, 1) := by decide +kernel
theorem dQ_mark_33 : decode bQ_mark 33 = .ok (.iconst 5, 1) := by decide +kernel
theorem dQ_mark_34 : decode bQ_mark 34 = .ok (.if_icmp .ne 9, 3) := by decide +kernel
theorem dQ_mark_37 : decode bQ_mark 37 = .ok (.sipush 204, 3) := by decide +kernel
theorem dQ_mark_40 : decode bQ_mark 40 = .ok (.goto 28, 3) := by decide +kernel
theorem dQ_mark_43 : decode bQ_mark 43 = .ok (.aload_n 0, 1) := by decide +kernel
theorem dQ_mark_44 : decode bQ_mark 44 = .ok (.getfield 114, 3) := by decide +kernel
theorem dQ_mark_47 : decode bQ_mark 47 = .ok (.iconst 2, 1) := by decide +kernel
theorem dQ_mark_48 : decode bQ_mark 48 = .ok (.if_icmp .ne 7, 3) := by decide +kernel
theorem dQ_mark_51 : decode bQ_mark 51 = .ok (.iconst 0, 1) := by decide +kernel
theorem dQ_mark_52 : decode bQ_mark 52 = .ok (.goto 16, 3) := by decide +kernel
theorem dQ_mark_55 : decode bQ_mark 55 = .ok (.aload_n 0, 1) := by decide +kernel
theorem dQ_mark_56 : decode bQ_mark 56 = .ok (.getfield 114, 3) := by decide +kernel
theorem dQ_mark_59 : decode bQ_mark 59 = .ok (.iconst 4, 1) := by decide +kernel
theorem dQ_mark_60 : decode bQ_mark 60 = .ok (.if_icmp .ne 7, 3) := by decide +kernel
theorem dQ_mark_63 : decode bQ_mark 63 = .ok (.iconst 1, 1) := by decide +kernel
theorem dQ_mark_64 : decode bQ_mark 64 = .ok (.goto 4, 3) := by decide +kernel
theorem dQ_mark_67 : decode bQ_mark 67 = .ok (.iconst 2, 1) := by decide +kernel
theorem dQ_mark_68 : decode bQ_mark 68 = .ok (.ireturn, 1) := by decide +kernel
theorem dQ_headByte_0 : decode bQ_headByte 0 = .ok (.iload_n 1, 1) := by decide +kernel
theorem dQ_headByte_1 : decode bQ_headByte 1 = .ok (.iconst 2, 1) := by decide +kernel
theorem dQ_headByte_2 : decode bQ_headByte 2 = .ok (.if_icmp .ge 20, 3) := by decide +kernel
theorem dQ_headByte_5 : decode bQ_headByte 5 = .ok (.iload_n 1, 1) := by decide +kernel
theorem dQ_headByte_6 : decode bQ_headByte 6 = .ok (.ifCond .ne 9, 3) := by decide +kernel
theorem dQ_headByte_9 : decode bQ_headByte 9 = .ok (.sipush 192, 3) := by decide +kernel
theorem dQ_headByte_12 : decode bQ_headByte 12 = .ok (.goto 9, 3) := by decide +kernel
theorem dQ_headByte_15 : decode bQ_headByte 15 = .ok (.aload_n 0, 1) := by decide +kernel
theorem dQ_headByte_16 : decode bQ_headByte 16 = .ok (.getfield 25, 3) := by decide +kernel
theorem dQ_headByte_19 : decode bQ_headByte 19 = .ok (.iconst 0, 1) := by decide +kernel
theorem dQ_headByte_20 : decode bQ_headByte 20 = .ok (.iaload, 1) := by decide +kernel
theorem dQ_headByte_21 : decode bQ_headByte 21 = .ok (.ireturn, 1) := by decide +kernel
theorem dQ_headByte_22 : decode bQ_headByte 22 = .ok (.iload_n 1, 1) := by decide +kernel
theorem dQ_headByte_23 : decode bQ_headByte 23 = .ok (.bipush 7, 2) := by decide +kernel
theorem dQ_headByte_25 : decode bQ_headByte 25 = .ok (.if_icmp .ge 9, 3) := by decide +kernel
theorem dQ_headByte_28 : decode bQ_headByte 28 = .ok (.aload_n 0, 1) := by decide +kernel
theorem dQ_headByte_29 : decode bQ_headByte 29 = .ok (.iload_n 1, 1) := by decide +kernel
theorem dQ_headByte_30 : decode bQ_headByte 30 = .ok (.invokevirtual 118, 3) := by decide +kernel
theorem dQ_headByte_33 : decode bQ_headByte 33 = .ok (.ireturn, 1) := by decide +kernel
theorem dQ_headByte_34 : decode bQ_headByte 34 = .ok (.iload_n 1, 1) := by decide +kernel
theorem dQ_headByte_35 : decode bQ_headByte 35 = .ok (.bipush 16, 2) := by decide +kernel
theorem dQ_headByte_37 : decode bQ_headByte 37 = .ok (.if_icmp .ge 5, 3) := by decide +kernel
theorem dQ_headByte_40 : decode bQ_headByte 40 = .ok (.iconst 0, 1) := by decide +kernel
theorem dQ_headByte_41 : decode bQ_headByte 41 = .ok (.ireturn, 1) := by decide +kernel
theorem dQ_headByte_42 : decode bQ_headByte 42 = .ok (.iload_n 1, 1) := by decide +kernel
theorem dQ_headByte_43 : decode bQ_headByte 43 = .ok (.iconst 4, 1) := by decide +kernel
theorem dQ_headByte_44 : decode bQ_headByte 44 = .ok (.irem, 1) := by decide +kernel
theorem dQ_headByte_45 : decode bQ_headByte 45 = .ok (.ifCond .ne 7, 3) := by decide +kernel
theorem dQ_headByte_48 : decode bQ_headByte 48 = .ok (.iconst 1, 1) := by decide +kernel
theorem dQ_headByte_49 : decode bQ_headByte 49 = .ok (.goto 16, 3) := by decide +kernel
theorem dQ_headByte_52 : decode bQ_headByte 52 = .ok (.iload_n 1, 1) := by decide +kernel
theorem dQ_headByte_53 : decode bQ_headByte 53 = .ok (.iconst 4, 1) := by decide +kernel
theorem dQ_headByte_54 : decode bQ_headByte 54 = .ok (.irem, 1) := by decide +kernel
theorem dQ_headByte_55 : decode bQ_headByte 55 = .ok (.iconst 1, 1) := by decide +kernel
theorem dQ_headByte_56 : decode bQ_headByte 56 = .ok (.if_icmp .ne 8, 3) := by decide +kernel
theorem dQ_headByte_59 : decode bQ_headByte 59 = .ok (.bipush 10, 2) := by decide +kernel
theorem dQ_headByte_61 : decode bQ_headByte 61 = .ok (.goto 4, 3) := by decide +kernel
theorem dQ_headByte_64 : decode bQ_headByte 64 = .ok (.iconst 0, 1) := by decide +kernel
theorem dQ_headByte_65 : decode bQ_headByte 65 = .ok (.ireturn, 1) := by decide +kernel
theorem dQ_build_0 : decode bQ_build 0 = .ok (.aload_n 0, 1) := by decide +kernel
theorem dQ_build_1 : decode bQ_build 1 = .ok (.iload_n 1, 1) := by decide +kernel
theorem dQ_build_2 : decode bQ_build 2 = .ok (.putfield 114, 3) := by decide +kernel
theorem dQ_build_5 : decode bQ_build 5 = .ok (.iconst 0, 1) := by decide +kernel
theorem dQ_build_6 : decode bQ_build 6 = .ok (.istore_n 2, 1) := by decide +kernel
theorem dQ_build_7 : decode bQ_build 7 = .ok (.iload_n 2, 1) := by decide +kernel
theorem dQ_build_8 : decode bQ_build 8 = .ok (.bipush 64, 2) := by decide +kernel
theorem dQ_build_10 : decode bQ_build 10 = .ok (.iload_n 1, 1) := by decide +kernel
theorem dQ_build_11 : decode bQ_build 11 = .ok (.imul, 1) := by decide +kernel
theorem dQ_build_12 : decode bQ_build 12 = .ok (.if_icmp .ge 32, 3) := by decide +kernel
theorem dQ_build_15 : decode bQ_build 15 = .ok (.aload_n 0, 1) := by decide +kernel
theorem dQ_build_16 : decode bQ_build 16 = .ok (.getfield 37, 3) := by decide +kernel
theorem dQ_build_19 : decode bQ_build 19 = .ok (.iload_n 2, 1) := by decide +kernel
theorem dQ_build_20 : decode bQ_build 20 = .ok (.iload_n 2, 1) := by decide +kernel
theorem dQ_build_21 : decode bQ_build 21 = .ok (.bipush 32, 2) := by decide +kernel
theorem dQ_build_23 : decode bQ_build 23 = .ok (.if_icmp .ge 11, 3) := by decide +kernel
theorem dQ_build_26 : decode bQ_build 26 = .ok (.aload_n 0, 1) := by decide +kernel
theorem dQ_build_27 : decode bQ_build 27 = .ok (.iload_n 2, 1) := by decide +kernel
theorem dQ_build_28 : decode bQ_build 28 = .ok (.invokevirtual 122, 3) := by decide +kernel
theorem dQ_build_31 : decode bQ_build 31 = .ok (.goto 6, 3) := by decide +kernel
theorem dQ_build_34 : decode bQ_build 34 = .ok (.sipush 255, 3) := by decide +kernel
theorem dQ_build_37 : decode bQ_build 37 = .ok (.iastore, 1) := by decide +kernel
theorem dQ_build_38 : decode bQ_build 38 = .ok (.iinc 2 1, 3) := by decide +kernel
theorem dQ_build_41 : decode bQ_build 41 = .ok (.goto (-34), 3) := by decide +kernel
theorem dQ_build_44 : decode bQ_build 44 = .ok (.iconst 0, 1) := by decide +kernel
theorem dQ_build_45 : decode bQ_build 45 = .ok (.istore_n 2, 1) := by decide +kernel
theorem dQ_build_46 : decode bQ_build 46 = .ok (.iload_n 2, 1) := by decide +kernel
theorem dQ_build_47 : decode bQ_build 47 = .ok (.aload_n 0, 1) := by decide +kernel
theorem dQ_build_48 : decode bQ_build 48 = .ok (.getfield 100, 3) := by decide +kernel
theorem dQ_build_51 : decode bQ_build 51 = .ok (.if_icmp .ge 119, 3) := by decide +kernel
theorem dQ_build_54 : decode bQ_build 54 = .ok (.bipush 64, 2) := by decide +kernel
theorem dQ_build_56 : decode bQ_build 56 = .ok (.aload_n 0, 1) := by decide +kernel
theorem dQ_build_57 : decode bQ_build 57 = .ok (.getfield 22, 3) := by decide +kernel
theorem dQ_build_60 : decode bQ_build 60 = .ok (.iload_n 2, 1) := by decide +kernel
theorem dQ_build_61 : decode bQ_build 61 = .ok (.iaload, 1) := by decide +kernel
theorem dQ_build_62 : decode bQ_build 62 = .ok (.imul, 1) := by decide +kernel
theorem dQ_build_63 : decode bQ_build 63 = .ok (.aload_n 0, 1) := by decide +kernel
theorem dQ_build_64 : decode bQ_build 64 = .ok (.getfield 25, 3) := by decide +kernel
theorem dQ_build_67 : decode bQ_build 67 = .ok (.iload_n 2, 1) := by decide +kernel
theorem dQ_build_68 : decode bQ_build 68 = .ok (.iaload, 1) := by decide +kernel
theorem dQ_build_69 : decode bQ_build 69 = .ok (.bipush 64, 2) := by decide +kernel
theorem dQ_build_71 : decode bQ_build 71 = .ok (.irem, 1) := by decide +kernel
theorem dQ_build_72 : decode bQ_build 72 = .ok (.iadd, 1) := by decide +kernel
theorem dQ_build_73 : decode bQ_build 73 = .ok (.istore_n 3, 1) := by decide +kernel
theorem dQ_build_74 : decode bQ_build 74 = .ok (.iconst 0, 1) := by decide +kernel
theorem dQ_build_75 : decode bQ_build 75 = .ok (.istore 4, 2) := by decide +kernel
theorem dQ_build_77 : decode bQ_build 77 = .ok (.iload 4, 2) := by decide +kernel
theorem dQ_build_79 : decode bQ_build 79 = .ok (.aload_n 0, 1) := by decide +kernel
theorem dQ_build_80 : decode bQ_build 80 = .ok (.getfield 13, 3) := by decide +kernel
theorem dQ_build_83 : decode bQ_build 83 = .ok (.iload_n 2, 1) := by decide +kernel
theorem dQ_build_84 : decode bQ_build 84 = .ok (.iaload, 1) := by decide +kernel
theorem dQ_build_85 : decode bQ_build 85 = .ok (.if_icmp .ge 79, 3) := by decide +kernel
theorem dQ_build_88 : decode bQ_build 88 = .ok (.aload_n 0, 1) := by decide +kernel
theorem dQ_build_89 : decode bQ_build 89 = .ok (.getfield 16, 3) := by decide +kernel
theorem dQ_build_92 : decode bQ_build 92 = .ok (.bipush 48, 2) := by decide +kernel
theorem dQ_build_94 : decode bQ_build 94 = .ok (.iload_n 2, 1) := by decide +kernel
theorem dQ_build_95 : decode bQ_build 95 = .ok (.imul, 1) := by decide +kernel
theorem dQ_build_96 : decode bQ_build 96 = .ok (.iload 4, 2) := by decide +kernel
theorem dQ_build_98 : decode bQ_build 98 = .ok (.iadd, 1) := by decide +kernel
theorem dQ_build_99 : decode bQ_build 99 = .ok (.iaload, 1) := by decide +kernel
theorem dQ_build_100 : decode bQ_build 100 = .ok (.istore 5, 2) := by decide +kernel
theorem dQ_build_102 : decode bQ_build 102 = .ok (.aload_n 0, 1) := by decide +kernel
theorem dQ_build_103 : decode bQ_build 103 = .ok (.getfield 19, 3) := by decide +kernel
theorem dQ_build_106 : decode bQ_build 106 = .ok (.bipush 48, 2) := by decide +kernel
theorem dQ_build_108 : decode bQ_build 108 = .ok (.iload_n 2, 1) := by decide +kernel
theorem dQ_build_109 : decode bQ_build 109 = .ok (.imul, 1) := by decide +kernel
theorem dQ_build_110 : decode bQ_build 110 = .ok (.iload 4, 2) := by decide +kernel
theorem dQ_build_112 : decode bQ_build 112 = .ok (.iadd, 1) := by decide +kernel
theorem dQ_build_113 : decode bQ_build 113 = .ok (.iaload, 1) := by decide +kernel
theorem dQ_build_114 : decode bQ_build 114 = .ok (.istore 6, 2) := by decide +kernel
theorem dQ_build_116 : decode bQ_build 116 = .ok (.aload_n 0, 1) := by decide +kernel
theorem dQ_build_117 : decode bQ_build 117 = .ok (.getfield 37, 3) := by decide +kernel
theorem dQ_build_120 : decode bQ_build 120 = .ok (.iload_n 3, 1) := by decide +kernel
theorem dQ_build_121 : decode bQ_build 121 = .ok (.iload 4, 2) := by decide +kernel
theorem dQ_build_123 : decode bQ_build 123 = .ok (.iadd, 1) := by decide +kernel
theorem dQ_build_124 : decode bQ_build 124 = .ok (.iload 6, 2) := by decide +kernel
theorem dQ_build_126 : decode bQ_build 126 = .ok (.ifCond .ne 8, 3) := by decide +kernel
theorem dQ_build_129 : decode bQ_build 129 = .ok (.iload 5, 2) := by decide +kernel
theorem dQ_build_131 : decode bQ_build 131 = .ok (.goto 26, 3) := by decide +kernel
theorem dQ_build_134 : decode bQ_build 134 = .ok (.iload 6, 2) := by decide +kernel
theorem dQ_build_136 : decode bQ_build 136 = .ok (.iconst 1, 1) := by decide +kernel
theorem dQ_build_137 : decode bQ_build 137 = .ok (.if_icmp .ne 13, 3) := by decide +kernel
theorem dQ_build_140 : decode bQ_build 140 = .ok (.aload_n 0, 1) := by decide +kernel
theorem dQ_build_141 : decode bQ_build 141 = .ok (.getfield 25, 3) := by decide +kernel
theorem dQ_build_144 : decode bQ_build 144 = .ok (.iload 5, 2) := by decide +kernel
theorem dQ_build_146 : decode bQ_build 146 = .ok (.iaload, 1) := by decide +kernel
theorem dQ_build_147 : decode bQ_build 147 = .ok (.goto 10, 3) := by decide +kernel
theorem dQ_build_150 : decode bQ_build 150 = .ok (.aload_n 0, 1) := by decide +kernel
theorem dQ_build_151 : decode bQ_build 151 = .ok (.getfield 22, 3) := by decide +kernel
theorem dQ_build_154 : decode bQ_build 154 = .ok (.iload 5, 2) := by decide +kernel
theorem dQ_build_156 : decode bQ_build 156 = .ok (.iaload, 1) := by decide +kernel
theorem dQ_build_157 : decode bQ_build 157 = .ok (.iastore, 1) := by decide +kernel
theorem dQ_build_158 : decode bQ_build 158 = .ok (.iinc 4 1, 3) := by decide +kernel
theorem dQ_build_161 : decode bQ_build 161 = .ok (.goto (-84), 3) := by decide +kernel
theorem dQ_build_164 : decode bQ_build 164 = .ok (.iinc 2 1, 3) := by decide +kernel
theorem dQ_build_167 : decode bQ_build 167 = .ok (.goto (-121), 3) := by decide +kernel
theorem dQ_build_170 : decode bQ_build 170 = .ok (.aload_n 0, 1) := by decide +kernel
theorem dQ_build_171 : decode bQ_build 171 = .ok (.getfield 37, 3) := by decide +kernel
theorem dQ_build_174 : decode bQ_build 174 = .ok (.bipush 13, 2) := by decide +kernel
theorem dQ_build_176 : decode bQ_build 176 = .ok (.aload_n 0, 1) := by decide +kernel
theorem dQ_build_177 : decode bQ_build 177 = .ok (.invokevirtual 125, 3) := by decide +kernel
theorem dQ_build_180 : decode bQ_build 180 = .ok (.iastore, 1) := by decide +kernel
theorem dQ_build_181 : decode bQ_build 181 = .ok (.aload_n 0, 1) := by decide +kernel
theorem dQ_build_182 : decode bQ_build 182 = .ok (.invokevirtual 129, 3) := by decide +kernel
theorem dQ_build_185 : decode bQ_build 185 = .ok (.istore_n 2, 1) := by decide +kernel
theorem dQ_build_186 : decode bQ_build 186 = .ok (.aload_n 0, 1) := by decide +kernel
theorem dQ_build_187 : decode bQ_build 187 = .ok (.getfield 37, 3) := by decide +kernel
theorem dQ_build_190 : decode bQ_build 190 = .ok (.bipush 14, 2) := by decide +kernel
theorem dQ_build_192 : decode bQ_build 192 = .ok (.iload_n 2, 1) := by decide +kernel
theorem dQ_build_193 : decode bQ_build 193 = .ok (.bipush 8, 2) := by decide +kernel
theorem dQ_build_195 : decode bQ_build 195 = .ok (.ishr, 1) := by decide +kernel
theorem dQ_build_196 : decode bQ_build 196 = .ok (.iastore, 1) := by decide +kernel
theorem dQ_build_197 : decode bQ_build 197 = .ok (.aload_n 0, 1) := by decide +kernel
theorem dQ_build_198 : decode bQ_build 198 = .ok (.getfield 37, 3) := by decide +kernel
theorem dQ_build_201 : decode bQ_build 201 = .ok (.bipush 15, 2) := by decide +kernel
theorem dQ_build_203 : decode bQ_build 203 = .ok (.iload_n 2, 1) := by decide +kernel
theorem dQ_build_204 : decode bQ_build 204 = .ok (.sipush 255, 3) := by decide +kernel
theorem dQ_build_207 : decode bQ_build 207 = .ok (.iand, 1) := by decide +kernel
theorem dQ_build_208 : decode bQ_build 208 = .ok (.iastore, 1) := by decide +kernel
theorem dQ_build_209 : decode bQ_build 209 = .ok (.return_, 1) := by decide +kernel
theorem dQ_link_0 : decode bQ_link 0 = .ok (.aload_n 0, 1) := by decide +kernel
theorem dQ_link_1 : decode bQ_link 1 = .ok (.iload_n 1, 1) := by decide +kernel
theorem dQ_link_2 : decode bQ_link 2 = .ok (.iconst 2, 1) := by decide +kernel
theorem dQ_link_3 : decode bQ_link 3 = .ok (.if_icmp .eq 18, 3) := by decide +kernel
theorem dQ_link_6 : decode bQ_link 6 = .ok (.iload_n 1, 1) := by decide +kernel
theorem dQ_link_7 : decode bQ_link 7 = .ok (.iconst 4, 1) := by decide +kernel
theorem dQ_link_8 : decode bQ_link 8 = .ok (.if_icmp .eq 13, 3) := by decide +kernel
theorem dQ_link_11 : decode bQ_link 11 = .ok (.iload_n 1, 1) := by decide +kernel
theorem dQ_link_12 : decode bQ_link 12 = .ok (.bipush 8, 2) := by decide +kernel
theorem dQ_link_14 : decode bQ_link 14 = .ok (.if_icmp .eq 7, 3) := by decide +kernel
theorem dQ_link_17 : decode bQ_link 17 = .ok (.iconst 1, 1) := by decide +kernel
theorem dQ_link_18 : decode bQ_link 18 = .ok (.goto 34, 3) := by decide +kernel
theorem dQ_link_21 : decode bQ_link 21 = .ok (.aload_n 0, 1) := by decide +kernel
theorem dQ_link_22 : decode bQ_link 22 = .ok (.getfield 100, 3) := by decide +kernel
theorem dQ_link_25 : decode bQ_link 25 = .ok (.ifCond .eq 10, 3) := by decide +kernel
theorem dQ_link_28 : decode bQ_link 28 = .ok (.aload_n 0, 1) := by decide +kernel
theorem dQ_link_29 : decode bQ_link 29 = .ok (.invokevirtual 132, 3) := by decide +kernel
theorem dQ_link_32 : decode bQ_link 32 = .ok (.ifCond .ne 7, 3) := by decide +kernel
theorem dQ_link_35 : decode bQ_link 35 = .ok (.iconst 2, 1) := by decide +kernel
theorem dQ_link_36 : decode bQ_link 36 = .ok (.goto 16, 3) := by decide +kernel
theorem dQ_link_39 : decode bQ_link 39 = .ok (.aload_n 0, 1) := by decide +kernel
theorem dQ_link_40 : decode bQ_link 40 = .ok (.iload_n 1, 1) := by decide +kernel
theorem dQ_link_41 : decode bQ_link 41 = .ok (.invokevirtual 136, 3) := by decide +kernel
theorem dQ_link_44 : decode bQ_link 44 = .ok (.ifCond .eq 7, 3) := by decide +kernel
theorem dQ_link_47 : decode bQ_link 47 = .ok (.iconst 0, 1) := by decide +kernel
theorem dQ_link_48 : decode bQ_link 48 = .ok (.goto 4, 3) := by decide +kernel
theorem dQ_link_51 : decode bQ_link 51 = .ok (.iconst 3, 1) := by decide +kernel
theorem dQ_link_52 : decode bQ_link 52 = .ok (.putfield 49, 3) := by decide +kernel
theorem dQ_link_55 : decode bQ_link 55 = .ok (.aload_n 0, 1) := by decide +kernel
theorem dQ_link_56 : decode bQ_link 56 = .ok (.getfield 49, 3) := by decide +kernel
theorem dQ_link_59 : decode bQ_link 59 = .ok (.ifCond .le 5, 3) := by decide +kernel
theorem dQ_link_62 : decode bQ_link 62 = .ok (.iconst 0, 1) := by decide +kernel
theorem dQ_link_63 : decode bQ_link 63 = .ok (.ireturn, 1) := by decide +kernel
theorem dQ_link_64 : decode bQ_link 64 = .ok (.aload_n 0, 1) := by decide +kernel
theorem dQ_link_65 : decode bQ_link 65 = .ok (.iload_n 1, 1) := by decide +kernel
theorem dQ_link_66 : decode bQ_link 66 = .ok (.invokevirtual 139, 3) := by decide +kernel
theorem dQ_link_69 : decode bQ_link 69 = .ok (.aload_n 0, 1) := by decide +kernel
theorem dQ_link_70 : decode bQ_link 70 = .ok (.aload_n 0, 1) := by decide +kernel
theorem dQ_link_71 : decode bQ_link 71 = .ok (.getfield 100, 3) := by decide +kernel
theorem dQ_link_74 : decode bQ_link 74 = .ok (.putfield 143, 3) := by decide +kernel
theorem dQ_link_77 : decode bQ_link 77 = .ok (.iconst 0, 1) := by decide +kernel
theorem dQ_link_78 : decode bQ_link 78 = .ok (.istore_n 2, 1) := by decide +kernel
theorem dQ_link_79 : decode bQ_link 79 = .ok (.iconst 0, 1) := by decide +kernel
theorem dQ_link_80 : decode bQ_link 80 = .ok (.istore_n 3, 1) := by decide +kernel
theorem dQ_link_81 : decode bQ_link 81 = .ok (.iload_n 3, 1) := by decide +kernel
theorem dQ_link_82 : decode bQ_link 82 = .ok (.aload_n 0, 1) := by decide +kernel
theorem dQ_link_83 : decode bQ_link 83 = .ok (.getfield 100, 3) := by decide +kernel
theorem dQ_link_86 : decode bQ_link 86 = .ok (.if_icmp .ge 42, 3) := by decide +kernel
theorem dQ_link_89 : decode bQ_link 89 = .ok (.aload_n 0, 1) := by decide +kernel
theorem dQ_link_90 : decode bQ_link 90 = .ok (.getfield 31, 3) := by decide +kernel
theorem dQ_link_93 : decode bQ_link 93 = .ok (.iload_n 3, 1) := by decide +kernel
theorem dQ_link_94 : decode bQ_link 94 = .ok (.aload_n 0, 1) := by decide +kernel
theorem dQ_link_95 : decode bQ_link 95 = .ok (.getfield 22, 3) := by decide +kernel
theorem dQ_link_98 : decode bQ_link 98 = .ok (.iload_n 3, 1) := by decide +kernel
theorem dQ_link_99 : decode bQ_link 99 = .ok (.iaload, 1) := by decide +kernel
theorem dQ_link_100 : decode bQ_link 100 = .ok (.iastore, 1) := by decide +kernel
theorem dQ_link_101 : decode bQ_link 101 = .ok (.aload_n 0, 1) := by decide +kernel
theorem dQ_link_102 : decode bQ_link 102 = .ok (.getfield 34, 3) := by decide +kernel
theorem dQ_link_105 : decode bQ_link 105 = .ok (.iload_n 3, 1) := by decide +kernel
theorem dQ_link_106 : decode bQ_link 106 = .ok (.aload_n 0, 1) := by decide +kernel
theorem dQ_link_107 : decode bQ_link 107 = .ok (.getfield 25, 3) := by decide +kernel
theorem dQ_link_110 : decode bQ_link 110 = .ok (.iload_n 3, 1) := by decide +kernel
theorem dQ_link_111 : decode bQ_link 111 = .ok (.iaload, 1) := by decide +kernel
theorem dQ_link_112 : decode bQ_link 112 = .ok (.iastore, 1) := by decide +kernel
theorem dQ_link_113 : decode bQ_link 113 = .ok (.iload_n 2, 1) := by decide +kernel
theorem dQ_link_114 : decode bQ_link 114 = .ok (.aload_n 0, 1) := by decide +kernel
theorem dQ_link_115 : decode bQ_link 115 = .ok (.getfield 13, 3) := by decide +kernel
theorem dQ_link_118 : decode bQ_link 118 = .ok (.iload_n 3, 1) := by decide +kernel
theorem dQ_link_119 : decode bQ_link 119 = .ok (.iaload, 1) := by decide +kernel
theorem dQ_link_120 : decode bQ_link 120 = .ok (.iadd, 1) := by decide +kernel
theorem dQ_link_121 : decode bQ_link 121 = .ok (.istore_n 2, 1) := by decide +kernel
theorem dQ_link_122 : decode bQ_link 122 = .ok (.iinc 3 1, 3) := by decide +kernel
theorem dQ_link_125 : decode bQ_link 125 = .ok (.goto (-44), 3) := by decide +kernel
theorem dQ_link_128 : decode bQ_link 128 = .ok (.aload_n 0, 1) := by decide +kernel
theorem dQ_link_129 : decode bQ_link 129 = .ok (.invokevirtual 46, 3) := by decide +kernel
theorem dQ_link_132 : decode bQ_link 132 = .ok (.iload_n 2, 1) := by decide +kernel
theorem dQ_link_133 : decode bQ_link 133 = .ok (.ireturn, 1) := by decide +kernel
theorem dQ_packed_0 : decode bQ_packed 0 = .ok (.iload_n 1, 1) := by decide +kernel
theorem dQ_packed_1 : decode bQ_packed 1 = .ok (.iconst 0, 1) := by decide +kernel
theorem dQ_packed_2 : decode bQ_packed 2 = .ok (.aload_n 0, 1) := by decide +kernel
theorem dQ_packed_3 : decode bQ_packed 3 = .ok (.getfield 143, 3) := by decide +kernel
theorem dQ_packed_6 : decode bQ_packed 6 = .ok (.iconst 1, 1) := by decide +kernel
theorem dQ_packed_7 : decode bQ_packed 7 = .ok (.isub, 1) := by decide +kernel
theorem dQ_packed_8 : decode bQ_packed 8 = .ok (.invokestatic 96, 3) := by decide +kernel
theorem dQ_packed_11 : decode bQ_packed 11 = .ok (.ifCond .ne 12, 3) := by decide +kernel
theorem dQ_packed_14 : decode bQ_packed 14 = .ok (.iload_n 2, 1) := by decide +kernel
theorem dQ_packed_15 : decode bQ_packed 15 = .ok (.iconst 0, 1) := by decide +kernel
theorem dQ_packed_16 : decode bQ_packed 16 = .ok (.iconst 1, 1) := by decide +kernel
theorem dQ_packed_17 : decode bQ_packed 17 = .ok (.invokestatic 96, 3) := by decide +kernel
theorem dQ_packed_20 : decode bQ_packed 20 = .ok (.ifCond .eq 9, 3) := by decide +kernel
theorem dQ_packed_23 : decode bQ_packed 23 = .ok (.aload_n 0, 1) := by decide +kernel
theorem dQ_packed_24 : decode bQ_packed 24 = .ok (.iconst 1, 1) := by decide +kernel
theorem dQ_packed_25 : decode bQ_packed 25 = .ok (.invokevirtual 146, 3) := by decide +kernel
theorem dQ_packed_28 : decode bQ_packed 28 = .ok (.ireturn, 1) := by decide +kernel
theorem dQ_packed_29 : decode bQ_packed 29 = .ok (.aload_n 0, 1) := by decide +kernel
theorem dQ_packed_30 : decode bQ_packed 30 = .ok (.iconst 0, 1) := by decide +kernel
theorem dQ_packed_31 : decode bQ_packed 31 = .ok (.putfield 49, 3) := by decide +kernel
theorem dQ_packed_34 : decode bQ_packed 34 = .ok (.iload_n 2, 1) := by decide +kernel
theorem dQ_packed_35 : decode bQ_packed 35 = .ok (.ifCond .ne 12, 3) := by decide +kernel
theorem dQ_packed_38 : decode bQ_packed 38 = .ok (.aload_n 0, 1) := by decide +kernel
theorem dQ_packed_39 : decode bQ_packed 39 = .ok (.getfield 31, 3) := by decide +kernel
theorem dQ_packed_42 : decode bQ_packed 42 = .ok (.iload_n 1, 1) := by decide +kernel
theorem dQ_packed_43 : decode bQ_packed 43 = .ok (.iaload, 1) := by decide +kernel
theorem dQ_packed_44 : decode bQ_packed 44 = .ok (.goto 9, 3) := by decide +kernel
theorem dQ_packed_47 : decode bQ_packed 47 = .ok (.aload_n 0, 1) := by decide +kernel
theorem dQ_packed_48 : decode bQ_packed 48 = .ok (.getfield 34, 3) := by decide +kernel
theorem dQ_packed_51 : decode bQ_packed 51 = .ok (.iload_n 1, 1) := by decide +kernel
theorem dQ_packed_52 : decode bQ_packed 52 = .ok (.iaload, 1) := by decide +kernel
theorem dQ_packed_53 : decode bQ_packed 53 = .ok (.ireturn, 1) := by decide +kernel
theorem dQ_image_0 : decode bQ_image 0 = .ok (.iload_n 1, 1) := by decide +kernel
theorem dQ_image_1 : decode bQ_image 1 = .ok (.iconst 0, 1) := by decide +kernel
theorem dQ_image_2 : decode bQ_image 2 = .ok (.bipush 64, 2) := by decide +kernel
theorem dQ_image_4 : decode bQ_image 4 = .ok (.aload_n 0, 1) := by decide +kernel
theorem dQ_image_5 : decode bQ_image 5 = .ok (.getfield 114, 3) := by decide +kernel
theorem dQ_image_8 : decode bQ_image 8 = .ok (.imul, 1) := by decide +kernel
theorem dQ_image_9 : decode bQ_image 9 = .ok (.iconst 1, 1) := by decide +kernel
theorem dQ_image_10 : decode bQ_image 10 = .ok (.isub, 1) := by decide +kernel
theorem dQ_image_11 : decode bQ_image 11 = .ok (.invokestatic 96, 3) := by decide +kernel
theorem dQ_image_14 : decode bQ_image 14 = .ok (.ifCond .eq 9, 3) := by decide +kernel
theorem dQ_image_17 : decode bQ_image 17 = .ok (.aload_n 0, 1) := by decide +kernel
theorem dQ_image_18 : decode bQ_image 18 = .ok (.iconst 1, 1) := by decide +kernel
theorem dQ_image_19 : decode bQ_image 19 = .ok (.invokevirtual 146, 3) := by decide +kernel
theorem dQ_image_22 : decode bQ_image 22 = .ok (.ireturn, 1) := by decide +kernel
theorem dQ_image_23 : decode bQ_image 23 = .ok (.aload_n 0, 1) := by decide +kernel
theorem dQ_image_24 : decode bQ_image 24 = .ok (.iconst 0, 1) := by decide +kernel
theorem dQ_image_25 : decode bQ_image 25 = .ok (.putfield 49, 3) := by decide +kernel
theorem dQ_image_28 : decode bQ_image 28 = .ok (.aload_n 0, 1) := by decide +kernel
theorem dQ_image_29 : decode bQ_image 29 = .ok (.getfield 37, 3) := by decide +kernel
theorem dQ_image_32 : decode bQ_image 32 = .ok (.iload_n 1, 1) := by decide +kernel
theorem dQ_image_33 : decode bQ_image 33 = .ok (.iaload, 1) := by decide +kernel
theorem dQ_image_34 : decode bQ_image 34 = .ok (.ireturn, 1) := by decide +kernel
theorem dQ_spoil_0 : decode bQ_spoil 0 = .ok (.aload_n 0, 1) := by decide +kernel
theorem dQ_spoil_1 : decode bQ_spoil 1 = .ok (.iload_n 1, 1) := by decide +kernel
theorem dQ_spoil_2 : decode bQ_spoil 2 = .ok (.iconst 0, 1) := by decide +kernel
theorem dQ_spoil_3 : decode bQ_spoil 3 = .ok (.bipush 64, 2) := by decide +kernel
theorem dQ_spoil_5 : decode bQ_spoil 5 = .ok (.aload_n 0, 1) := by decide +kernel
theorem dQ_spoil_6 : decode bQ_spoil 6 = .ok (.getfield 114, 3) := by decide +kernel
theorem dQ_spoil_9 : decode bQ_spoil 9 = .ok (.imul, 1) := by decide +kernel
theorem dQ_spoil_10 : decode bQ_spoil 10 = .ok (.iconst 1, 1) := by decide +kernel
theorem dQ_spoil_11 : decode bQ_spoil 11 = .ok (.isub, 1) := by decide +kernel
theorem dQ_spoil_12 : decode bQ_spoil 12 = .ok (.invokestatic 96, 3) := by decide +kernel
theorem dQ_spoil_15 : decode bQ_spoil 15 = .ok (.ifCond .eq 7, 3) := by decide +kernel
theorem dQ_spoil_18 : decode bQ_spoil 18 = .ok (.iconst 1, 1) := by decide +kernel
theorem dQ_spoil_19 : decode bQ_spoil 19 = .ok (.goto 4, 3) := by decide +kernel
theorem dQ_spoil_22 : decode bQ_spoil 22 = .ok (.iconst 0, 1) := by decide +kernel
theorem dQ_spoil_23 : decode bQ_spoil 23 = .ok (.putfield 49, 3) := by decide +kernel
theorem dQ_spoil_26 : decode bQ_spoil 26 = .ok (.aload_n 0, 1) := by decide +kernel
theorem dQ_spoil_27 : decode bQ_spoil 27 = .ok (.getfield 49, 3) := by decide +kernel
theorem dQ_spoil_30 : decode bQ_spoil 30 = .ok (.ifCond .ne 14, 3) := by decide +kernel
theorem dQ_spoil_33 : decode bQ_spoil 33 = .ok (.aload_n 0, 1) := by decide +kernel
theorem dQ_spoil_34 : decode bQ_spoil 34 = .ok (.getfield 37, 3) := by decide +kernel
theorem dQ_spoil_37 : decode bQ_spoil 37 = .ok (.iload_n 1, 1) := by decide +kernel
theorem dQ_spoil_38 : decode bQ_spoil 38 = .ok (.iload_n 2, 1) := by decide +kernel
theorem dQ_spoil_39 : decode bQ_spoil 39 = .ok (.sipush 255, 3) := by decide +kernel
theorem dQ_spoil_42 : decode bQ_spoil 42 = .ok (.iand, 1) := by decide +kernel
theorem dQ_spoil_43 : decode bQ_spoil 43 = .ok (.iastore, 1) := by decide +kernel
theorem dQ_spoil_44 : decode bQ_spoil 44 = .ok (.return_, 1) := by decide +kernel
theorem dQ_valid_0 : decode bQ_valid 0 = .ok (.aload_n 0, 1) := by decide +kernel
theorem dQ_valid_1 : decode bQ_valid 1 = .ok (.getfield 143, 3) := by decide +kernel
theorem dQ_valid_4 : decode bQ_valid 4 = .ok (.ifCond .ne 9, 3) := by decide +kernel
theorem dQ_valid_7 : decode bQ_valid 7 = .ok (.aload_n 0, 1) := by decide +kernel
theorem dQ_valid_8 : decode bQ_valid 8 = .ok (.iconst 1, 1) := by decide +kernel
theorem dQ_valid_9 : decode bQ_valid 9 = .ok (.invokevirtual 146, 3) := by decide +kernel
theorem dQ_valid_12 : decode bQ_valid 12 = .ok (.ireturn, 1) := by decide +kernel
theorem dQ_valid_13 : decode bQ_valid 13 = .ok (.aload_n 0, 1) := by decide +kernel
theorem dQ_valid_14 : decode bQ_valid 14 = .ok (.iconst 0, 1) := by decide +kernel
theorem dQ_valid_15 : decode bQ_valid 15 = .ok (.putfield 49, 3) := by decide +kernel
theorem dQ_valid_18 : decode bQ_valid 18 = .ok (.iconst 1, 1) := by decide +kernel
theorem dQ_valid_19 : decode bQ_valid 19 = .ok (.istore_n 1, 1) := by decide +kernel
theorem dQ_valid_20 : decode bQ_valid 20 = .ok (.iconst 2, 1) := by decide +kernel
theorem dQ_valid_21 : decode bQ_valid 21 = .ok (.istore_n 2, 1) := by decide +kernel
theorem dQ_valid_22 : decode bQ_valid 22 = .ok (.iload_n 2, 1) := by decide +kernel
theorem dQ_valid_23 : decode bQ_valid 23 = .ok (.bipush 7, 2) := by decide +kernel
theorem dQ_valid_25 : decode bQ_valid 25 = .ok (.if_icmp .ge 33, 3) := by decide +kernel
theorem dQ_valid_28 : decode bQ_valid 28 = .ok (.iload_n 1, 1) := by decide +kernel
theorem dQ_valid_29 : decode bQ_valid 29 = .ok (.ifCond .eq 21, 3) := by decide +kernel
theorem dQ_valid_32 : decode bQ_valid 32 = .ok (.aload_n 0, 1) := by decide +kernel
theorem dQ_valid_33 : decode bQ_valid 33 = .ok (.getfield 37, 3) := by decide +kernel
theorem dQ_valid_36 : decode bQ_valid 36 = .ok (.iload_n 2, 1) := by decide +kernel
theorem dQ_valid_37 : decode bQ_valid 37 = .ok (.iaload, 1) := by decide +kernel
theorem dQ_valid_38 : decode bQ_valid 38 = .ok (.aload_n 0, 1) := by decide +kernel
theorem dQ_valid_39 : decode bQ_valid 39 = .ok (.iload_n 2, 1) := by decide +kernel
theorem dQ_valid_40 : decode bQ_valid 40 = .ok (.invokevirtual 118, 3) := by decide +kernel
theorem dQ_valid_43 : decode bQ_valid 43 = .ok (.if_icmp .ne 7, 3) := by decide +kernel
theorem dQ_valid_46 : decode bQ_valid 46 = .ok (.iconst 1, 1) := by decide +kernel
theorem dQ_valid_47 : decode bQ_valid 47 = .ok (.goto 4, 3) := by decide +kernel
theorem dQ_valid_50 : decode bQ_valid 50 = .ok (.iconst 0, 1) := by decide +kernel
theorem dQ_valid_51 : decode bQ_valid 51 = .ok (.istore_n 1, 1) := by decide +kernel
theorem dQ_valid_52 : decode bQ_valid 52 = .ok (.iinc 2 1, 3) := by decide +kernel
theorem dQ_valid_55 : decode bQ_valid 55 = .ok (.goto (-33), 3) := by decide +kernel
theorem dQ_valid_58 : decode bQ_valid 58 = .ok (.iload_n 1, 1) := by decide +kernel
theorem dQ_valid_59 : decode bQ_valid 59 = .ok (.ifCond .ne 5, 3) := by decide +kernel
theorem dQ_valid_62 : decode bQ_valid 62 = .ok (.iconst 1, 1) := by decide +kernel
theorem dQ_valid_63 : decode bQ_valid 63 = .ok (.ireturn, 1) := by decide +kernel
theorem dQ_valid_64 : decode bQ_valid 64 = .ok (.aload_n 0, 1) := by decide +kernel
theorem dQ_valid_65 : decode bQ_valid 65 = .ok (.getfield 37, 3) := by decide +kernel
theorem dQ_valid_68 : decode bQ_valid 68 = .ok (.bipush 13, 2) := by decide +kernel
theorem dQ_valid_70 : decode bQ_valid 70 = .ok (.iaload, 1) := by decide +kernel
theorem dQ_valid_71 : decode bQ_valid 71 = .ok (.aload_n 0, 1) := by decide +kernel
theorem dQ_valid_72 : decode bQ_valid 72 = .ok (.invokevirtual 125, 3) := by decide +kernel
theorem dQ_valid_75 : decode bQ_valid 75 = .ok (.if_icmp .eq 7, 3) := by decide +kernel
theorem dQ_valid_78 : decode bQ_valid 78 = .ok (.iconst 2, 1) := by decide +kernel
theorem dQ_valid_79 : decode bQ_valid 79 = .ok (.goto 34, 3) := by decide +kernel
theorem dQ_valid_82 : decode bQ_valid 82 = .ok (.sipush 256, 3) := by decide +kernel
theorem dQ_valid_85 : decode bQ_valid 85 = .ok (.aload_n 0, 1) := by decide +kernel
theorem dQ_valid_86 : decode bQ_valid 86 = .ok (.getfield 37, 3) := by decide +kernel
theorem dQ_valid_89 : decode bQ_valid 89 = .ok (.bipush 14, 2) := by decide +kernel
theorem dQ_valid_91 : decode bQ_valid 91 = .ok (.iaload, 1) := by decide +kernel
theorem dQ_valid_92 : decode bQ_valid 92 = .ok (.imul, 1) := by decide +kernel
theorem dQ_valid_93 : decode bQ_valid 93 = .ok (.aload_n 0, 1) := by decide +kernel
theorem dQ_valid_94 : decode bQ_valid 94 = .ok (.getfield 37, 3) := by decide +kernel
theorem dQ_valid_97 : decode bQ_valid 97 = .ok (.bipush 15, 2) := by decide +kernel
theorem dQ_valid_99 : decode bQ_valid 99 = .ok (.iaload, 1) := by decide +kernel
theorem dQ_valid_100 : decode bQ_valid 100 = .ok (.iadd, 1) := by decide +kernel
theorem dQ_valid_101 : decode bQ_valid 101 = .ok (.aload_n 0, 1) := by decide +kernel
theorem dQ_valid_102 : decode bQ_valid 102 = .ok (.invokevirtual 129, 3) := by decide +kernel
theorem dQ_valid_105 : decode bQ_valid 105 = .ok (.if_icmp .eq 7, 3) := by decide +kernel
theorem dQ_valid_108 : decode bQ_valid 108 = .ok (.iconst 3, 1) := by decide +kernel
theorem dQ_valid_109 : decode bQ_valid 109 = .ok (.goto 4, 3) := by decide +kernel
theorem dQ_valid_112 : decode bQ_valid 112 = .ok (.iconst 0, 1) := by decide +kernel
theorem dQ_valid_113 : decode bQ_valid 113 = .ok (.ireturn, 1) := by decide +kernel
theorem dQ_where_0 : decode bQ_where 0 = .ok (.iload_n 1, 1) := by decide +kernel
theorem dQ_where_1 : decode bQ_where 1 = .ok (.bipush 64, 2) := by decide +kernel
theorem dQ_where_3 : decode bQ_where 3 = .ok (.if_icmp .ge 32, 3) := by decide +kernel
theorem dQ_where_6 : decode bQ_where 6 = .ok (.aload_n 0, 1) := by decide +kernel
theorem dQ_where_7 : decode bQ_where 7 = .ok (.getfield 87, 3) := by decide +kernel
theorem dQ_where_10 : decode bQ_where 10 = .ok (.iconst 1, 1) := by decide +kernel
theorem dQ_where_11 : decode bQ_where 11 = .ok (.if_icmp .ne 22, 3) := by decide +kernel
theorem dQ_where_14 : decode bQ_where 14 = .ok (.bipush 64, 2) := by decide +kernel
theorem dQ_where_16 : decode bQ_where 16 = .ok (.iconst 4, 1) := by decide +kernel
theorem dQ_where_17 : decode bQ_where 17 = .ok (.aload_n 0, 1) := by decide +kernel
theorem dQ_where_18 : decode bQ_where 18 = .ok (.getfield 84, 3) := by decide +kernel
theorem dQ_where_21 : decode bQ_where 21 = .ok (.imul, 1) := by decide +kernel
theorem dQ_where_22 : decode bQ_where 22 = .ok (.aload_n 0, 1) := by decide +kernel
theorem dQ_where_23 : decode bQ_where 23 = .ok (.getfield 114, 3) := by decide +kernel
theorem dQ_where_26 : decode bQ_where 26 = .ok (.irem, 1) := by decide +kernel
theorem dQ_where_27 : decode bQ_where 27 = .ok (.imul, 1) := by decide +kernel
theorem dQ_where_28 : decode bQ_where 28 = .ok (.iload_n 1, 1) := by decide +kernel
theorem dQ_where_29 : decode bQ_where 29 = .ok (.iadd, 1) := by decide +kernel
theorem dQ_where_30 : decode bQ_where 30 = .ok (.goto 4, 3) := by decide +kernel
theorem dQ_where_33 : decode bQ_where 33 = .ok (.iload_n 1, 1) := by decide +kernel
theorem dQ_where_34 : decode bQ_where 34 = .ok (.ireturn, 1) := by decide +kernel
theorem dQ_where_35 : decode bQ_where 35 = .ok (.iload_n 1, 1) := by decide +kernel
theorem dQ_where_36 : decode bQ_where 36 = .ok (.sipush 128, 3) := by decide +kernel
theorem dQ_where_39 : decode bQ_where 39 = .ok (.if_icmp .ge 28, 3) := by decide +kernel
theorem dQ_where_42 : decode bQ_where 42 = .ok (.bipush 64, 2) := by decide +kernel
theorem dQ_where_44 : decode bQ_where 44 = .ok (.iconst 4, 1) := by decide +kernel
theorem dQ_where_45 : decode bQ_where 45 = .ok (.aload_n 0, 1) := by decide +kernel
theorem dQ_where_46 : decode bQ_where 46 = .ok (.getfield 84, 3) := by decide +kernel
theorem dQ_where_49 : decode bQ_where 49 = .ok (.imul, 1) := by decide +kernel
theorem dQ_where_50 : decode bQ_where 50 = .ok (.aload_n 0, 1) := by decide +kernel
theorem dQ_where_51 : decode bQ_where 51 = .ok (.getfield 81, 3) := by decide +kernel
theorem dQ_where_54 : decode bQ_where 54 = .ok (.iadd, 1) := by decide +kernel
theorem dQ_where_55 : decode bQ_where 55 = .ok (.aload_n 0, 1) := by decide +kernel
theorem dQ_where_56 : decode bQ_where 56 = .ok (.getfield 114, 3) := by decide +kernel
theorem dQ_where_59 : decode bQ_where 59 = .ok (.irem, 1) := by decide +kernel
theorem dQ_where_60 : decode bQ_where 60 = .ok (.imul, 1) := by decide +kernel
theorem dQ_where_61 : decode bQ_where 61 = .ok (.iload_n 1, 1) := by decide +kernel
theorem dQ_where_62 : decode bQ_where 62 = .ok (.iadd, 1) := by decide +kernel
theorem dQ_where_63 : decode bQ_where 63 = .ok (.bipush 64, 2) := by decide +kernel
theorem dQ_where_65 : decode bQ_where 65 = .ok (.isub, 1) := by decide +kernel
theorem dQ_where_66 : decode bQ_where 66 = .ok (.ireturn, 1) := by decide +kernel
theorem dQ_where_67 : decode bQ_where 67 = .ok (.iload_n 1, 1) := by decide +kernel
theorem dQ_where_68 : decode bQ_where 68 = .ok (.sipush 192, 3) := by decide +kernel
theorem dQ_where_71 : decode bQ_where 71 = .ok (.if_icmp .ge 46, 3) := by decide +kernel
theorem dQ_where_74 : decode bQ_where 74 = .ok (.aload_n 0, 1) := by decide +kernel
theorem dQ_where_75 : decode bQ_where 75 = .ok (.getfield 78, 3) := by decide +kernel
theorem dQ_where_78 : decode bQ_where 78 = .ok (.ifCond .ne 9, 3) := by decide +kernel
theorem dQ_where_81 : decode bQ_where 81 = .ok (.sipush 704, 3) := by decide +kernel
theorem dQ_where_84 : decode bQ_where 84 = .ok (.goto 32, 3) := by decide +kernel
theorem dQ_where_87 : decode bQ_where 87 = .ok (.sipush 512, 3) := by decide +kernel
theorem dQ_where_90 : decode bQ_where 90 = .ok (.iload_n 1, 1) := by decide +kernel
theorem dQ_where_91 : decode bQ_where 91 = .ok (.iadd, 1) := by decide +kernel
theorem dQ_where_92 : decode bQ_where 92 = .ok (.sipush 128, 3) := by decide +kernel
theorem dQ_where_95 : decode bQ_where 95 = .ok (.isub, 1) := by decide +kernel
theorem dQ_where_96 : decode bQ_where 96 = .ok (.aload_n 0, 1) := by decide +kernel
theorem dQ_where_97 : decode bQ_where 97 = .ok (.getfield 87, 3) := by decide +kernel
theorem dQ_where_100 : decode bQ_where 100 = .ok (.iconst 1, 1) := by decide +kernel
theorem dQ_where_101 : decode bQ_where 101 = .ok (.if_icmp .ne 13, 3) := by decide +kernel
theorem dQ_where_104 : decode bQ_where 104 = .ok (.bipush 64, 2) := by decide +kernel
theorem dQ_where_106 : decode bQ_where 106 = .ok (.aload_n 0, 1) := by decide +kernel
theorem dQ_where_107 : decode bQ_where 107 = .ok (.getfield 84, 3) := by decide +kernel
theorem dQ_where_110 : decode bQ_where 110 = .ok (.imul, 1) := by decide +kernel
theorem dQ_where_111 : decode bQ_where 111 = .ok (.goto 4, 3) := by decide +kernel
theorem dQ_where_114 : decode bQ_where 114 = .ok (.iconst 0, 1) := by decide +kernel
theorem dQ_where_115 : decode bQ_where 115 = .ok (.iadd, 1) := by decide +kernel
theorem dQ_where_116 : decode bQ_where 116 = .ok (.ireturn, 1) := by decide +kernel
theorem dQ_where_117 : decode bQ_where 117 = .ok (.sipush 640, 3) := by decide +kernel
theorem dQ_where_120 : decode bQ_where 120 = .ok (.iload_n 1, 1) := by decide +kernel
theorem dQ_where_121 : decode bQ_where 121 = .ok (.iadd, 1) := by decide +kernel
theorem dQ_where_122 : decode bQ_where 122 = .ok (.sipush 192, 3) := by decide +kernel
theorem dQ_where_125 : decode bQ_where 125 = .ok (.isub, 1) := by decide +kernel
theorem dQ_where_126 : decode bQ_where 126 = .ok (.ireturn, 1) := by decide +kernel
theorem dQ_read_0 : decode bQ_read 0 = .ok (.aload_n 0, 1) := by decide +kernel
theorem dQ_read_1 : decode bQ_read 1 = .ok (.getfield 37, 3) := by decide +kernel
theorem dQ_read_4 : decode bQ_read 4 = .ok (.aload_n 0, 1) := by decide +kernel
theorem dQ_read_5 : decode bQ_read 5 = .ok (.iload_n 1, 1) := by decide +kernel
theorem dQ_read_6 : decode bQ_read 6 = .ok (.invokevirtual 149, 3) := by decide +kernel
theorem dQ_read_9 : decode bQ_read 9 = .ok (.iaload, 1) := by decide +kernel
theorem dQ_read_10 : decode bQ_read 10 = .ok (.ireturn, 1) := by decide +kernel
theorem dQ_write_0 : decode bQ_write 0 = .ok (.iload_n 1, 1) := by decide +kernel
theorem dQ_write_1 : decode bQ_write 1 = .ok (.bipush 32, 2) := by decide +kernel
theorem dQ_write_3 : decode bQ_write 3 = .ok (.if_icmp .ge 24, 3) := by decide +kernel
theorem dQ_write_6 : decode bQ_write 6 = .ok (.aload_n 0, 1) := by decide +kernel
theorem dQ_write_7 : decode bQ_write 7 = .ok (.iload_n 2, 1) := by decide +kernel
theorem dQ_write_8 : decode bQ_write 8 = .ok (.bipush 16, 2) := by decide +kernel
theorem dQ_write_10 : decode bQ_write 10 = .ok (.irem, 1) := by decide +kernel
theorem dQ_write_11 : decode bQ_write 11 = .ok (.bipush 10, 2) := by decide +kernel
theorem dQ_write_13 : decode bQ_write 13 = .ok (.if_icmp .ne 7, 3) := by decide +kernel
theorem dQ_write_16 : decode bQ_write 16 = .ok (.iconst 1, 1) := by decide +kernel
theorem dQ_write_17 : decode bQ_write 17 = .ok (.goto 4, 3) := by decide +kernel
theorem dQ_write_20 : decode bQ_write 20 = .ok (.iconst 0, 1) := by decide +kernel
theorem dQ_write_21 : decode bQ_write 21 = .ok (.putfield 78, 3) := by decide +kernel
theorem dQ_write_24 : decode bQ_write 24 = .ok (.goto 108, 3) := by decide +kernel
theorem dQ_write_27 : decode bQ_write 27 = .ok (.iload_n 1, 1) := by decide +kernel
theorem dQ_write_28 : decode bQ_write 28 = .ok (.bipush 64, 2) := by decide +kernel
theorem dQ_write_30 : decode bQ_write 30 = .ok (.if_icmp .ge 23, 3) := by decide +kernel
theorem dQ_write_33 : decode bQ_write 33 = .ok (.aload_n 0, 1) := by decide +kernel
theorem dQ_write_34 : decode bQ_write 34 = .ok (.iload_n 2, 1) := by decide +kernel
theorem dQ_write_35 : decode bQ_write 35 = .ok (.iconst 4, 1) := by decide +kernel
theorem dQ_write_36 : decode bQ_write 36 = .ok (.irem, 1) := by decide +kernel
theorem dQ_write_37 : decode bQ_write 37 = .ok (.ifCond .le 9, 3) := by decide +kernel
theorem dQ_write_40 : decode bQ_write 40 = .ok (.iload_n 2, 1) := by decide +kernel
theorem dQ_write_41 : decode bQ_write 41 = .ok (.iconst 4, 1) := by decide +kernel
theorem dQ_write_42 : decode bQ_write 42 = .ok (.irem, 1) := by decide +kernel
theorem dQ_write_43 : decode bQ_write 43 = .ok (.goto 4, 3) := by decide +kernel
theorem dQ_write_46 : decode bQ_write 46 = .ok (.iconst 1, 1) := by decide +kernel
theorem dQ_write_47 : decode bQ_write 47 = .ok (.putfield 81, 3) := by decide +kernel
theorem dQ_write_50 : decode bQ_write 50 = .ok (.goto 82, 3) := by decide +kernel
theorem dQ_write_53 : decode bQ_write 53 = .ok (.iload_n 1, 1) := by decide +kernel
theorem dQ_write_54 : decode bQ_write 54 = .ok (.bipush 96, 2) := by decide +kernel
theorem dQ_write_56 : decode bQ_write 56 = .ok (.if_icmp .ge 13, 3) := by decide +kernel
theorem dQ_write_59 : decode bQ_write 59 = .ok (.aload_n 0, 1) := by decide +kernel
theorem dQ_write_60 : decode bQ_write 60 = .ok (.iload_n 2, 1) := by decide +kernel
theorem dQ_write_61 : decode bQ_write 61 = .ok (.iconst 2, 1) := by decide +kernel
theorem dQ_write_62 : decode bQ_write 62 = .ok (.irem, 1) := by decide +kernel
theorem dQ_write_63 : decode bQ_write 63 = .ok (.putfield 84, 3) := by decide +kernel
theorem dQ_write_66 : decode bQ_write 66 = .ok (.goto 66, 3) := by decide +kernel
theorem dQ_write_69 : decode bQ_write 69 = .ok (.iload_n 1, 1) := by decide +kernel
theorem dQ_write_70 : decode bQ_write 70 = .ok (.sipush 128, 3) := by decide +kernel
theorem dQ_write_73 : decode bQ_write 73 = .ok (.if_icmp .ge 13, 3) := by decide +kernel
theorem dQ_write_76 : decode bQ_write 76 = .ok (.aload_n 0, 1) := by decide +kernel
theorem dQ_write_77 : decode bQ_write 77 = .ok (.iload_n 2, 1) := by decide +kernel
theorem dQ_write_78 : decode bQ_write 78 = .ok (.iconst 2, 1) := by decide +kernel
theorem dQ_write_79 : decode bQ_write 79 = .ok (.irem, 1) := by decide +kernel
theorem dQ_write_80 : decode bQ_write 80 = .ok (.putfield 87, 3) := by decide +kernel
theorem dQ_write_83 : decode bQ_write 83 = .ok (.goto 49, 3) := by decide +kernel
theorem dQ_write_86 : decode bQ_write 86 = .ok (.iload_n 1, 1) := by decide +kernel
theorem dQ_write_87 : decode bQ_write 87 = .ok (.sipush 192, 3) := by decide +kernel
theorem dQ_write_90 : decode bQ_write 90 = .ok (.if_icmp .ge 10, 3) := by decide +kernel
theorem dQ_write_93 : decode bQ_write 93 = .ok (.aload_n 0, 1) := by decide +kernel
theorem dQ_write_94 : decode bQ_write 94 = .ok (.getfield 78, 3) := by decide +kernel
theorem dQ_write_97 : decode bQ_write 97 = .ok (.ifCond .ne 10, 3) := by decide +kernel
theorem dQ_write_100 : decode bQ_write 100 = .ok (.iload_n 1, 1) := by decide +kernel
theorem dQ_write_101 : decode bQ_write 101 = .ok (.sipush 191, 3) := by decide +kernel
theorem dQ_write_104 : decode bQ_write 104 = .ok (.if_icmp .le 28, 3) := by decide +kernel
theorem dQ_write_107 : decode bQ_write 107 = .ok (.aload_n 0, 1) := by decide +kernel
theorem dQ_write_108 : decode bQ_write 108 = .ok (.getfield 37, 3) := by decide +kernel
theorem dQ_write_111 : decode bQ_write 111 = .ok (.aload_n 0, 1) := by decide +kernel
theorem dQ_write_112 : decode bQ_write 112 = .ok (.iload_n 1, 1) := by decide +kernel
theorem dQ_write_113 : decode bQ_write 113 = .ok (.invokevirtual 149, 3) := by decide +kernel
theorem dQ_write_116 : decode bQ_write 116 = .ok (.iload_n 1, 1) := by decide +kernel
theorem dQ_write_117 : decode bQ_write 117 = .ok (.sipush 253, 3) := by decide +kernel
theorem dQ_write_120 : decode bQ_write 120 = .ok (.if_icmp .le 10, 3) := by decide +kernel
theorem dQ_write_123 : decode bQ_write 123 = .ok (.iload_n 2, 1) := by decide +kernel
theorem dQ_write_124 : decode bQ_write 124 = .ok (.bipush 16, 2) := by decide +kernel
theorem dQ_write_126 : decode bQ_write 126 = .ok (.irem, 1) := by decide +kernel
theorem dQ_write_127 : decode bQ_write 127 = .ok (.goto 4, 3) := by decide +kernel
theorem dQ_write_130 : decode bQ_write 130 = .ok (.iload_n 2, 1) := by decide +kernel
theorem dQ_write_131 : decode bQ_write 131 = .ok (.iastore, 1) := by decide +kernel
theorem dQ_write_132 : decode bQ_write 132 = .ok (.return_, 1) := by decide +kernel
theorem dQ_get_0 : decode bQ_get 0 = .ok (.iload_n 1, 1) := by decide +kernel
theorem dQ_get_1 : decode bQ_get 1 = .ok (.bipush 6, 2) := by decide +kernel
theorem dQ_get_3 : decode bQ_get 3 = .ok (.if_icmp .ne 16, 3) := by decide +kernel
theorem dQ_get_6 : decode bQ_get 6 = .ok (.aload_n 0, 1) := by decide +kernel
theorem dQ_get_7 : decode bQ_get 7 = .ok (.aload_n 0, 1) := by decide +kernel
theorem dQ_get_8 : decode bQ_get 8 = .ok (.getfield 40, 3) := by decide +kernel
theorem dQ_get_11 : decode bQ_get 11 = .ok (.iconst 5, 1) := by decide +kernel
theorem dQ_get_12 : decode bQ_get 12 = .ok (.iaload, 1) := by decide +kernel
theorem dQ_get_13 : decode bQ_get 13 = .ok (.invokevirtual 152, 3) := by decide +kernel
theorem dQ_get_16 : decode bQ_get 16 = .ok (.goto 9, 3) := by decide +kernel
theorem dQ_get_19 : decode bQ_get 19 = .ok (.aload_n 0, 1) := by decide +kernel
theorem dQ_get_20 : decode bQ_get 20 = .ok (.getfield 40, 3) := by decide +kernel
theorem dQ_get_23 : decode bQ_get 23 = .ok (.iload_n 1, 1) := by decide +kernel
theorem dQ_get_24 : decode bQ_get 24 = .ok (.iaload, 1) := by decide +kernel
theorem dQ_get_25 : decode bQ_get 25 = .ok (.ireturn, 1) := by decide +kernel
theorem dQ_set_0 : decode bQ_set 0 = .ok (.iload_n 1, 1) := by decide +kernel
theorem dQ_set_1 : decode bQ_set 1 = .ok (.bipush 6, 2) := by decide +kernel
theorem dQ_set_3 : decode bQ_set 3 = .ok (.if_icmp .ne 21, 3) := by decide +kernel
theorem dQ_set_6 : decode bQ_set 6 = .ok (.aload_n 0, 1) := by decide +kernel
theorem dQ_set_7 : decode bQ_set 7 = .ok (.aload_n 0, 1) := by decide +kernel
theorem dQ_set_8 : decode bQ_set 8 = .ok (.getfield 40, 3) := by decide +kernel
theorem dQ_set_11 : decode bQ_set 11 = .ok (.iconst 5, 1) := by decide +kernel
theorem dQ_set_12 : decode bQ_set 12 = .ok (.iaload, 1) := by decide +kernel
theorem dQ_set_13 : decode bQ_set 13 = .ok (.iload_n 2, 1) := by decide +kernel
theorem dQ_set_14 : decode bQ_set 14 = .ok (.sipush 255, 3) := by decide +kernel
theorem dQ_set_17 : decode bQ_set 17 = .ok (.iand, 1) := by decide +kernel
theorem dQ_set_18 : decode bQ_set 18 = .ok (.invokevirtual 155, 3) := by decide +kernel
theorem dQ_set_21 : decode bQ_set 21 = .ok (.goto 14, 3) := by decide +kernel
theorem dQ_set_24 : decode bQ_set 24 = .ok (.aload_n 0, 1) := by decide +kernel
theorem dQ_set_25 : decode bQ_set 25 = .ok (.getfield 40, 3) := by decide +kernel
theorem dQ_set_28 : decode bQ_set 28 = .ok (.iload_n 1, 1) := by decide +kernel
theorem dQ_set_29 : decode bQ_set 29 = .ok (.iload_n 2, 1) := by decide +kernel
theorem dQ_set_30 : decode bQ_set 30 = .ok (.sipush 255, 3) := by decide +kernel
theorem dQ_set_33 : decode bQ_set 33 = .ok (.iand, 1) := by decide +kernel
theorem dQ_set_34 : decode bQ_set 34 = .ok (.iastore, 1) := by decide +kernel
theorem dQ_set_35 : decode bQ_set 35 = .ok (.return_, 1) := by decide +kernel
theorem dQ_next_0 : decode bQ_next 0 = .ok (.aload_n 0, 1) := by decide +kernel
theorem dQ_next_1 : decode bQ_next 1 = .ok (.aload_n 0, 1) := by decide +kernel
theorem dQ_next_2 : decode bQ_next 2 = .ok (.getfield 56, 3) := by decide +kernel
theorem dQ_next_5 : decode bQ_next 5 = .ok (.invokevirtual 152, 3) := by decide +kernel
theorem dQ_next_8 : decode bQ_next 8 = .ok (.istore_n 1, 1) := by decide +kernel
theorem dQ_next_9 : decode bQ_next 9 = .ok (.aload_n 0, 1) := by decide +kernel
theorem dQ_next_10 : decode bQ_next 10 = .ok (.aload_n 0, 1) := by decide +kernel
theorem dQ_next_11 : decode bQ_next 11 = .ok (.getfield 56, 3) := by decide +kernel
theorem dQ_next_14 : decode bQ_next 14 = .ok (.iconst 1, 1) := by decide +kernel
theorem dQ_next_15 : decode bQ_next 15 = .ok (.iadd, 1) := by decide +kernel
theorem dQ_next_16 : decode bQ_next 16 = .ok (.sipush 256, 3) := by decide +kernel
theorem dQ_next_19 : decode bQ_next 19 = .ok (.irem, 1) := by decide +kernel
theorem dQ_next_20 : decode bQ_next 20 = .ok (.putfield 56, 3) := by decide +kernel
theorem dQ_next_23 : decode bQ_next 23 = .ok (.iload_n 1, 1) := by decide +kernel
theorem dQ_next_24 : decode bQ_next 24 = .ok (.ireturn, 1) := by decide +kernel
theorem dQ_push_0 : decode bQ_push 0 = .ok (.aload_n 0, 1) := by decide +kernel
theorem dQ_push_1 : decode bQ_push 1 = .ok (.aload_n 0, 1) := by decide +kernel
theorem dQ_push_2 : decode bQ_push 2 = .ok (.getfield 53, 3) := by decide +kernel
theorem dQ_push_5 : decode bQ_push 5 = .ok (.sipush 255, 3) := by decide +kernel
theorem dQ_push_8 : decode bQ_push 8 = .ok (.iadd, 1) := by decide +kernel
theorem dQ_push_9 : decode bQ_push 9 = .ok (.sipush 256, 3) := by decide +kernel
theorem dQ_push_12 : decode bQ_push 12 = .ok (.irem, 1) := by decide +kernel
theorem dQ_push_13 : decode bQ_push 13 = .ok (.putfield 53, 3) := by decide +kernel
theorem dQ_push_16 : decode bQ_push 16 = .ok (.aload_n 0, 1) := by decide +kernel
theorem dQ_push_17 : decode bQ_push 17 = .ok (.aload_n 0, 1) := by decide +kernel
theorem dQ_push_18 : decode bQ_push 18 = .ok (.getfield 53, 3) := by decide +kernel
theorem dQ_push_21 : decode bQ_push 21 = .ok (.iload_n 1, 1) := by decide +kernel
theorem dQ_push_22 : decode bQ_push 22 = .ok (.invokevirtual 155, 3) := by decide +kernel
theorem dQ_push_25 : decode bQ_push 25 = .ok (.return_, 1) := by decide +kernel
theorem dQ_pop_0 : decode bQ_pop 0 = .ok (.aload_n 0, 1) := by decide +kernel
theorem dQ_pop_1 : decode bQ_pop 1 = .ok (.aload_n 0, 1) := by decide +kernel
theorem dQ_pop_2 : decode bQ_pop 2 = .ok (.getfield 53, 3) := by decide +kernel
theorem dQ_pop_5 : decode bQ_pop 5 = .ok (.invokevirtual 152, 3) := by decide +kernel
theorem dQ_pop_8 : decode bQ_pop 8 = .ok (.istore_n 1, 1) := by decide +kernel
theorem dQ_pop_9 : decode bQ_pop 9 = .ok (.aload_n 0, 1) := by decide +kernel
theorem dQ_pop_10 : decode bQ_pop 10 = .ok (.aload_n 0, 1) := by decide +kernel
theorem dQ_pop_11 : decode bQ_pop 11 = .ok (.getfield 53, 3) := by decide +kernel
theorem dQ_pop_14 : decode bQ_pop 14 = .ok (.iconst 1, 1) := by decide +kernel
theorem dQ_pop_15 : decode bQ_pop 15 = .ok (.iadd, 1) := by decide +kernel
theorem dQ_pop_16 : decode bQ_pop 16 = .ok (.sipush 256, 3) := by decide +kernel
theorem dQ_pop_19 : decode bQ_pop 19 = .ok (.irem, 1) := by decide +kernel
theorem dQ_pop_20 : decode bQ_pop 20 = .ok (.putfield 53, 3) := by decide +kernel
theorem dQ_pop_23 : decode bQ_pop 23 = .ok (.iload_n 1, 1) := by decide +kernel
theorem dQ_pop_24 : decode bQ_pop 24 = .ok (.ireturn, 1) := by decide +kernel
theorem dQ_add_0 : decode bQ_add 0 = .ok (.iload_n 1, 1) := by decide +kernel
theorem dQ_add_1 : decode bQ_add 1 = .ok (.bipush 16, 2) := by decide +kernel
theorem dQ_add_3 : decode bQ_add 3 = .ok (.irem, 1) := by decide +kernel
theorem dQ_add_4 : decode bQ_add 4 = .ok (.iload_n 2, 1) := by decide +kernel
theorem dQ_add_5 : decode bQ_add 5 = .ok (.bipush 16, 2) := by decide +kernel
theorem dQ_add_7 : decode bQ_add 7 = .ok (.irem, 1) := by decide +kernel
theorem dQ_add_8 : decode bQ_add 8 = .ok (.iadd, 1) := by decide +kernel
theorem dQ_add_9 : decode bQ_add 9 = .ok (.iload_n 3, 1) := by decide +kernel
theorem dQ_add_10 : decode bQ_add 10 = .ok (.iadd, 1) := by decide +kernel
theorem dQ_add_11 : decode bQ_add 11 = .ok (.istore 4, 2) := by decide +kernel
theorem dQ_add_13 : decode bQ_add 13 = .ok (.iload_n 1, 1) := by decide +kernel
theorem dQ_add_14 : decode bQ_add 14 = .ok (.bipush 16, 2) := by decide +kernel
theorem dQ_add_16 : decode bQ_add 16 = .ok (.idiv, 1) := by decide +kernel
theorem dQ_add_17 : decode bQ_add 17 = .ok (.iload_n 2, 1) := by decide +kernel
theorem dQ_add_18 : decode bQ_add 18 = .ok (.bipush 16, 2) := by decide +kernel
theorem dQ_add_20 : decode bQ_add 20 = .ok (.idiv, 1) := by decide +kernel
theorem dQ_add_21 : decode bQ_add 21 = .ok (.iadd, 1) := by decide +kernel
theorem dQ_add_22 : decode bQ_add 22 = .ok (.iload 4, 2) := by decide +kernel
theorem dQ_add_24 : decode bQ_add 24 = .ok (.bipush 16, 2) := by decide +kernel
theorem dQ_add_26 : decode bQ_add 26 = .ok (.idiv, 1) := by decide +kernel
theorem dQ_add_27 : decode bQ_add 27 = .ok (.iadd, 1) := by decide +kernel
theorem dQ_add_28 : decode bQ_add 28 = .ok (.istore 5, 2) := by decide +kernel
theorem dQ_add_30 : decode bQ_add 30 = .ok (.aload_n 0, 1) := by decide +kernel
theorem dQ_add_31 : decode bQ_add 31 = .ok (.iload 4, 2) := by decide +kernel
theorem dQ_add_33 : decode bQ_add 33 = .ok (.bipush 15, 2) := by decide +kernel
theorem dQ_add_35 : decode bQ_add 35 = .ok (.if_icmp .le 7, 3) := by decide +kernel
theorem dQ_add_38 : decode bQ_add 38 = .ok (.iconst 1, 1) := by decide +kernel
theorem dQ_add_39 : decode bQ_add 39 = .ok (.goto 4, 3) := by decide +kernel
theorem dQ_add_42 : decode bQ_add 42 = .ok (.iconst 0, 1) := by decide +kernel
theorem dQ_add_43 : decode bQ_add 43 = .ok (.putfield 66, 3) := by decide +kernel
theorem dQ_add_46 : decode bQ_add 46 = .ok (.aload_n 0, 1) := by decide +kernel
theorem dQ_add_47 : decode bQ_add 47 = .ok (.iload 5, 2) := by decide +kernel
theorem dQ_add_49 : decode bQ_add 49 = .ok (.bipush 15, 2) := by decide +kernel
theorem dQ_add_51 : decode bQ_add 51 = .ok (.if_icmp .le 7, 3) := by decide +kernel
theorem dQ_add_54 : decode bQ_add 54 = .ok (.iconst 1, 1) := by decide +kernel
theorem dQ_add_55 : decode bQ_add 55 = .ok (.goto 4, 3) := by decide +kernel
theorem dQ_add_58 : decode bQ_add 58 = .ok (.iconst 0, 1) := by decide +kernel
theorem dQ_add_59 : decode bQ_add 59 = .ok (.putfield 69, 3) := by decide +kernel
theorem dQ_add_62 : decode bQ_add 62 = .ok (.aload_n 0, 1) := by decide +kernel
theorem dQ_add_63 : decode bQ_add 63 = .ok (.iconst 0, 1) := by decide +kernel
theorem dQ_add_64 : decode bQ_add 64 = .ok (.putfield 63, 3) := by decide +kernel
theorem dQ_add_67 : decode bQ_add 67 = .ok (.iload 5, 2) := by decide +kernel
theorem dQ_add_69 : decode bQ_add 69 = .ok (.bipush 16, 2) := by decide +kernel
theorem dQ_add_71 : decode bQ_add 71 = .ok (.irem, 1) := by decide +kernel
theorem dQ_add_72 : decode bQ_add 72 = .ok (.bipush 16, 2) := by decide +kernel
theorem dQ_add_74 : decode bQ_add 74 = .ok (.imul, 1) := by decide +kernel
theorem dQ_add_75 : decode bQ_add 75 = .ok (.iload 4, 2) := by decide +kernel
theorem dQ_add_77 : decode bQ_add 77 = .ok (.bipush 16, 2) := by decide +kernel
theorem dQ_add_79 : decode bQ_add 79 = .ok (.irem, 1) := by decide +kernel
theorem dQ_add_80 : decode bQ_add 80 = .ok (.iadd, 1) := by decide +kernel
theorem dQ_add_81 : decode bQ_add 81 = .ok (.istore 6, 2) := by decide +kernel
theorem dQ_add_83 : decode bQ_add 83 = .ok (.aload_n 0, 1) := by decide +kernel
theorem dQ_add_84 : decode bQ_add 84 = .ok (.iload 6, 2) := by decide +kernel
theorem dQ_add_86 : decode bQ_add 86 = .ok (.ifCond .ne 7, 3) := by decide +kernel
theorem dQ_add_89 : decode bQ_add 89 = .ok (.iconst 1, 1) := by decide +kernel
theorem dQ_add_90 : decode bQ_add 90 = .ok (.goto 4, 3) := by decide +kernel
theorem dQ_add_93 : decode bQ_add 93 = .ok (.iconst 0, 1) := by decide +kernel
theorem dQ_add_94 : decode bQ_add 94 = .ok (.putfield 59, 3) := by decide +kernel
theorem dQ_add_97 : decode bQ_add 97 = .ok (.iload 6, 2) := by decide +kernel
theorem dQ_add_99 : decode bQ_add 99 = .ok (.ireturn, 1) := by decide +kernel
theorem dQ_take_0 : decode bQ_take 0 = .ok (.iload_n 1, 1) := by decide +kernel
theorem dQ_take_1 : decode bQ_take 1 = .ok (.bipush 16, 2) := by decide +kernel
theorem dQ_take_3 : decode bQ_take 3 = .ok (.irem, 1) := by decide +kernel
theorem dQ_take_4 : decode bQ_take 4 = .ok (.iload_n 2, 1) := by decide +kernel
theorem dQ_take_5 : decode bQ_take 5 = .ok (.bipush 16, 2) := by decide +kernel
theorem dQ_take_7 : decode bQ_take 7 = .ok (.irem, 1) := by decide +kernel
theorem dQ_take_8 : decode bQ_take 8 = .ok (.isub, 1) := by decide +kernel
theorem dQ_take_9 : decode bQ_take 9 = .ok (.iload_n 3, 1) := by decide +kernel
theorem dQ_take_10 : decode bQ_take 10 = .ok (.isub, 1) := by decide +kernel
theorem dQ_take_11 : decode bQ_take 11 = .ok (.istore 4, 2) := by decide +kernel
theorem dQ_take_13 : decode bQ_take 13 = .ok (.aload_n 0, 1) := by decide +kernel
theorem dQ_take_14 : decode bQ_take 14 = .ok (.iload 4, 2) := by decide +kernel
theorem dQ_take_16 : decode bQ_take 16 = .ok (.ifCond .ge 7, 3) := by decide +kernel
theorem dQ_take_19 : decode bQ_take 19 = .ok (.iconst 1, 1) := by decide +kernel
theorem dQ_take_20 : decode bQ_take 20 = .ok (.goto 4, 3) := by decide +kernel
theorem dQ_take_23 : decode bQ_take 23 = .ok (.iconst 0, 1) := by decide +kernel
theorem dQ_take_24 : decode bQ_take 24 = .ok (.putfield 66, 3) := by decide +kernel
theorem dQ_take_27 : decode bQ_take 27 = .ok (.iload_n 1, 1) := by decide +kernel
theorem dQ_take_28 : decode bQ_take 28 = .ok (.bipush 16, 2) := by decide +kernel
theorem dQ_take_30 : decode bQ_take 30 = .ok (.idiv, 1) := by decide +kernel
theorem dQ_take_31 : decode bQ_take 31 = .ok (.iload_n 2, 1) := by decide +kernel
theorem dQ_take_32 : decode bQ_take 32 = .ok (.bipush 16, 2) := by decide +kernel
theorem dQ_take_34 : decode bQ_take 34 = .ok (.idiv, 1) := by decide +kernel
theorem dQ_take_35 : decode bQ_take 35 = .ok (.isub, 1) := by decide +kernel
theorem dQ_take_36 : decode bQ_take 36 = .ok (.aload_n 0, 1) := by decide +kernel
theorem dQ_take_37 : decode bQ_take 37 = .ok (.getfield 66, 3) := by decide +kernel
theorem dQ_take_40 : decode bQ_take 40 = .ok (.ifCond .eq 7, 3) := by decide +kernel
theorem dQ_take_43 : decode bQ_take 43 = .ok (.iconst 1, 1) := by decide +kernel
theorem dQ_take_44 : decode bQ_take 44 = .ok (.goto 4, 3) := by decide +kernel
theorem dQ_take_47 : decode bQ_take 47 = .ok (.iconst 0, 1) := by decide +kernel
theorem dQ_take_48 : decode bQ_take 48 = .ok (.isub, 1) := by decide +kernel
theorem dQ_take_49 : decode bQ_take 49 = .ok (.istore 5, 2) := by decide +kernel
theorem dQ_take_51 : decode bQ_take 51 = .ok (.aload_n 0, 1) := by decide +kernel
theorem dQ_take_52 : decode bQ_take 52 = .ok (.iload 5, 2) := by decide +kernel
theorem dQ_take_54 : decode bQ_take 54 = .ok (.ifCond .ge 7, 3) := by decide +kernel
theorem dQ_take_57 : decode bQ_take 57 = .ok (.iconst 1, 1) := by decide +kernel
theorem dQ_take_58 : decode bQ_take 58 = .ok (.goto 4, 3) := by decide +kernel
theorem dQ_take_61 : decode bQ_take 61 = .ok (.iconst 0, 1) := by decide +kernel
theorem dQ_take_62 : decode bQ_take 62 = .ok (.putfield 69, 3) := by decide +kernel
theorem dQ_take_65 : decode bQ_take 65 = .ok (.aload_n 0, 1) := by decide +kernel
theorem dQ_take_66 : decode bQ_take 66 = .ok (.iconst 1, 1) := by decide +kernel
theorem dQ_take_67 : decode bQ_take 67 = .ok (.putfield 63, 3) := by decide +kernel
theorem dQ_take_70 : decode bQ_take 70 = .ok (.iload 5, 2) := by decide +kernel
theorem dQ_take_72 : decode bQ_take 72 = .ok (.bipush 16, 2) := by decide +kernel
theorem dQ_take_74 : decode bQ_take 74 = .ok (.iadd, 1) := by decide +kernel
theorem dQ_take_75 : decode bQ_take 75 = .ok (.bipush 16, 2) := by decide +kernel
theorem dQ_take_77 : decode bQ_take 77 = .ok (.irem, 1) := by decide +kernel
theorem dQ_take_78 : decode bQ_take 78 = .ok (.bipush 16, 2) := by decide +kernel
theorem dQ_take_80 : decode bQ_take 80 = .ok (.imul, 1) := by decide +kernel
theorem dQ_take_81 : decode bQ_take 81 = .ok (.iload 4, 2) := by decide +kernel
theorem dQ_take_83 : decode bQ_take 83 = .ok (.bipush 16, 2) := by decide +kernel
theorem dQ_take_85 : decode bQ_take 85 = .ok (.iadd, 1) := by decide +kernel
theorem dQ_take_86 : decode bQ_take 86 = .ok (.bipush 16, 2) := by decide +kernel
theorem dQ_take_88 : decode bQ_take 88 = .ok (.irem, 1) := by decide +kernel
theorem dQ_take_89 : decode bQ_take 89 = .ok (.iadd, 1) := by decide +kernel
theorem dQ_take_90 : decode bQ_take 90 = .ok (.istore 6, 2) := by decide +kernel
theorem dQ_take_92 : decode bQ_take 92 = .ok (.aload_n 0, 1) := by decide +kernel
theorem dQ_take_93 : decode bQ_take 93 = .ok (.iload 6, 2) := by decide +kernel
theorem dQ_take_95 : decode bQ_take 95 = .ok (.ifCond .ne 7, 3) := by decide +kernel
theorem dQ_take_98 : decode bQ_take 98 = .ok (.iconst 1, 1) := by decide +kernel
theorem dQ_take_99 : decode bQ_take 99 = .ok (.goto 4, 3) := by decide +kernel
theorem dQ_take_102 : decode bQ_take 102 = .ok (.iconst 0, 1) := by decide +kernel
theorem dQ_take_103 : decode bQ_take 103 = .ok (.putfield 59, 3) := by decide +kernel
theorem dQ_take_106 : decode bQ_take 106 = .ok (.iload 6, 2) := by decide +kernel
theorem dQ_take_108 : decode bQ_take 108 = .ok (.ireturn, 1) := by decide +kernel
theorem dQ_plain_0 : decode bQ_plain 0 = .ok (.aload_n 0, 1) := by decide +kernel
theorem dQ_plain_1 : decode bQ_plain 1 = .ok (.iload_n 1, 1) := by decide +kernel
theorem dQ_plain_2 : decode bQ_plain 2 = .ok (.ifCond .ne 7, 3) := by decide +kernel
theorem dQ_plain_5 : decode bQ_plain 5 = .ok (.iconst 1, 1) := by decide +kernel
theorem dQ_plain_6 : decode bQ_plain 6 = .ok (.goto 4, 3) := by decide +kernel
theorem dQ_plain_9 : decode bQ_plain 9 = .ok (.iconst 0, 1) := by decide +kernel
theorem dQ_plain_10 : decode bQ_plain 10 = .ok (.putfield 59, 3) := by decide +kernel
theorem dQ_plain_13 : decode bQ_plain 13 = .ok (.aload_n 0, 1) := by decide +kernel
theorem dQ_plain_14 : decode bQ_plain 14 = .ok (.iconst 0, 1) := by decide +kernel
theorem dQ_plain_15 : decode bQ_plain 15 = .ok (.putfield 63, 3) := by decide +kernel
theorem dQ_plain_18 : decode bQ_plain 18 = .ok (.aload_n 0, 1) := by decide +kernel
theorem dQ_plain_19 : decode bQ_plain 19 = .ok (.iload_n 2, 1) := by decide +kernel
theorem dQ_plain_20 : decode bQ_plain 20 = .ok (.putfield 66, 3) := by decide +kernel
theorem dQ_plain_23 : decode bQ_plain 23 = .ok (.aload_n 0, 1) := by decide +kernel
theorem dQ_plain_24 : decode bQ_plain 24 = .ok (.iconst 0, 1) := by decide +kernel
theorem dQ_plain_25 : decode bQ_plain 25 = .ok (.putfield 69, 3) := by decide +kernel
theorem dQ_plain_28 : decode bQ_plain 28 = .ok (.iload_n 1, 1) := by decide +kernel
theorem dQ_plain_29 : decode bQ_plain 29 = .ok (.ireturn, 1) := by decide +kernel
theorem dQ_reckon_0 : decode bQ_reckon 0 = .ok (.aload_n 0, 1) := by decide +kernel
theorem dQ_reckon_1 : decode bQ_reckon 1 = .ok (.getfield 40, 3) := by decide +kernel
theorem dQ_reckon_4 : decode bQ_reckon 4 = .ok (.bipush 7, 2) := by decide +kernel
theorem dQ_reckon_6 : decode bQ_reckon 6 = .ok (.iaload, 1) := by decide +kernel
theorem dQ_reckon_7 : decode bQ_reckon 7 = .ok (.istore_n 3, 1) := by decide +kernel
theorem dQ_reckon_8 : decode bQ_reckon 8 = .ok (.aload_n 0, 1) := by decide +kernel
theorem dQ_reckon_9 : decode bQ_reckon 9 = .ok (.getfield 69, 3) := by decide +kernel
theorem dQ_reckon_12 : decode bQ_reckon 12 = .ok (.ifCond .eq 7, 3) := by decide +kernel
theorem dQ_reckon_15 : decode bQ_reckon 15 = .ok (.iconst 1, 1) := by decide +kernel
theorem dQ_reckon_16 : decode bQ_reckon 16 = .ok (.goto 4, 3) := by decide +kernel
theorem dQ_reckon_19 : decode bQ_reckon 19 = .ok (.iconst 0, 1) := by decide +kernel
theorem dQ_reckon_20 : decode bQ_reckon 20 = .ok (.istore 4, 2) := by decide +kernel
theorem dQ_reckon_22 : decode bQ_reckon 22 = .ok (.iload_n 1, 1) := by decide +kernel
theorem dQ_reckon_23 : decode bQ_reckon 23 = .ok (.iconst 2, 1) := by decide +kernel
theorem dQ_reckon_24 : decode bQ_reckon 24 = .ok (.if_icmp .ge 23, 3) := by decide +kernel
theorem dQ_reckon_27 : decode bQ_reckon 27 = .ok (.aload_n 0, 1) := by decide +kernel
theorem dQ_reckon_28 : decode bQ_reckon 28 = .ok (.getfield 40, 3) := by decide +kernel
theorem dQ_reckon_31 : decode bQ_reckon 31 = .ok (.bipush 7, 2) := by decide +kernel
theorem dQ_reckon_33 : decode bQ_reckon 33 = .ok (.aload_n 0, 1) := by decide +kernel
theorem dQ_reckon_34 : decode bQ_reckon 34 = .ok (.iload_n 3, 1) := by decide +kernel
theorem dQ_reckon_35 : decode bQ_reckon 35 = .ok (.iload_n 2, 1) := by decide +kernel
theorem dQ_reckon_36 : decode bQ_reckon 36 = .ok (.iload_n 1, 1) := by decide +kernel
theorem dQ_reckon_37 : decode bQ_reckon 37 = .ok (.iload 4, 2) := by decide +kernel
theorem dQ_reckon_39 : decode bQ_reckon 39 = .ok (.imul, 1) := by decide +kernel
theorem dQ_reckon_40 : decode bQ_reckon 40 = .ok (.invokevirtual 158, 3) := by decide +kernel
theorem dQ_reckon_43 : decode bQ_reckon 43 = .ok (.iastore, 1) := by decide +kernel
theorem dQ_reckon_44 : decode bQ_reckon 44 = .ok (.goto 108, 3) := by decide +kernel
theorem dQ_reckon_47 : decode bQ_reckon 47 = .ok (.iload_n 1, 1) := by decide +kernel
theorem dQ_reckon_48 : decode bQ_reckon 48 = .ok (.iconst 4, 1) := by decide +kernel
theorem dQ_reckon_49 : decode bQ_reckon 49 = .ok (.if_icmp .ge 25, 3) := by decide +kernel
theorem dQ_reckon_52 : decode bQ_reckon 52 = .ok (.aload_n 0, 1) := by decide +kernel
theorem dQ_reckon_53 : decode bQ_reckon 53 = .ok (.getfield 40, 3) := by decide +kernel
theorem dQ_reckon_56 : decode bQ_reckon 56 = .ok (.bipush 7, 2) := by decide +kernel
theorem dQ_reckon_58 : decode bQ_reckon 58 = .ok (.aload_n 0, 1) := by decide +kernel
theorem dQ_reckon_59 : decode bQ_reckon 59 = .ok (.iload_n 3, 1) := by decide +kernel
theorem dQ_reckon_60 : decode bQ_reckon 60 = .ok (.iload_n 2, 1) := by decide +kernel
theorem dQ_reckon_61 : decode bQ_reckon 61 = .ok (.iload_n 1, 1) := by decide +kernel
theorem dQ_reckon_62 : decode bQ_reckon 62 = .ok (.iconst 2, 1) := by decide +kernel
theorem dQ_reckon_63 : decode bQ_reckon 63 = .ok (.isub, 1) := by decide +kernel
theorem dQ_reckon_64 : decode bQ_reckon 64 = .ok (.iload 4, 2) := by decide +kernel
theorem dQ_reckon_66 : decode bQ_reckon 66 = .ok (.imul, 1) := by decide +kernel
theorem dQ_reckon_67 : decode bQ_reckon 67 = .ok (.invokevirtual 162, 3) := by decide +kernel
theorem dQ_reckon_70 : decode bQ_reckon 70 = .ok (.iastore, 1) := by decide +kernel
theorem dQ_reckon_71 : decode bQ_reckon 71 = .ok (.goto 81, 3) := by decide +kernel
theorem dQ_reckon_74 : decode bQ_reckon 74 = .ok (.iload_n 1, 1) := by decide +kernel
theorem dQ_reckon_75 : decode bQ_reckon 75 = .ok (.iconst 4, 1) := by decide +kernel
theorem dQ_reckon_76 : decode bQ_reckon 76 = .ok (.if_icmp .ne 21, 3) := by decide +kernel
theorem dQ_reckon_79 : decode bQ_reckon 79 = .ok (.aload_n 0, 1) := by decide +kernel
theorem dQ_reckon_80 : decode bQ_reckon 80 = .ok (.getfield 40, 3) := by decide +kernel
theorem dQ_reckon_83 : decode bQ_reckon 83 = .ok (.bipush 7, 2) := by decide +kernel
theorem dQ_reckon_85 : decode bQ_reckon 85 = .ok (.aload_n 0, 1) := by decide +kernel
theorem dQ_reckon_86 : decode bQ_reckon 86 = .ok (.iload_n 3, 1) := by decide +kernel
theorem dQ_reckon_87 : decode bQ_reckon 87 = .ok (.iload_n 2, 1) := by decide +kernel
theorem dQ_reckon_88 : decode bQ_reckon 88 = .ok (.iand, 1) := by decide +kernel
theorem dQ_reckon_89 : decode bQ_reckon 89 = .ok (.iconst 1, 1) := by decide +kernel
theorem dQ_reckon_90 : decode bQ_reckon 90 = .ok (.invokevirtual 165, 3) := by decide +kernel
theorem dQ_reckon_93 : decode bQ_reckon 93 = .ok (.iastore, 1) := by decide +kernel
theorem dQ_reckon_94 : decode bQ_reckon 94 = .ok (.goto 58, 3) := by decide +kernel
theorem dQ_reckon_97 : decode bQ_reckon 97 = .ok (.iload_n 1, 1) := by decide +kernel
theorem dQ_reckon_98 : decode bQ_reckon 98 = .ok (.iconst 5, 1) := by decide +kernel
theorem dQ_reckon_99 : decode bQ_reckon 99 = .ok (.if_icmp .ne 21, 3) := by decide +kernel
theorem dQ_reckon_102 : decode bQ_reckon 102 = .ok (.aload_n 0, 1) := by decide +kernel
theorem dQ_reckon_103 : decode bQ_reckon 103 = .ok (.getfield 40, 3) := by decide +kernel
theorem dQ_reckon_106 : decode bQ_reckon 106 = .ok (.bipush 7, 2) := by decide +kernel
theorem dQ_reckon_108 : decode bQ_reckon 108 = .ok (.aload_n 0, 1) := by decide +kernel
theorem dQ_reckon_109 : decode bQ_reckon 109 = .ok (.iload_n 3, 1) := by decide +kernel
theorem dQ_reckon_110 : decode bQ_reckon 110 = .ok (.iload_n 2, 1) := by decide +kernel
theorem dQ_reckon_111 : decode bQ_reckon 111 = .ok (.ixor, 1) := by decide +kernel
theorem dQ_reckon_112 : decode bQ_reckon 112 = .ok (.iconst 0, 1) := by decide +kernel
theorem dQ_reckon_113 : decode bQ_reckon 113 = .ok (.invokevirtual 165, 3) := by decide +kernel
theorem dQ_reckon_116 : decode bQ_reckon 116 = .ok (.iastore, 1) := by decide +kernel
theorem dQ_reckon_117 : decode bQ_reckon 117 = .ok (.goto 35, 3) := by decide +kernel
theorem dQ_reckon_120 : decode bQ_reckon 120 = .ok (.iload_n 1, 1) := by decide +kernel
theorem dQ_reckon_121 : decode bQ_reckon 121 = .ok (.bipush 6, 2) := by decide +kernel
theorem dQ_reckon_123 : decode bQ_reckon 123 = .ok (.if_icmp .ne 21, 3) := by decide +kernel
theorem dQ_reckon_126 : decode bQ_reckon 126 = .ok (.aload_n 0, 1) := by decide +kernel
theorem dQ_reckon_127 : decode bQ_reckon 127 = .ok (.getfield 40, 3) := by decide +kernel
theorem dQ_reckon_130 : decode bQ_reckon 130 = .ok (.bipush 7, 2) := by decide +kernel
theorem dQ_reckon_132 : decode bQ_reckon 132 = .ok (.aload_n 0, 1) := by decide +kernel
theorem dQ_reckon_133 : decode bQ_reckon 133 = .ok (.iload_n 3, 1) := by decide +kernel
theorem dQ_reckon_134 : decode bQ_reckon 134 = .ok (.iload_n 2, 1) := by decide +kernel
theorem dQ_reckon_135 : decode bQ_reckon 135 = .ok (.ior, 1) := by decide +kernel
theorem dQ_reckon_136 : decode bQ_reckon 136 = .ok (.iconst 0, 1) := by decide +kernel
theorem dQ_reckon_137 : decode bQ_reckon 137 = .ok (.invokevirtual 165, 3) := by decide +kernel
theorem dQ_reckon_140 : decode bQ_reckon 140 = .ok (.iastore, 1) := by decide +kernel
theorem dQ_reckon_141 : decode bQ_reckon 141 = .ok (.goto 11, 3) := by decide +kernel
theorem dQ_reckon_144 : decode bQ_reckon 144 = .ok (.aload_n 0, 1) := by decide +kernel
theorem dQ_reckon_145 : decode bQ_reckon 145 = .ok (.iload_n 3, 1) := by decide +kernel
theorem dQ_reckon_146 : decode bQ_reckon 146 = .ok (.iload_n 2, 1) := by decide +kernel
theorem dQ_reckon_147 : decode bQ_reckon 147 = .ok (.iconst 0, 1) := by decide +kernel
theorem dQ_reckon_148 : decode bQ_reckon 148 = .ok (.invokevirtual 162, 3) := by decide +kernel
theorem dQ_reckon_151 : decode bQ_reckon 151 = .ok (.pop, 1) := by decide +kernel
theorem dQ_reckon_152 : decode bQ_reckon 152 = .ok (.return_, 1) := by decide +kernel
theorem dQ_count_0 : decode bQ_count 0 = .ok (.aload_n 0, 1) := by decide +kernel
theorem dQ_count_1 : decode bQ_count 1 = .ok (.getfield 69, 3) := by decide +kernel
theorem dQ_count_4 : decode bQ_count 4 = .ok (.istore_n 3, 1) := by decide +kernel
theorem dQ_count_5 : decode bQ_count 5 = .ok (.iload_n 2, 1) := by decide +kernel
theorem dQ_count_6 : decode bQ_count 6 = .ok (.ifCond .eq 13, 3) := by decide +kernel
theorem dQ_count_9 : decode bQ_count 9 = .ok (.aload_n 0, 1) := by decide +kernel
theorem dQ_count_10 : decode bQ_count 10 = .ok (.iload_n 1, 1) := by decide +kernel
theorem dQ_count_11 : decode bQ_count 11 = .ok (.iconst 1, 1) := by decide +kernel
theorem dQ_count_12 : decode bQ_count 12 = .ok (.iconst 0, 1) := by decide +kernel
theorem dQ_count_13 : decode bQ_count 13 = .ok (.invokevirtual 158, 3) := by decide +kernel
theorem dQ_count_16 : decode bQ_count 16 = .ok (.goto 10, 3) := by decide +kernel
theorem dQ_count_19 : decode bQ_count 19 = .ok (.aload_n 0, 1) := by decide +kernel
theorem dQ_count_20 : decode bQ_count 20 = .ok (.iload_n 1, 1) := by decide +kernel
theorem dQ_count_21 : decode bQ_count 21 = .ok (.iconst 1, 1) := by decide +kernel
theorem dQ_count_22 : decode bQ_count 22 = .ok (.iconst 0, 1) := by decide +kernel
theorem dQ_count_23 : decode bQ_count 23 = .ok (.invokevirtual 162, 3) := by decide +kernel
theorem dQ_count_26 : decode bQ_count 26 = .ok (.istore 4, 2) := by decide +kernel
theorem dQ_count_28 : decode bQ_count 28 = .ok (.aload_n 0, 1) := by decide +kernel
theorem dQ_count_29 : decode bQ_count 29 = .ok (.iload_n 3, 1) := by decide +kernel
theorem dQ_count_30 : decode bQ_count 30 = .ok (.putfield 69, 3) := by decide +kernel
theorem dQ_count_33 : decode bQ_count 33 = .ok (.iload 4, 2) := by decide +kernel
theorem dQ_count_35 : decode bQ_count 35 = .ok (.ireturn, 1) := by decide +kernel
theorem dQ_adjust_0 : decode bQ_adjust 0 = .ok (.aload_n 0, 1) := by decide +kernel
theorem dQ_adjust_1 : decode bQ_adjust 1 = .ok (.getfield 40, 3) := by decide +kernel
theorem dQ_adjust_4 : decode bQ_adjust 4 = .ok (.bipush 7, 2) := by decide +kernel
theorem dQ_adjust_6 : decode bQ_adjust 6 = .ok (.iaload, 1) := by decide +kernel
theorem dQ_adjust_7 : decode bQ_adjust 7 = .ok (.istore_n 1, 1) := by decide +kernel
theorem dQ_adjust_8 : decode bQ_adjust 8 = .ok (.aload_n 0, 1) := by decide +kernel
theorem dQ_adjust_9 : decode bQ_adjust 9 = .ok (.getfield 66, 3) := by decide +kernel
theorem dQ_adjust_12 : decode bQ_adjust 12 = .ok (.ifCond .ne 19, 3) := by decide +kernel
theorem dQ_adjust_15 : decode bQ_adjust 15 = .ok (.aload_n 0, 1) := by decide +kernel
theorem dQ_adjust_16 : decode bQ_adjust 16 = .ok (.getfield 63, 3) := by decide +kernel
theorem dQ_adjust_19 : decode bQ_adjust 19 = .ok (.ifCond .ne 17, 3) := by decide +kernel
theorem dQ_adjust_22 : decode bQ_adjust 22 = .ok (.iload_n 1, 1) := by decide +kernel
theorem dQ_adjust_23 : decode bQ_adjust 23 = .ok (.bipush 16, 2) := by decide +kernel
theorem dQ_adjust_25 : decode bQ_adjust 25 = .ok (.irem, 1) := by decide +kernel
theorem dQ_adjust_26 : decode bQ_adjust 26 = .ok (.bipush 9, 2) := by decide +kernel
theorem dQ_adjust_28 : decode bQ_adjust 28 = .ok (.if_icmp .le 8, 3) := by decide +kernel
theorem dQ_adjust_31 : decode bQ_adjust 31 = .ok (.bipush 6, 2) := by decide +kernel
theorem dQ_adjust_33 : decode bQ_adjust 33 = .ok (.goto 4, 3) := by decide +kernel
theorem dQ_adjust_36 : decode bQ_adjust 36 = .ok (.iconst 0, 1) := by decide +kernel
theorem dQ_adjust_37 : decode bQ_adjust 37 = .ok (.istore_n 2, 1) := by decide +kernel
theorem dQ_adjust_38 : decode bQ_adjust 38 = .ok (.aload_n 0, 1) := by decide +kernel
theorem dQ_adjust_39 : decode bQ_adjust 39 = .ok (.getfield 69, 3) := by decide +kernel
theorem dQ_adjust_42 : decode bQ_adjust 42 = .ok (.ifCond .ne 17, 3) := by decide +kernel
theorem dQ_adjust_45 : decode bQ_adjust 45 = .ok (.aload_n 0, 1) := by decide +kernel
theorem dQ_adjust_46 : decode bQ_adjust 46 = .ok (.getfield 63, 3) := by decide +kernel
theorem dQ_adjust_49 : decode bQ_adjust 49 = .ok (.ifCond .ne 14, 3) := by decide +kernel
theorem dQ_adjust_52 : decode bQ_adjust 52 = .ok (.iload_n 1, 1) := by decide +kernel
theorem dQ_adjust_53 : decode bQ_adjust 53 = .ok (.sipush 153, 3) := by decide +kernel
theorem dQ_adjust_56 : decode bQ_adjust 56 = .ok (.if_icmp .le 7, 3) := by decide +kernel
theorem dQ_adjust_59 : decode bQ_adjust 59 = .ok (.iconst 1, 1) := by decide +kernel
theorem dQ_adjust_60 : decode bQ_adjust 60 = .ok (.goto 4, 3) := by decide +kernel
theorem dQ_adjust_63 : decode bQ_adjust 63 = .ok (.iconst 0, 1) := by decide +kernel
theorem dQ_adjust_64 : decode bQ_adjust 64 = .ok (.istore_n 3, 1) := by decide +kernel
theorem dQ_adjust_65 : decode bQ_adjust 65 = .ok (.iload_n 3, 1) := by decide +kernel
theorem dQ_adjust_66 : decode bQ_adjust 66 = .ok (.ifCond .eq 10, 3) := by decide +kernel
theorem dQ_adjust_69 : decode bQ_adjust 69 = .ok (.iload_n 2, 1) := by decide +kernel
theorem dQ_adjust_70 : decode bQ_adjust 70 = .ok (.bipush 96, 2) := by decide +kernel
theorem dQ_adjust_72 : decode bQ_adjust 72 = .ok (.iadd, 1) := by decide +kernel
theorem dQ_adjust_73 : decode bQ_adjust 73 = .ok (.goto 4, 3) := by decide +kernel
theorem dQ_adjust_76 : decode bQ_adjust 76 = .ok (.iload_n 2, 1) := by decide +kernel
theorem dQ_adjust_77 : decode bQ_adjust 77 = .ok (.istore_n 2, 1) := by decide +kernel
theorem dQ_adjust_78 : decode bQ_adjust 78 = .ok (.aload_n 0, 1) := by decide +kernel
theorem dQ_adjust_79 : decode bQ_adjust 79 = .ok (.getfield 40, 3) := by decide +kernel
theorem dQ_adjust_82 : decode bQ_adjust 82 = .ok (.bipush 7, 2) := by decide +kernel
theorem dQ_adjust_84 : decode bQ_adjust 84 = .ok (.aload_n 0, 1) := by decide +kernel
theorem dQ_adjust_85 : decode bQ_adjust 85 = .ok (.getfield 63, 3) := by decide +kernel
theorem dQ_adjust_88 : decode bQ_adjust 88 = .ok (.ifCond .eq 9, 3) := by decide +kernel
theorem dQ_adjust_91 : decode bQ_adjust 91 = .ok (.iload_n 1, 1) := by decide +kernel
theorem dQ_adjust_92 : decode bQ_adjust 92 = .ok (.iload_n 2, 1) := by decide +kernel
theorem dQ_adjust_93 : decode bQ_adjust 93 = .ok (.isub, 1) := by decide +kernel
theorem dQ_adjust_94 : decode bQ_adjust 94 = .ok (.goto 6, 3) := by decide +kernel
theorem dQ_adjust_97 : decode bQ_adjust 97 = .ok (.iload_n 1, 1) := by decide +kernel
theorem dQ_adjust_98 : decode bQ_adjust 98 = .ok (.iload_n 2, 1) := by decide +kernel
theorem dQ_adjust_99 : decode bQ_adjust 99 = .ok (.iadd, 1) := by decide +kernel
theorem dQ_adjust_100 : decode bQ_adjust 100 = .ok (.sipush 255, 3) := by decide +kernel
theorem dQ_adjust_103 : decode bQ_adjust 103 = .ok (.iand, 1) := by decide +kernel
theorem dQ_adjust_104 : decode bQ_adjust 104 = .ok (.iastore, 1) := by decide +kernel
theorem dQ_adjust_105 : decode bQ_adjust 105 = .ok (.aload_n 0, 1) := by decide +kernel
theorem dQ_adjust_106 : decode bQ_adjust 106 = .ok (.aload_n 0, 1) := by decide +kernel
theorem dQ_adjust_107 : decode bQ_adjust 107 = .ok (.getfield 40, 3) := by decide +kernel
theorem dQ_adjust_110 : decode bQ_adjust 110 = .ok (.bipush 7, 2) := by decide +kernel
theorem dQ_adjust_112 : decode bQ_adjust 112 = .ok (.iaload, 1) := by decide +kernel
theorem dQ_adjust_113 : decode bQ_adjust 113 = .ok (.ifCond .ne 7, 3) := by decide +kernel
theorem dQ_adjust_116 : decode bQ_adjust 116 = .ok (.iconst 1, 1) := by decide +kernel
theorem dQ_adjust_117 : decode bQ_adjust 117 = .ok (.goto 4, 3) := by decide +kernel
theorem dQ_adjust_120 : decode bQ_adjust 120 = .ok (.iconst 0, 1) := by decide +kernel
theorem dQ_adjust_121 : decode bQ_adjust 121 = .ok (.putfield 59, 3) := by decide +kernel
theorem dQ_adjust_124 : decode bQ_adjust 124 = .ok (.aload_n 0, 1) := by decide +kernel
theorem dQ_adjust_125 : decode bQ_adjust 125 = .ok (.iconst 0, 1) := by decide +kernel
theorem dQ_adjust_126 : decode bQ_adjust 126 = .ok (.putfield 66, 3) := by decide +kernel
theorem dQ_adjust_129 : decode bQ_adjust 129 = .ok (.aload_n 0, 1) := by decide +kernel
theorem dQ_adjust_130 : decode bQ_adjust 130 = .ok (.iload_n 3, 1) := by decide +kernel
theorem dQ_adjust_131 : decode bQ_adjust 131 = .ok (.putfield 69, 3) := by decide +kernel
theorem dQ_adjust_134 : decode bQ_adjust 134 = .ok (.return_, 1) := by decide +kernel
theorem dQ_turned_0 : decode bQ_turned 0 = .ok (.iload_n 1, 1) := by decide +kernel
theorem dQ_turned_1 : decode bQ_turned 1 = .ok (.iconst 2, 1) := by decide +kernel
theorem dQ_turned_2 : decode bQ_turned 2 = .ok (.irem, 1) := by decide +kernel
theorem dQ_turned_3 : decode bQ_turned 3 = .ok (.ifCond .ne 13, 3) := by decide +kernel
theorem dQ_turned_6 : decode bQ_turned 6 = .ok (.iload_n 1, 1) := by decide +kernel
theorem dQ_turned_7 : decode bQ_turned 7 = .ok (.bipush 6, 2) := by decide +kernel
theorem dQ_turned_9 : decode bQ_turned 9 = .ok (.if_icmp .ge 7, 3) := by decide +kernel
theorem dQ_turned_12 : decode bQ_turned 12 = .ok (.iconst 1, 1) := by decide +kernel
theorem dQ_turned_13 : decode bQ_turned 13 = .ok (.goto 4, 3) := by decide +kernel
theorem dQ_turned_16 : decode bQ_turned 16 = .ok (.iconst 0, 1) := by decide +kernel
theorem dQ_turned_17 : decode bQ_turned 17 = .ok (.istore_n 3, 1) := by decide +kernel
theorem dQ_turned_18 : decode bQ_turned 18 = .ok (.iload_n 3, 1) := by decide +kernel
theorem dQ_turned_19 : decode bQ_turned 19 = .ok (.ifCond .eq 11, 3) := by decide +kernel
theorem dQ_turned_22 : decode bQ_turned 22 = .ok (.iload_n 2, 1) := by decide +kernel
theorem dQ_turned_23 : decode bQ_turned 23 = .ok (.sipush 128, 3) := by decide +kernel
theorem dQ_turned_26 : decode bQ_turned 26 = .ok (.idiv, 1) := by decide +kernel
theorem dQ_turned_27 : decode bQ_turned 27 = .ok (.goto 6, 3) := by decide +kernel
theorem dQ_turned_30 : decode bQ_turned 30 = .ok (.iload_n 2, 1) := by decide +kernel
theorem dQ_turned_31 : decode bQ_turned 31 = .ok (.iconst 2, 1) := by decide +kernel
theorem dQ_turned_32 : decode bQ_turned 32 = .ok (.irem, 1) := by decide +kernel
theorem dQ_turned_33 : decode bQ_turned 33 = .ok (.istore 4, 2) := by decide +kernel
theorem dQ_turned_35 : decode bQ_turned 35 = .ok (.iload_n 1, 1) := by decide +kernel
theorem dQ_turned_36 : decode bQ_turned 36 = .ok (.iconst 2, 1) := by decide +kernel
theorem dQ_turned_37 : decode bQ_turned 37 = .ok (.if_icmp .ge 8, 3) := by decide +kernel
theorem dQ_turned_40 : decode bQ_turned 40 = .ok (.iload 4, 2) := by decide +kernel
theorem dQ_turned_42 : decode bQ_turned 42 = .ok (.goto 37, 3) := by decide +kernel
theorem dQ_turned_45 : decode bQ_turned 45 = .ok (.iload_n 1, 1) := by decide +kernel
theorem dQ_turned_46 : decode bQ_turned 46 = .ok (.iconst 4, 1) := by decide +kernel
theorem dQ_turned_47 : decode bQ_turned 47 = .ok (.if_icmp .ge 18, 3) := by decide +kernel
theorem dQ_turned_50 : decode bQ_turned 50 = .ok (.aload_n 0, 1) := by decide +kernel
theorem dQ_turned_51 : decode bQ_turned 51 = .ok (.getfield 69, 3) := by decide +kernel
theorem dQ_turned_54 : decode bQ_turned 54 = .ok (.ifCond .eq 7, 3) := by decide +kernel
theorem dQ_turned_57 : decode bQ_turned 57 = .ok (.iconst 1, 1) := by decide +kernel
theorem dQ_turned_58 : decode bQ_turned 58 = .ok (.goto 21, 3) := by decide +kernel
theorem dQ_turned_61 : decode bQ_turned 61 = .ok (.iconst 0, 1) := by decide +kernel
theorem dQ_turned_62 : decode bQ_turned 62 = .ok (.goto 17, 3) := by decide +kernel
theorem dQ_turned_65 : decode bQ_turned 65 = .ok (.iload_n 1, 1) := by decide +kernel
theorem dQ_turned_66 : decode bQ_turned 66 = .ok (.iconst 5, 1) := by decide +kernel
theorem dQ_turned_67 : decode bQ_turned 67 = .ok (.if_icmp .ne 11, 3) := by decide +kernel
theorem dQ_turned_70 : decode bQ_turned 70 = .ok (.iload_n 2, 1) := by decide +kernel
theorem dQ_turned_71 : decode bQ_turned 71 = .ok (.sipush 128, 3) := by decide +kernel
theorem dQ_turned_74 : decode bQ_turned 74 = .ok (.idiv, 1) := by decide +kernel
theorem dQ_turned_75 : decode bQ_turned 75 = .ok (.goto 4, 3) := by decide +kernel
theorem dQ_turned_78 : decode bQ_turned 78 = .ok (.iconst 0, 1) := by decide +kernel
theorem dQ_turned_79 : decode bQ_turned 79 = .ok (.istore 5, 2) := by decide +kernel
theorem dQ_turned_81 : decode bQ_turned 81 = .ok (.aload_n 0, 1) := by decide +kernel
theorem dQ_turned_82 : decode bQ_turned 82 = .ok (.iload_n 3, 1) := by decide +kernel
theorem dQ_turned_83 : decode bQ_turned 83 = .ok (.ifCond .eq 16, 3) := by decide +kernel
theorem dQ_turned_86 : decode bQ_turned 86 = .ok (.iload_n 2, 1) := by decide +kernel
theorem dQ_turned_87 : decode bQ_turned 87 = .ok (.iconst 2, 1) := by decide +kernel
theorem dQ_turned_88 : decode bQ_turned 88 = .ok (.imul, 1) := by decide +kernel
theorem dQ_turned_89 : decode bQ_turned 89 = .ok (.sipush 256, 3) := by decide +kernel
theorem dQ_turned_92 : decode bQ_turned 92 = .ok (.irem, 1) := by decide +kernel
theorem dQ_turned_93 : decode bQ_turned 93 = .ok (.iload 5, 2) := by decide +kernel
theorem dQ_turned_95 : decode bQ_turned 95 = .ok (.iadd, 1) := by decide +kernel
theorem dQ_turned_96 : decode bQ_turned 96 = .ok (.goto 13, 3) := by decide +kernel
theorem dQ_turned_99 : decode bQ_turned 99 = .ok (.iload_n 2, 1) := by decide +kernel
theorem dQ_turned_100 : decode bQ_turned 100 = .ok (.iconst 2, 1) := by decide +kernel
theorem dQ_turned_101 : decode bQ_turned 101 = .ok (.idiv, 1) := by decide +kernel
theorem dQ_turned_102 : decode bQ_turned 102 = .ok (.sipush 128, 3) := by decide +kernel
theorem dQ_turned_105 : decode bQ_turned 105 = .ok (.iload 5, 2) := by decide +kernel
theorem dQ_turned_107 : decode bQ_turned 107 = .ok (.imul, 1) := by decide +kernel
theorem dQ_turned_108 : decode bQ_turned 108 = .ok (.iadd, 1) := by decide +kernel
theorem dQ_turned_109 : decode bQ_turned 109 = .ok (.iconst 0, 1) := by decide +kernel
theorem dQ_turned_110 : decode bQ_turned 110 = .ok (.invokevirtual 165, 3) := by decide +kernel
theorem dQ_turned_113 : decode bQ_turned 113 = .ok (.istore 6, 2) := by decide +kernel
theorem dQ_turned_115 : decode bQ_turned 115 = .ok (.aload_n 0, 1) := by decide +kernel
theorem dQ_turned_116 : decode bQ_turned 116 = .ok (.iload 4, 2) := by decide +kernel
theorem dQ_turned_118 : decode bQ_turned 118 = .ok (.iconst 1, 1) := by decide +kernel
theorem dQ_turned_119 : decode bQ_turned 119 = .ok (.if_icmp .ne 7, 3) := by decide +kernel
theorem dQ_turned_122 : decode bQ_turned 122 = .ok (.iconst 1, 1) := by decide +kernel
theorem dQ_turned_123 : decode bQ_turned 123 = .ok (.goto 4, 3) := by decide +kernel
theorem dQ_turned_126 : decode bQ_turned 126 = .ok (.iconst 0, 1) := by decide +kernel
theorem dQ_turned_127 : decode bQ_turned 127 = .ok (.putfield 69, 3) := by decide +kernel
theorem dQ_turned_130 : decode bQ_turned 130 = .ok (.iload 6, 2) := by decide +kernel
theorem dQ_turned_132 : decode bQ_turned 132 = .ok (.ireturn, 1) := by decide +kernel
theorem dQ_bits_0 : decode bQ_bits 0 = .ok (.iload_n 1, 1) := by decide +kernel
theorem dQ_bits_1 : decode bQ_bits 1 = .ok (.bipush 8, 2) := by decide +kernel
theorem dQ_bits_3 : decode bQ_bits 3 = .ok (.irem, 1) := by decide +kernel
theorem dQ_bits_4 : decode bQ_bits 4 = .ok (.istore_n 2, 1) := by decide +kernel
theorem dQ_bits_5 : decode bQ_bits 5 = .ok (.iload_n 1, 1) := by decide +kernel
theorem dQ_bits_6 : decode bQ_bits 6 = .ok (.bipush 8, 2) := by decide +kernel
theorem dQ_bits_8 : decode bQ_bits 8 = .ok (.idiv, 1) := by decide +kernel
theorem dQ_bits_9 : decode bQ_bits 9 = .ok (.istore_n 3, 1) := by decide +kernel
theorem dQ_bits_10 : decode bQ_bits 10 = .ok (.iconst 1, 1) := by decide +kernel
theorem dQ_bits_11 : decode bQ_bits 11 = .ok (.iload_n 3, 1) := by decide +kernel
theorem dQ_bits_12 : decode bQ_bits 12 = .ok (.bipush 8, 2) := by decide +kernel
theorem dQ_bits_14 : decode bQ_bits 14 = .ok (.irem, 1) := by decide +kernel
theorem dQ_bits_15 : decode bQ_bits 15 = .ok (.ishl, 1) := by decide +kernel
theorem dQ_bits_16 : decode bQ_bits 16 = .ok (.istore 4, 2) := by decide +kernel
theorem dQ_bits_18 : decode bQ_bits 18 = .ok (.iload_n 3, 1) := by decide +kernel
theorem dQ_bits_19 : decode bQ_bits 19 = .ok (.bipush 7, 2) := by decide +kernel
theorem dQ_bits_21 : decode bQ_bits 21 = .ok (.if_icmp .ne 4, 3) := by decide +kernel
theorem dQ_bits_24 : decode bQ_bits 24 = .ok (.return_, 1) := by decide +kernel
theorem dQ_bits_25 : decode bQ_bits 25 = .ok (.aload_n 0, 1) := by decide +kernel
theorem dQ_bits_26 : decode bQ_bits 26 = .ok (.iload_n 2, 1) := by decide +kernel
theorem dQ_bits_27 : decode bQ_bits 27 = .ok (.invokevirtual 169, 3) := by decide +kernel
theorem dQ_bits_30 : decode bQ_bits 30 = .ok (.istore 5, 2) := by decide +kernel
theorem dQ_bits_32 : decode bQ_bits 32 = .ok (.iload_n 3, 1) := by decide +kernel
theorem dQ_bits_33 : decode bQ_bits 33 = .ok (.bipush 7, 2) := by decide +kernel
theorem dQ_bits_35 : decode bQ_bits 35 = .ok (.if_icmp .ge 18, 3) := by decide +kernel
theorem dQ_bits_38 : decode bQ_bits 38 = .ok (.aload_n 0, 1) := by decide +kernel
theorem dQ_bits_39 : decode bQ_bits 39 = .ok (.iload_n 2, 1) := by decide +kernel
theorem dQ_bits_40 : decode bQ_bits 40 = .ok (.aload_n 0, 1) := by decide +kernel
theorem dQ_bits_41 : decode bQ_bits 41 = .ok (.iload_n 3, 1) := by decide +kernel
theorem dQ_bits_42 : decode bQ_bits 42 = .ok (.iload 5, 2) := by decide +kernel
theorem dQ_bits_44 : decode bQ_bits 44 = .ok (.invokevirtual 172, 3) := by decide +kernel
theorem dQ_bits_47 : decode bQ_bits 47 = .ok (.invokevirtual 176, 3) := by decide +kernel
theorem dQ_bits_50 : decode bQ_bits 50 = .ok (.goto 67, 3) := by decide +kernel
theorem dQ_bits_53 : decode bQ_bits 53 = .ok (.iload_n 3, 1) := by decide +kernel
theorem dQ_bits_54 : decode bQ_bits 54 = .ok (.bipush 16, 2) := by decide +kernel
theorem dQ_bits_56 : decode bQ_bits 56 = .ok (.if_icmp .ge 33, 3) := by decide +kernel
theorem dQ_bits_59 : decode bQ_bits 59 = .ok (.aload_n 0, 1) := by decide +kernel
theorem dQ_bits_60 : decode bQ_bits 60 = .ok (.iload 5, 2) := by decide +kernel
theorem dQ_bits_62 : decode bQ_bits 62 = .ok (.iload 4, 2) := by decide +kernel
theorem dQ_bits_64 : decode bQ_bits 64 = .ok (.iand, 1) := by decide +kernel
theorem dQ_bits_65 : decode bQ_bits 65 = .ok (.ifCond .ne 7, 3) := by decide +kernel
theorem dQ_bits_68 : decode bQ_bits 68 = .ok (.iconst 1, 1) := by decide +kernel
theorem dQ_bits_69 : decode bQ_bits 69 = .ok (.goto 4, 3) := by decide +kernel
theorem dQ_bits_72 : decode bQ_bits 72 = .ok (.iconst 0, 1) := by decide +kernel
theorem dQ_bits_73 : decode bQ_bits 73 = .ok (.putfield 59, 3) := by decide +kernel
theorem dQ_bits_76 : decode bQ_bits 76 = .ok (.aload_n 0, 1) := by decide +kernel
theorem dQ_bits_77 : decode bQ_bits 77 = .ok (.iconst 0, 1) := by decide +kernel
theorem dQ_bits_78 : decode bQ_bits 78 = .ok (.putfield 63, 3) := by decide +kernel
theorem dQ_bits_81 : decode bQ_bits 81 = .ok (.aload_n 0, 1) := by decide +kernel
theorem dQ_bits_82 : decode bQ_bits 82 = .ok (.iconst 1, 1) := by decide +kernel
theorem dQ_bits_83 : decode bQ_bits 83 = .ok (.putfield 66, 3) := by decide +kernel
theorem dQ_bits_86 : decode bQ_bits 86 = .ok (.goto 31, 3) := by decide +kernel
theorem dQ_bits_89 : decode bQ_bits 89 = .ok (.aload_n 0, 1) := by decide +kernel
theorem dQ_bits_90 : decode bQ_bits 90 = .ok (.iload_n 2, 1) := by decide +kernel
theorem dQ_bits_91 : decode bQ_bits 91 = .ok (.iload_n 3, 1) := by decide +kernel
theorem dQ_bits_92 : decode bQ_bits 92 = .ok (.bipush 24, 2) := by decide +kernel
theorem dQ_bits_94 : decode bQ_bits 94 = .ok (.if_icmp .ge 15, 3) := by decide +kernel
theorem dQ_bits_97 : decode bQ_bits 97 = .ok (.iload 5, 2) := by decide +kernel
theorem dQ_bits_99 : decode bQ_bits 99 = .ok (.sipush 255, 3) := by decide +kernel
theorem dQ_bits_102 : decode bQ_bits 102 = .ok (.iload 4, 2) := by decide +kernel
theorem dQ_bits_104 : decode bQ_bits 104 = .ok (.isub, 1) := by decide +kernel
theorem dQ_bits_105 : decode bQ_bits 105 = .ok (.iand, 1) := by decide +kernel
theorem dQ_bits_106 : decode bQ_bits 106 = .ok (.goto 8, 3) := by decide +kernel
theorem dQ_bits_109 : decode bQ_bits 109 = .ok (.iload 5, 2) := by decide +kernel
theorem dQ_bits_111 : decode bQ_bits 111 = .ok (.iload 4, 2) := by decide +kernel
theorem dQ_bits_113 : decode bQ_bits 113 = .ok (.ior, 1) := by decide +kernel
theorem dQ_bits_114 : decode bQ_bits 114 = .ok (.invokevirtual 176, 3) := by decide +kernel
theorem dQ_bits_117 : decode bQ_bits 117 = .ok (.return_, 1) := by decide +kernel
theorem dQ_stand_0 : decode bQ_stand 0 = .ok (.aload_n 0, 1) := by decide +kernel
theorem dQ_stand_1 : decode bQ_stand 1 = .ok (.iload_n 1, 1) := by decide +kernel
theorem dQ_stand_2 : decode bQ_stand 2 = .ok (.putfield 90, 3) := by decide +kernel
theorem dQ_stand_5 : decode bQ_stand 5 = .ok (.aload_n 0, 1) := by decide +kernel
theorem dQ_stand_6 : decode bQ_stand 6 = .ok (.aload_n 0, 1) := by decide +kernel
theorem dQ_stand_7 : decode bQ_stand 7 = .ok (.getfield 56, 3) := by decide +kernel
theorem dQ_stand_10 : decode bQ_stand 10 = .ok (.sipush 255, 3) := by decide +kernel
theorem dQ_stand_13 : decode bQ_stand 13 = .ok (.iadd, 1) := by decide +kernel
theorem dQ_stand_14 : decode bQ_stand 14 = .ok (.sipush 256, 3) := by decide +kernel
theorem dQ_stand_17 : decode bQ_stand 17 = .ok (.irem, 1) := by decide +kernel
theorem dQ_stand_18 : decode bQ_stand 18 = .ok (.putfield 56, 3) := by decide +kernel
theorem dQ_stand_21 : decode bQ_stand 21 = .ok (.return_, 1) := by decide +kernel
theorem dQ_few_0 : decode bQ_few 0 = .ok (.iload_n 1, 1) := by decide +kernel
theorem dQ_few_1 : decode bQ_few 1 = .ok (.tableswitch 241 0 11 #[63, 66, 74, 82, 90, 171, 98, 105, 136, 136, 171, 203], 63) := by decide +kernel
theorem dQ_few_64 : decode bQ_few 64 = .ok (.goto 183, 3) := by decide +kernel
theorem dQ_few_67 : decode bQ_few 67 = .ok (.aload_n 0, 1) := by decide +kernel
theorem dQ_few_68 : decode bQ_few 68 = .ok (.iconst 1, 1) := by decide +kernel
theorem dQ_few_69 : decode bQ_few 69 = .ok (.invokevirtual 179, 3) := by decide +kernel
theorem dQ_few_72 : decode bQ_few 72 = .ok (.goto 175, 3) := by decide +kernel
theorem dQ_few_75 : decode bQ_few 75 = .ok (.aload_n 0, 1) := by decide +kernel
theorem dQ_few_76 : decode bQ_few 76 = .ok (.iconst 2, 1) := by decide +kernel
theorem dQ_few_77 : decode bQ_few 77 = .ok (.invokevirtual 179, 3) := by decide +kernel
theorem dQ_few_80 : decode bQ_few 80 = .ok (.goto 167, 3) := by decide +kernel
theorem dQ_few_83 : decode bQ_few 83 = .ok (.aload_n 0, 1) := by decide +kernel
theorem dQ_few_84 : decode bQ_few 84 = .ok (.iconst 0, 1) := by decide +kernel
theorem dQ_few_85 : decode bQ_few 85 = .ok (.putfield 72, 3) := by decide +kernel
theorem dQ_few_88 : decode bQ_few 88 = .ok (.goto 159, 3) := by decide +kernel
theorem dQ_few_91 : decode bQ_few 91 = .ok (.aload_n 0, 1) := by decide +kernel
theorem dQ_few_92 : decode bQ_few 92 = .ok (.iconst 1, 1) := by decide +kernel
theorem dQ_few_93 : decode bQ_few 93 = .ok (.putfield 75, 3) := by decide +kernel
theorem dQ_few_96 : decode bQ_few 96 = .ok (.goto 151, 3) := by decide +kernel
theorem dQ_few_99 : decode bQ_few 99 = .ok (.aload_n 0, 1) := by decide +kernel
theorem dQ_few_100 : decode bQ_few 100 = .ok (.invokevirtual 182, 3) := by decide +kernel
theorem dQ_few_103 : decode bQ_few 103 = .ok (.goto 144, 3) := by decide +kernel
theorem dQ_few_106 : decode bQ_few 106 = .ok (.aload_n 0, 1) := by decide +kernel
theorem dQ_few_107 : decode bQ_few 107 = .ok (.getfield 40, 3) := by decide +kernel
theorem dQ_few_110 : decode bQ_few 110 = .ok (.bipush 7, 2) := by decide +kernel
theorem dQ_few_112 : decode bQ_few 112 = .ok (.sipush 255, 3) := by decide +kernel
theorem dQ_few_115 : decode bQ_few 115 = .ok (.aload_n 0, 1) := by decide +kernel
theorem dQ_few_116 : decode bQ_few 116 = .ok (.getfield 40, 3) := by decide +kernel
theorem dQ_few_119 : decode bQ_few 119 = .ok (.bipush 7, 2) := by decide +kernel
theorem dQ_few_121 : decode bQ_few 121 = .ok (.iaload, 1) := by decide +kernel
theorem dQ_few_122 : decode bQ_few 122 = .ok (.isub, 1) := by decide +kernel
theorem dQ_few_123 : decode bQ_few 123 = .ok (.iastore, 1) := by decide +kernel
theorem dQ_few_124 : decode bQ_few 124 = .ok (.aload_n 0, 1) := by decide +kernel
theorem dQ_few_125 : decode bQ_few 125 = .ok (.iconst 1, 1) := by decide +kernel
theorem dQ_few_126 : decode bQ_few 126 = .ok (.putfield 63, 3) := by decide +kernel
theorem dQ_few_129 : decode bQ_few 129 = .ok (.aload_n 0, 1) := by decide +kernel
theorem dQ_few_130 : decode bQ_few 130 = .ok (.iconst 1, 1) := by decide +kernel
theorem dQ_few_131 : decode bQ_few 131 = .ok (.putfield 66, 3) := by decide +kernel
theorem dQ_few_134 : decode bQ_few 134 = .ok (.goto 113, 3) := by decide +kernel
theorem dQ_few_137 : decode bQ_few 137 = .ok (.aload_n 0, 1) := by decide +kernel
theorem dQ_few_138 : decode bQ_few 138 = .ok (.iload_n 1, 1) := by decide +kernel
theorem dQ_few_139 : decode bQ_few 139 = .ok (.bipush 8, 2) := by decide +kernel
theorem dQ_few_141 : decode bQ_few 141 = .ok (.if_icmp .eq 10, 3) := by decide +kernel
theorem dQ_few_144 : decode bQ_few 144 = .ok (.aload_n 0, 1) := by decide +kernel
theorem dQ_few_145 : decode bQ_few 145 = .ok (.getfield 69, 3) := by decide +kernel
theorem dQ_few_148 : decode bQ_few 148 = .ok (.ifCond .ne 7, 3) := by decide +kernel
theorem dQ_few_151 : decode bQ_few 151 = .ok (.iconst 1, 1) := by decide +kernel
theorem dQ_few_152 : decode bQ_few 152 = .ok (.goto 4, 3) := by decide +kernel
theorem dQ_few_155 : decode bQ_few 155 = .ok (.iconst 0, 1) := by decide +kernel
theorem dQ_few_156 : decode bQ_few 156 = .ok (.putfield 69, 3) := by decide +kernel
theorem dQ_few_159 : decode bQ_few 159 = .ok (.aload_n 0, 1) := by decide +kernel
theorem dQ_few_160 : decode bQ_few 160 = .ok (.iconst 0, 1) := by decide +kernel
theorem dQ_few_161 : decode bQ_few 161 = .ok (.putfield 63, 3) := by decide +kernel
theorem dQ_few_164 : decode bQ_few 164 = .ok (.aload_n 0, 1) := by decide +kernel
theorem dQ_few_165 : decode bQ_few 165 = .ok (.iconst 0, 1) := by decide +kernel
theorem dQ_few_166 : decode bQ_few 166 = .ok (.putfield 66, 3) := by decide +kernel
theorem dQ_few_169 : decode bQ_few 169 = .ok (.goto 78, 3) := by decide +kernel
theorem dQ_few_172 : decode bQ_few 172 = .ok (.aload_n 0, 1) := by decide +kernel
theorem dQ_few_173 : decode bQ_few 173 = .ok (.aload_n 0, 1) := by decide +kernel
theorem dQ_few_174 : decode bQ_few 174 = .ok (.invokevirtual 185, 3) := by decide +kernel
theorem dQ_few_177 : decode bQ_few 177 = .ok (.putfield 56, 3) := by decide +kernel
theorem dQ_few_180 : decode bQ_few 180 = .ok (.aload_n 0, 1) := by decide +kernel
theorem dQ_few_181 : decode bQ_few 181 = .ok (.aload_n 0, 1) := by decide +kernel
theorem dQ_few_182 : decode bQ_few 182 = .ok (.getfield 72, 3) := by decide +kernel
theorem dQ_few_185 : decode bQ_few 185 = .ok (.ifCond .ne 8, 3) := by decide +kernel
theorem dQ_few_188 : decode bQ_few 188 = .ok (.iload_n 1, 1) := by decide +kernel
theorem dQ_few_189 : decode bQ_few 189 = .ok (.iconst 5, 1) := by decide +kernel
theorem dQ_few_190 : decode bQ_few 190 = .ok (.if_icmp .ne 7, 3) := by decide +kernel
theorem dQ_few_193 : decode bQ_few 193 = .ok (.iconst 1, 1) := by decide +kernel
theorem dQ_few_194 : decode bQ_few 194 = .ok (.goto 4, 3) := by decide +kernel
theorem dQ_few_197 : decode bQ_few 197 = .ok (.iconst 0, 1) := by decide +kernel
theorem dQ_few_198 : decode bQ_few 198 = .ok (.putfield 72, 3) := by decide +kernel
theorem dQ_few_201 : decode bQ_few 201 = .ok (.goto 46, 3) := by decide +kernel
theorem dQ_few_204 : decode bQ_few 204 = .ok (.aload_n 0, 1) := by decide +kernel
theorem dQ_few_205 : decode bQ_few 205 = .ok (.getfield 93, 3) := by decide +kernel
theorem dQ_few_208 : decode bQ_few 208 = .ok (.bipush 100, 2) := by decide +kernel
theorem dQ_few_210 : decode bQ_few 210 = .ok (.if_icmp .ge 19, 3) := by decide +kernel
theorem dQ_few_213 : decode bQ_few 213 = .ok (.aload_n 0, 1) := by decide +kernel
theorem dQ_few_214 : decode bQ_few 214 = .ok (.getfield 43, 3) := by decide +kernel
theorem dQ_few_217 : decode bQ_few 217 = .ok (.aload_n 0, 1) := by decide +kernel
theorem dQ_few_218 : decode bQ_few 218 = .ok (.getfield 93, 3) := by decide +kernel
theorem dQ_few_221 : decode bQ_few 221 = .ok (.aload_n 0, 1) := by decide +kernel
theorem dQ_few_222 : decode bQ_few 222 = .ok (.getfield 40, 3) := by decide +kernel
theorem dQ_few_225 : decode bQ_few 225 = .ok (.bipush 7, 2) := by decide +kernel
theorem dQ_few_227 : decode bQ_few 227 = .ok (.iaload, 1) := by decide +kernel
theorem dQ_few_228 : decode bQ_few 228 = .ok (.iastore, 1) := by decide +kernel
theorem dQ_few_229 : decode bQ_few 229 = .ok (.aload_n 0, 1) := by decide +kernel
theorem dQ_few_230 : decode bQ_few 230 = .ok (.dup, 1) := by decide +kernel
theorem dQ_few_231 : decode bQ_few 231 = .ok (.getfield 93, 3) := by decide +kernel
theorem dQ_few_234 : decode bQ_few 234 = .ok (.iconst 1, 1) := by decide +kernel
theorem dQ_few_235 : decode bQ_few 235 = .ok (.iadd, 1) := by decide +kernel
theorem dQ_few_236 : decode bQ_few 236 = .ok (.putfield 93, 3) := by decide +kernel
theorem dQ_few_239 : decode bQ_few 239 = .ok (.goto 8, 3) := by decide +kernel
theorem dQ_few_242 : decode bQ_few 242 = .ok (.aload_n 0, 1) := by decide +kernel
theorem dQ_few_243 : decode bQ_few 243 = .ok (.iconst 3, 1) := by decide +kernel
theorem dQ_few_244 : decode bQ_few 244 = .ok (.invokevirtual 179, 3) := by decide +kernel
theorem dQ_few_247 : decode bQ_few 247 = .ok (.return_, 1) := by decide +kernel
theorem dQ_single_0 : decode bQ_single 0 = .ok (.iload_n 1, 1) := by decide +kernel
theorem dQ_single_1 : decode bQ_single 1 = .ok (.iconst 2, 1) := by decide +kernel
theorem dQ_single_2 : decode bQ_single 2 = .ok (.if_icmp .eq 8, 3) := by decide +kernel
theorem dQ_single_5 : decode bQ_single 5 = .ok (.iload_n 1, 1) := by decide +kernel
theorem dQ_single_6 : decode bQ_single 6 = .ok (.iconst 3, 1) := by decide +kernel
theorem dQ_single_7 : decode bQ_single 7 = .ok (.if_icmp .ne 27, 3) := by decide +kernel
theorem dQ_single_10 : decode bQ_single 10 = .ok (.aload_n 0, 1) := by decide +kernel
theorem dQ_single_11 : decode bQ_single 11 = .ok (.iload_n 2, 1) := by decide +kernel
theorem dQ_single_12 : decode bQ_single 12 = .ok (.aload_n 0, 1) := by decide +kernel
theorem dQ_single_13 : decode bQ_single 13 = .ok (.aload_n 0, 1) := by decide +kernel
theorem dQ_single_14 : decode bQ_single 14 = .ok (.iload_n 2, 1) := by decide +kernel
theorem dQ_single_15 : decode bQ_single 15 = .ok (.invokevirtual 169, 3) := by decide +kernel
theorem dQ_single_18 : decode bQ_single 18 = .ok (.iload_n 1, 1) := by decide +kernel
theorem dQ_single_19 : decode bQ_single 19 = .ok (.iconst 2, 1) := by decide +kernel
theorem dQ_single_20 : decode bQ_single 20 = .ok (.if_icmp .ne 7, 3) := by decide +kernel
theorem dQ_single_23 : decode bQ_single 23 = .ok (.iconst 1, 1) := by decide +kernel
theorem dQ_single_24 : decode bQ_single 24 = .ok (.goto 4, 3) := by decide +kernel
theorem dQ_single_27 : decode bQ_single 27 = .ok (.iconst 0, 1) := by decide +kernel
theorem dQ_single_28 : decode bQ_single 28 = .ok (.invokevirtual 188, 3) := by decide +kernel
theorem dQ_single_31 : decode bQ_single 31 = .ok (.invokevirtual 176, 3) := by decide +kernel
theorem dQ_single_34 : decode bQ_single 34 = .ok (.iload_n 1, 1) := by decide +kernel
theorem dQ_single_35 : decode bQ_single 35 = .ok (.iconst 4, 1) := by decide +kernel
theorem dQ_single_36 : decode bQ_single 36 = .ok (.if_icmp .ne 12, 3) := by decide +kernel
theorem dQ_single_39 : decode bQ_single 39 = .ok (.aload_n 0, 1) := by decide +kernel
theorem dQ_single_40 : decode bQ_single 40 = .ok (.aload_n 0, 1) := by decide +kernel
theorem dQ_single_41 : decode bQ_single 41 = .ok (.iload_n 2, 1) := by decide +kernel
theorem dQ_single_42 : decode bQ_single 42 = .ok (.invokevirtual 169, 3) := by decide +kernel
theorem dQ_single_45 : decode bQ_single 45 = .ok (.invokevirtual 191, 3) := by decide +kernel
theorem dQ_single_48 : decode bQ_single 48 = .ok (.iload_n 1, 1) := by decide +kernel
theorem dQ_single_49 : decode bQ_single 49 = .ok (.iconst 5, 1) := by decide +kernel
theorem dQ_single_50 : decode bQ_single 50 = .ok (.if_icmp .ne 12, 3) := by decide +kernel
theorem dQ_single_53 : decode bQ_single 53 = .ok (.aload_n 0, 1) := by decide +kernel
theorem dQ_single_54 : decode bQ_single 54 = .ok (.iload_n 2, 1) := by decide +kernel
theorem dQ_single_55 : decode bQ_single 55 = .ok (.aload_n 0, 1) := by decide +kernel
theorem dQ_single_56 : decode bQ_single 56 = .ok (.invokevirtual 185, 3) := by decide +kernel
theorem dQ_single_59 : decode bQ_single 59 = .ok (.invokevirtual 176, 3) := by decide +kernel
theorem dQ_single_62 : decode bQ_single 62 = .ok (.iload_n 1, 1) := by decide +kernel
theorem dQ_single_63 : decode bQ_single 63 = .ok (.bipush 6, 2) := by decide +kernel
theorem dQ_single_65 : decode bQ_single 65 = .ok (.if_icmp .ne 12, 3) := by decide +kernel
theorem dQ_single_68 : decode bQ_single 68 = .ok (.aload_n 0, 1) := by decide +kernel
theorem dQ_single_69 : decode bQ_single 69 = .ok (.iload_n 2, 1) := by decide +kernel
theorem dQ_single_70 : decode bQ_single 70 = .ok (.aload_n 0, 1) := by decide +kernel
theorem dQ_single_71 : decode bQ_single 71 = .ok (.invokevirtual 194, 3) := by decide +kernel
theorem dQ_single_74 : decode bQ_single 74 = .ok (.invokevirtual 176, 3) := by decide +kernel
theorem dQ_single_77 : decode bQ_single 77 = .ok (.iload_n 1, 1) := by decide +kernel
theorem dQ_single_78 : decode bQ_single 78 = .ok (.bipush 7, 2) := by decide +kernel
theorem dQ_single_80 : decode bQ_single 80 = .ok (.if_icmp .ne 31, 3) := by decide +kernel
theorem dQ_single_83 : decode bQ_single 83 = .ok (.aload_n 0, 1) := by decide +kernel
theorem dQ_single_84 : decode bQ_single 84 = .ok (.iload_n 2, 1) := by decide +kernel
theorem dQ_single_85 : decode bQ_single 85 = .ok (.invokevirtual 169, 3) := by decide +kernel
theorem dQ_single_88 : decode bQ_single 88 = .ok (.istore_n 3, 1) := by decide +kernel
theorem dQ_single_89 : decode bQ_single 89 = .ok (.aload_n 0, 1) := by decide +kernel
theorem dQ_single_90 : decode bQ_single 90 = .ok (.iload_n 2, 1) := by decide +kernel
theorem dQ_single_91 : decode bQ_single 91 = .ok (.aload_n 0, 1) := by decide +kernel
theorem dQ_single_92 : decode bQ_single 92 = .ok (.iload_n 3, 1) := by decide +kernel
theorem dQ_single_93 : decode bQ_single 93 = .ok (.bipush 16, 2) := by decide +kernel
theorem dQ_single_95 : decode bQ_single 95 = .ok (.irem, 1) := by decide +kernel
theorem dQ_single_96 : decode bQ_single 96 = .ok (.bipush 16, 2) := by decide +kernel
theorem dQ_single_98 : decode bQ_single 98 = .ok (.imul, 1) := by decide +kernel
theorem dQ_single_99 : decode bQ_single 99 = .ok (.iload_n 3, 1) := by decide +kernel
theorem dQ_single_100 : decode bQ_single 100 = .ok (.bipush 16, 2) := by decide +kernel
theorem dQ_single_102 : decode bQ_single 102 = .ok (.idiv, 1) := by decide +kernel
theorem dQ_single_103 : decode bQ_single 103 = .ok (.iadd, 1) := by decide +kernel
theorem dQ_single_104 : decode bQ_single 104 = .ok (.iconst 0, 1) := by decide +kernel
theorem dQ_single_105 : decode bQ_single 105 = .ok (.invokevirtual 165, 3) := by decide +kernel
theorem dQ_single_108 : decode bQ_single 108 = .ok (.invokevirtual 176, 3) := by decide +kernel
theorem dQ_single_111 : decode bQ_single 111 = .ok (.return_, 1) := by decide +kernel
theorem dQ_holds_0 : decode bQ_holds 0 = .ok (.iload_n 1, 1) := by decide +kernel
theorem dQ_holds_1 : decode bQ_holds 1 = .ok (.ifCond .eq 51, 3) := by decide +kernel
theorem dQ_holds_4 : decode bQ_holds 4 = .ok (.iload_n 1, 1) := by decide +kernel
theorem dQ_holds_5 : decode bQ_holds 5 = .ok (.iconst 1, 1) := by decide +kernel
theorem dQ_holds_6 : decode bQ_holds 6 = .ok (.if_icmp .ne 10, 3) := by decide +kernel
theorem dQ_holds_9 : decode bQ_holds 9 = .ok (.aload_n 0, 1) := by decide +kernel
theorem dQ_holds_10 : decode bQ_holds 10 = .ok (.getfield 59, 3) := by decide +kernel
theorem dQ_holds_13 : decode bQ_holds 13 = .ok (.ifCond .eq 39, 3) := by decide +kernel
theorem dQ_holds_16 : decode bQ_holds 16 = .ok (.iload_n 1, 1) := by decide +kernel
theorem dQ_holds_17 : decode bQ_holds 17 = .ok (.iconst 2, 1) := by decide +kernel
theorem dQ_holds_18 : decode bQ_holds 18 = .ok (.if_icmp .ne 10, 3) := by decide +kernel
theorem dQ_holds_21 : decode bQ_holds 21 = .ok (.aload_n 0, 1) := by decide +kernel
theorem dQ_holds_22 : decode bQ_holds 22 = .ok (.getfield 59, 3) := by decide +kernel
theorem dQ_holds_25 : decode bQ_holds 25 = .ok (.ifCond .ne 27, 3) := by decide +kernel
theorem dQ_holds_28 : decode bQ_holds 28 = .ok (.iload_n 1, 1) := by decide +kernel
theorem dQ_holds_29 : decode bQ_holds 29 = .ok (.iconst 3, 1) := by decide +kernel
theorem dQ_holds_30 : decode bQ_holds 30 = .ok (.if_icmp .ne 10, 3) := by decide +kernel
theorem dQ_holds_33 : decode bQ_holds 33 = .ok (.aload_n 0, 1) := by decide +kernel
theorem dQ_holds_34 : decode bQ_holds 34 = .ok (.getfield 69, 3) := by decide +kernel
theorem dQ_holds_37 : decode bQ_holds 37 = .ok (.ifCond .eq 15, 3) := by decide +kernel
theorem dQ_holds_40 : decode bQ_holds 40 = .ok (.iload_n 1, 1) := by decide +kernel
theorem dQ_holds_41 : decode bQ_holds 41 = .ok (.iconst 4, 1) := by decide +kernel
theorem dQ_holds_42 : decode bQ_holds 42 = .ok (.if_icmp .ne 14, 3) := by decide +kernel
theorem dQ_holds_45 : decode bQ_holds 45 = .ok (.aload_n 0, 1) := by decide +kernel
theorem dQ_holds_46 : decode bQ_holds 46 = .ok (.getfield 69, 3) := by decide +kernel
theorem dQ_holds_49 : decode bQ_holds 49 = .ok (.ifCond .eq 7, 3) := by decide +kernel
theorem dQ_holds_52 : decode bQ_holds 52 = .ok (.iconst 1, 1) := by decide +kernel
theorem dQ_holds_53 : decode bQ_holds 53 = .ok (.goto 4, 3) := by decide +kernel
theorem dQ_holds_56 : decode bQ_holds 56 = .ok (.iconst 0, 1) := by decide +kernel
theorem dQ_holds_57 : decode bQ_holds 57 = .ok (.ireturn, 1) := by decide +kernel
theorem dQ_lead_0 : decode bQ_lead 0 = .ok (.iload_n 1, 1) := by decide +kernel
theorem dQ_lead_1 : decode bQ_lead 1 = .ok (.bipush 8, 2) := by decide +kernel
theorem dQ_lead_3 : decode bQ_lead 3 = .ok (.irem, 1) := by decide +kernel
theorem dQ_lead_4 : decode bQ_lead 4 = .ok (.istore_n 2, 1) := by decide +kernel
theorem dQ_lead_5 : decode bQ_lead 5 = .ok (.iload_n 1, 1) := by decide +kernel
theorem dQ_lead_6 : decode bQ_lead 6 = .ok (.bipush 8, 2) := by decide +kernel
theorem dQ_lead_8 : decode bQ_lead 8 = .ok (.idiv, 1) := by decide +kernel
theorem dQ_lead_9 : decode bQ_lead 9 = .ok (.iconst 4, 1) := by decide +kernel
theorem dQ_lead_10 : decode bQ_lead 10 = .ok (.irem, 1) := by decide +kernel
theorem dQ_lead_11 : decode bQ_lead 11 = .ok (.istore_n 3, 1) := by decide +kernel
theorem dQ_lead_12 : decode bQ_lead 12 = .ok (.iload_n 2, 1) := by decide +kernel
theorem dQ_lead_13 : decode bQ_lead 13 = .ok (.iconst 4, 1) := by decide +kernel
theorem dQ_lead_14 : decode bQ_lead 14 = .ok (.if_icmp .le 9, 3) := by decide +kernel
theorem dQ_lead_17 : decode bQ_lead 17 = .ok (.aload_n 0, 1) := by decide +kernel
theorem dQ_lead_18 : decode bQ_lead 18 = .ok (.iconst 3, 1) := by decide +kernel
theorem dQ_lead_19 : decode bQ_lead 19 = .ok (.invokevirtual 179, 3) := by decide +kernel
theorem dQ_lead_22 : decode bQ_lead 22 = .ok (.return_, 1) := by decide +kernel
theorem dQ_lead_23 : decode bQ_lead 23 = .ok (.iload_n 3, 1) := by decide +kernel
theorem dQ_lead_24 : decode bQ_lead 24 = .ok (.iconst 2, 1) := by decide +kernel
theorem dQ_lead_25 : decode bQ_lead 25 = .ok (.if_icmp .ne 7, 3) := by decide +kernel
theorem dQ_lead_28 : decode bQ_lead 28 = .ok (.iconst 0, 1) := by decide +kernel
theorem dQ_lead_29 : decode bQ_lead 29 = .ok (.goto 7, 3) := by decide +kernel
theorem dQ_lead_32 : decode bQ_lead 32 = .ok (.aload_n 0, 1) := by decide +kernel
theorem dQ_lead_33 : decode bQ_lead 33 = .ok (.invokevirtual 194, 3) := by decide +kernel
theorem dQ_lead_36 : decode bQ_lead 36 = .ok (.istore 4, 2) := by decide +kernel
theorem dQ_lead_38 : decode bQ_lead 38 = .ok (.aload_n 0, 1) := by decide +kernel
theorem dQ_lead_39 : decode bQ_lead 39 = .ok (.iload_n 2, 1) := by decide +kernel
theorem dQ_lead_40 : decode bQ_lead 40 = .ok (.invokevirtual 197, 3) := by decide +kernel
theorem dQ_lead_43 : decode bQ_lead 43 = .ok (.ifCond .ne 4, 3) := by decide +kernel
theorem dQ_lead_46 : decode bQ_lead 46 = .ok (.return_, 1) := by decide +kernel
theorem dQ_lead_47 : decode bQ_lead 47 = .ok (.iload_n 3, 1) := by decide +kernel
theorem dQ_lead_48 : decode bQ_lead 48 = .ok (.iconst 1, 1) := by decide +kernel
theorem dQ_lead_49 : decode bQ_lead 49 = .ok (.if_icmp .ne 11, 3) := by decide +kernel
theorem dQ_lead_52 : decode bQ_lead 52 = .ok (.aload_n 0, 1) := by decide +kernel
theorem dQ_lead_53 : decode bQ_lead 53 = .ok (.aload_n 0, 1) := by decide +kernel
theorem dQ_lead_54 : decode bQ_lead 54 = .ok (.getfield 56, 3) := by decide +kernel
theorem dQ_lead_57 : decode bQ_lead 57 = .ok (.invokevirtual 191, 3) := by decide +kernel
theorem dQ_lead_60 : decode bQ_lead 60 = .ok (.iload 4, 2) := by decide +kernel
theorem dQ_lead_62 : decode bQ_lead 62 = .ok (.bipush 127, 2) := by decide +kernel
theorem dQ_lead_64 : decode bQ_lead 64 = .ok (.if_icmp .le 12, 3) := by decide +kernel
theorem dQ_lead_67 : decode bQ_lead 67 = .ok (.iload 4, 2) := by decide +kernel
theorem dQ_lead_69 : decode bQ_lead 69 = .ok (.sipush 256, 3) := by decide +kernel
theorem dQ_lead_72 : decode bQ_lead 72 = .ok (.isub, 1) := by decide +kernel
theorem dQ_lead_73 : decode bQ_lead 73 = .ok (.goto 5, 3) := by decide +kernel
theorem dQ_lead_76 : decode bQ_lead 76 = .ok (.iload 4, 2) := by decide +kernel
theorem dQ_lead_78 : decode bQ_lead 78 = .ok (.istore 5, 2) := by decide +kernel
theorem dQ_lead_80 : decode bQ_lead 80 = .ok (.aload_n 0, 1) := by decide +kernel
theorem dQ_lead_81 : decode bQ_lead 81 = .ok (.iload_n 3, 1) := by decide +kernel
theorem dQ_lead_82 : decode bQ_lead 82 = .ok (.iconst 2, 1) := by decide +kernel
theorem dQ_lead_83 : decode bQ_lead 83 = .ok (.if_icmp .ne 10, 3) := by decide +kernel
theorem dQ_lead_86 : decode bQ_lead 86 = .ok (.aload_n 0, 1) := by decide +kernel
theorem dQ_lead_87 : decode bQ_lead 87 = .ok (.invokevirtual 185, 3) := by decide +kernel
theorem dQ_lead_90 : decode bQ_lead 90 = .ok (.goto 28, 3) := by decide +kernel
theorem dQ_lead_93 : decode bQ_lead 93 = .ok (.iload_n 3, 1) := by decide +kernel
theorem dQ_lead_94 : decode bQ_lead 94 = .ok (.iconst 3, 1) := by decide +kernel
theorem dQ_lead_95 : decode bQ_lead 95 = .ok (.if_icmp .ne 21, 3) := by decide +kernel
theorem dQ_lead_98 : decode bQ_lead 98 = .ok (.aload_n 0, 1) := by decide +kernel
theorem dQ_lead_99 : decode bQ_lead 99 = .ok (.getfield 56, 3) := by decide +kernel
theorem dQ_lead_102 : decode bQ_lead 102 = .ok (.iload 5, 2) := by decide +kernel
theorem dQ_lead_104 : decode bQ_lead 104 = .ok (.iadd, 1) := by decide +kernel
theorem dQ_lead_105 : decode bQ_lead 105 = .ok (.sipush 256, 3) := by decide +kernel
theorem dQ_lead_108 : decode bQ_lead 108 = .ok (.iadd, 1) := by decide +kernel
theorem dQ_lead_109 : decode bQ_lead 109 = .ok (.sipush 256, 3) := by decide +kernel
theorem dQ_lead_112 : decode bQ_lead 112 = .ok (.irem, 1) := by decide +kernel
theorem dQ_lead_113 : decode bQ_lead 113 = .ok (.goto 5, 3) := by decide +kernel
theorem dQ_lead_116 : decode bQ_lead 116 = .ok (.iload 4, 2) := by decide +kernel
theorem dQ_lead_118 : decode bQ_lead 118 = .ok (.putfield 56, 3) := by decide +kernel
theorem dQ_lead_121 : decode bQ_lead 121 = .ok (.return_, 1) := by decide +kernel
theorem dQ_instruction_0 : decode bQ_instruction 0 = .ok (.aload_n 0, 1) := by decide +kernel
theorem dQ_instruction_1 : decode bQ_instruction 1 = .ok (.invokevirtual 194, 3) := by decide +kernel
theorem dQ_instruction_4 : decode bQ_instruction 4 = .ok (.istore_n 1, 1) := by decide +kernel
theorem dQ_instruction_5 : decode bQ_instruction 5 = .ok (.iload_n 1, 1) := by decide +kernel
theorem dQ_instruction_6 : decode bQ_instruction 6 = .ok (.bipush 16, 2) := by decide +kernel
theorem dQ_instruction_8 : decode bQ_instruction 8 = .ok (.if_icmp .ge 11, 3) := by decide +kernel
theorem dQ_instruction_11 : decode bQ_instruction 11 = .ok (.aload_n 0, 1) := by decide +kernel
theorem dQ_instruction_12 : decode bQ_instruction 12 = .ok (.iload_n 1, 1) := by decide +kernel
theorem dQ_instruction_13 : decode bQ_instruction 13 = .ok (.invokevirtual 200, 3) := by decide +kernel
theorem dQ_instruction_16 : decode bQ_instruction 16 = .ok (.goto 142, 3) := by decide +kernel
theorem dQ_instruction_19 : decode bQ_instruction 19 = .ok (.iload_n 1, 1) := by decide +kernel
theorem dQ_instruction_20 : decode bQ_instruction 20 = .ok (.bipush 64, 2) := by decide +kernel
theorem dQ_instruction_22 : decode bQ_instruction 22 = .ok (.if_icmp .ge 18, 3) := by decide +kernel
theorem dQ_instruction_25 : decode bQ_instruction 25 = .ok (.aload_n 0, 1) := by decide +kernel
theorem dQ_instruction_26 : decode bQ_instruction 26 = .ok (.iload_n 1, 1) := by decide +kernel
theorem dQ_instruction_27 : decode bQ_instruction 27 = .ok (.bipush 8, 2) := by decide +kernel
theorem dQ_instruction_29 : decode bQ_instruction 29 = .ok (.idiv, 1) := by decide +kernel
theorem dQ_instruction_30 : decode bQ_instruction 30 = .ok (.iload_n 1, 1) := by decide +kernel
theorem dQ_instruction_31 : decode bQ_instruction 31 = .ok (.bipush 8, 2) := by decide +kernel
theorem dQ_instruction_33 : decode bQ_instruction 33 = .ok (.irem, 1) := by decide +kernel
theorem dQ_instruction_34 : decode bQ_instruction 34 = .ok (.invokevirtual 203, 3) := by decide +kernel
theorem dQ_instruction_37 : decode bQ_instruction 37 = .ok (.goto 121, 3) := by decide +kernel
theorem dQ_instruction_40 : decode bQ_instruction 40 = .ok (.iload_n 1, 1) := by decide +kernel
theorem dQ_instruction_41 : decode bQ_instruction 41 = .ok (.sipush 128, 3) := by decide +kernel
theorem dQ_instruction_44 : decode bQ_instruction 44 = .ok (.if_icmp .ge 25, 3) := by decide +kernel
theorem dQ_instruction_47 : decode bQ_instruction 47 = .ok (.aload_n 0, 1) := by decide +kernel
theorem dQ_instruction_48 : decode bQ_instruction 48 = .ok (.iload_n 1, 1) := by decide +kernel
theorem dQ_instruction_49 : decode bQ_instruction 49 = .ok (.bipush 8, 2) := by decide +kernel
theorem dQ_instruction_51 : decode bQ_instruction 51 = .ok (.idiv, 1) := by decide +kernel
theorem dQ_instruction_52 : decode bQ_instruction 52 = .ok (.bipush 8, 2) := by decide +kernel
theorem dQ_instruction_54 : decode bQ_instruction 54 = .ok (.irem, 1) := by decide +kernel
theorem dQ_instruction_55 : decode bQ_instruction 55 = .ok (.aload_n 0, 1) := by decide +kernel
theorem dQ_instruction_56 : decode bQ_instruction 56 = .ok (.iload_n 1, 1) := by decide +kernel
theorem dQ_instruction_57 : decode bQ_instruction 57 = .ok (.bipush 8, 2) := by decide +kernel
theorem dQ_instruction_59 : decode bQ_instruction 59 = .ok (.irem, 1) := by decide +kernel
theorem dQ_instruction_60 : decode bQ_instruction 60 = .ok (.invokevirtual 169, 3) := by decide +kernel
theorem dQ_instruction_63 : decode bQ_instruction 63 = .ok (.invokevirtual 176, 3) := by decide +kernel
theorem dQ_instruction_66 : decode bQ_instruction 66 = .ok (.goto 92, 3) := by decide +kernel
theorem dQ_instruction_69 : decode bQ_instruction 69 = .ok (.iload_n 1, 1) := by decide +kernel
theorem dQ_instruction_70 : decode bQ_instruction 70 = .ok (.sipush 192, 3) := by decide +kernel
theorem dQ_instruction_73 : decode bQ_instruction 73 = .ok (.if_icmp .ge 25, 3) := by decide +kernel
theorem dQ_instruction_76 : decode bQ_instruction 76 = .ok (.aload_n 0, 1) := by decide +kernel
theorem dQ_instruction_77 : decode bQ_instruction 77 = .ok (.iload_n 1, 1) := by decide +kernel
theorem dQ_instruction_78 : decode bQ_instruction 78 = .ok (.bipush 8, 2) := by decide +kernel
theorem dQ_instruction_80 : decode bQ_instruction 80 = .ok (.idiv, 1) := by decide +kernel
theorem dQ_instruction_81 : decode bQ_instruction 81 = .ok (.bipush 8, 2) := by decide +kernel
theorem dQ_instruction_83 : decode bQ_instruction 83 = .ok (.irem, 1) := by decide +kernel
theorem dQ_instruction_84 : decode bQ_instruction 84 = .ok (.aload_n 0, 1) := by decide +kernel
theorem dQ_instruction_85 : decode bQ_instruction 85 = .ok (.iload_n 1, 1) := by decide +kernel
theorem dQ_instruction_86 : decode bQ_instruction 86 = .ok (.bipush 8, 2) := by decide +kernel
theorem dQ_instruction_88 : decode bQ_instruction 88 = .ok (.irem, 1) := by decide +kernel
theorem dQ_instruction_89 : decode bQ_instruction 89 = .ok (.invokevirtual 169, 3) := by decide +kernel
theorem dQ_instruction_92 : decode bQ_instruction 92 = .ok (.invokevirtual 206, 3) := by decide +kernel
theorem dQ_instruction_95 : decode bQ_instruction 95 = .ok (.goto 63, 3) := by decide +kernel
theorem dQ_instruction_98 : decode bQ_instruction 98 = .ok (.iload_n 1, 1) := by decide +kernel
theorem dQ_instruction_99 : decode bQ_instruction 99 = .ok (.sipush 224, 3) := by decide +kernel
theorem dQ_instruction_102 : decode bQ_instruction 102 = .ok (.if_icmp .ge 11, 3) := by decide +kernel
theorem dQ_instruction_105 : decode bQ_instruction 105 = .ok (.aload_n 0, 1) := by decide +kernel
theorem dQ_instruction_106 : decode bQ_instruction 106 = .ok (.iload_n 1, 1) := by decide +kernel
theorem dQ_instruction_107 : decode bQ_instruction 107 = .ok (.invokevirtual 209, 3) := by decide +kernel
theorem dQ_instruction_110 : decode bQ_instruction 110 = .ok (.goto 48, 3) := by decide +kernel
theorem dQ_instruction_113 : decode bQ_instruction 113 = .ok (.iload_n 1, 1) := by decide +kernel
theorem dQ_instruction_114 : decode bQ_instruction 114 = .ok (.sipush 232, 3) := by decide +kernel
theorem dQ_instruction_117 : decode bQ_instruction 117 = .ok (.if_icmp .ge 18, 3) := by decide +kernel
theorem dQ_instruction_120 : decode bQ_instruction 120 = .ok (.aload_n 0, 1) := by decide +kernel
theorem dQ_instruction_121 : decode bQ_instruction 121 = .ok (.iload_n 1, 1) := by decide +kernel
theorem dQ_instruction_122 : decode bQ_instruction 122 = .ok (.bipush 8, 2) := by decide +kernel
theorem dQ_instruction_124 : decode bQ_instruction 124 = .ok (.irem, 1) := by decide +kernel
theorem dQ_instruction_125 : decode bQ_instruction 125 = .ok (.aload_n 0, 1) := by decide +kernel
theorem dQ_instruction_126 : decode bQ_instruction 126 = .ok (.invokevirtual 194, 3) := by decide +kernel
theorem dQ_instruction_129 : decode bQ_instruction 129 = .ok (.invokevirtual 206, 3) := by decide +kernel
theorem dQ_instruction_132 : decode bQ_instruction 132 = .ok (.goto 26, 3) := by decide +kernel
theorem dQ_instruction_135 : decode bQ_instruction 135 = .ok (.iload_n 1, 1) := by decide +kernel
theorem dQ_instruction_136 : decode bQ_instruction 136 = .ok (.sipush 240, 3) := by decide +kernel
theorem dQ_instruction_139 : decode bQ_instruction 139 = .ok (.if_icmp .ne 14, 3) := by decide +kernel
theorem dQ_instruction_142 : decode bQ_instruction 142 = .ok (.aload_n 0, 1) := by decide +kernel
theorem dQ_instruction_143 : decode bQ_instruction 143 = .ok (.aload_n 0, 1) := by decide +kernel
theorem dQ_instruction_144 : decode bQ_instruction 144 = .ok (.invokevirtual 194, 3) := by decide +kernel
theorem dQ_instruction_147 : decode bQ_instruction 147 = .ok (.invokevirtual 212, 3) := by decide +kernel
theorem dQ_instruction_150 : decode bQ_instruction 150 = .ok (.goto 8, 3) := by decide +kernel
theorem dQ_instruction_153 : decode bQ_instruction 153 = .ok (.aload_n 0, 1) := by decide +kernel
theorem dQ_instruction_154 : decode bQ_instruction 154 = .ok (.iconst 3, 1) := by decide +kernel
theorem dQ_instruction_155 : decode bQ_instruction 155 = .ok (.invokevirtual 179, 3) := by decide +kernel
theorem dQ_instruction_158 : decode bQ_instruction 158 = .ok (.return_, 1) := by decide +kernel
theorem dQ_interrupt_0 : decode bQ_interrupt 0 = .ok (.iconst 0, 1) := by decide +kernel
theorem dQ_interrupt_1 : decode bQ_interrupt 1 = .ok (.istore_n 2, 1) := by decide +kernel
theorem dQ_interrupt_2 : decode bQ_interrupt 2 = .ok (.iload_n 1, 1) := by decide +kernel
theorem dQ_interrupt_3 : decode bQ_interrupt 3 = .ok (.iload_n 2, 1) := by decide +kernel
theorem dQ_interrupt_4 : decode bQ_interrupt 4 = .ok (.ishr, 1) := by decide +kernel
theorem dQ_interrupt_5 : decode bQ_interrupt 5 = .ok (.iconst 1, 1) := by decide +kernel
theorem dQ_interrupt_6 : decode bQ_interrupt 6 = .ok (.iand, 1) := by decide +kernel
theorem dQ_interrupt_7 : decode bQ_interrupt 7 = .ok (.ifCond .ne 9, 3) := by decide +kernel
theorem dQ_interrupt_10 : decode bQ_interrupt 10 = .ok (.iinc 2 1, 3) := by decide +kernel
theorem dQ_interrupt_13 : decode bQ_interrupt 13 = .ok (.goto (-11), 3) := by decide +kernel
theorem dQ_interrupt_16 : decode bQ_interrupt 16 = .ok (.aload_n 0, 1) := by decide +kernel
theorem dQ_interrupt_17 : decode bQ_interrupt 17 = .ok (.getfield 37, 3) := by decide +kernel
theorem dQ_interrupt_20 : decode bQ_interrupt 20 = .ok (.sipush 703, 3) := by decide +kernel
theorem dQ_interrupt_23 : decode bQ_interrupt 23 = .ok (.dup2, 1) := by decide +kernel
theorem dQ_interrupt_24 : decode bQ_interrupt 24 = .ok (.iaload, 1) := by decide +kernel
theorem dQ_interrupt_25 : decode bQ_interrupt 25 = .ok (.iconst 1, 1) := by decide +kernel
theorem dQ_interrupt_26 : decode bQ_interrupt 26 = .ok (.iload_n 2, 1) := by decide +kernel
theorem dQ_interrupt_27 : decode bQ_interrupt 27 = .ok (.ishl, 1) := by decide +kernel
theorem dQ_interrupt_28 : decode bQ_interrupt 28 = .ok (.isub, 1) := by decide +kernel
theorem dQ_interrupt_29 : decode bQ_interrupt 29 = .ok (.iastore, 1) := by decide +kernel
theorem dQ_interrupt_30 : decode bQ_interrupt 30 = .ok (.aload_n 0, 1) := by decide +kernel
theorem dQ_interrupt_31 : decode bQ_interrupt 31 = .ok (.iconst 0, 1) := by decide +kernel
theorem dQ_interrupt_32 : decode bQ_interrupt 32 = .ok (.putfield 72, 3) := by decide +kernel
theorem dQ_interrupt_35 : decode bQ_interrupt 35 = .ok (.aload_n 0, 1) := by decide +kernel
theorem dQ_interrupt_36 : decode bQ_interrupt 36 = .ok (.aload_n 0, 1) := by decide +kernel
theorem dQ_interrupt_37 : decode bQ_interrupt 37 = .ok (.getfield 56, 3) := by decide +kernel
theorem dQ_interrupt_40 : decode bQ_interrupt 40 = .ok (.invokevirtual 191, 3) := by decide +kernel
theorem dQ_interrupt_43 : decode bQ_interrupt 43 = .ok (.aload_n 0, 1) := by decide +kernel
theorem dQ_interrupt_44 : decode bQ_interrupt 44 = .ok (.bipush 16, 2) := by decide +kernel
theorem dQ_interrupt_46 : decode bQ_interrupt 46 = .ok (.iconst 4, 1) := by decide +kernel
theorem dQ_interrupt_47 : decode bQ_interrupt 47 = .ok (.iload_n 2, 1) := by decide +kernel
theorem dQ_interrupt_48 : decode bQ_interrupt 48 = .ok (.imul, 1) := by decide +kernel
theorem dQ_interrupt_49 : decode bQ_interrupt 49 = .ok (.iadd, 1) := by decide +kernel
theorem dQ_interrupt_50 : decode bQ_interrupt 50 = .ok (.putfield 56, 3) := by decide +kernel
theorem dQ_interrupt_53 : decode bQ_interrupt 53 = .ok (.return_, 1) := by decide +kernel
theorem dQ_step_0 : decode bQ_step 0 = .ok (.aload_n 0, 1) := by decide +kernel
theorem dQ_step_1 : decode bQ_step 1 = .ok (.getfield 37, 3) := by decide +kernel
theorem dQ_step_4 : decode bQ_step 4 = .ok (.sipush 702, 3) := by decide +kernel
theorem dQ_step_7 : decode bQ_step 7 = .ok (.iaload, 1) := by decide +kernel
theorem dQ_step_8 : decode bQ_step 8 = .ok (.aload_n 0, 1) := by decide +kernel
theorem dQ_step_9 : decode bQ_step 9 = .ok (.getfield 37, 3) := by decide +kernel
theorem dQ_step_12 : decode bQ_step 12 = .ok (.sipush 703, 3) := by decide +kernel
theorem dQ_step_15 : decode bQ_step 15 = .ok (.iaload, 1) := by decide +kernel
theorem dQ_step_16 : decode bQ_step 16 = .ok (.iand, 1) := by decide +kernel
theorem dQ_step_17 : decode bQ_step 17 = .ok (.istore_n 1, 1) := by decide +kernel
theorem dQ_step_18 : decode bQ_step 18 = .ok (.aload_n 0, 1) := by decide +kernel
theorem dQ_step_19 : decode bQ_step 19 = .ok (.getfield 90, 3) := by decide +kernel
theorem dQ_step_22 : decode bQ_step 22 = .ok (.iconst 1, 1) := by decide +kernel
theorem dQ_step_23 : decode bQ_step 23 = .ok (.if_icmp .ne 44, 3) := by decide +kernel
theorem dQ_step_26 : decode bQ_step 26 = .ok (.aload_n 0, 1) := by decide +kernel
theorem dQ_step_27 : decode bQ_step 27 = .ok (.iload_n 1, 1) := by decide +kernel
theorem dQ_step_28 : decode bQ_step 28 = .ok (.ifCond .ne 10, 3) := by decide +kernel
theorem dQ_step_31 : decode bQ_step 31 = .ok (.aload_n 0, 1) := by decide +kernel
theorem dQ_step_32 : decode bQ_step 32 = .ok (.getfield 56, 3) := by decide +kernel
theorem dQ_step_35 : decode bQ_step 35 = .ok (.goto 13, 3) := by decide +kernel
theorem dQ_step_38 : decode bQ_step 38 = .ok (.aload_n 0, 1) := by decide +kernel
theorem dQ_step_39 : decode bQ_step 39 = .ok (.getfield 56, 3) := by decide +kernel
theorem dQ_step_42 : decode bQ_step 42 = .ok (.iconst 1, 1) := by decide +kernel
theorem dQ_step_43 : decode bQ_step 43 = .ok (.iadd, 1) := by decide +kernel
theorem dQ_step_44 : decode bQ_step 44 = .ok (.sipush 256, 3) := by decide +kernel
theorem dQ_step_47 : decode bQ_step 47 = .ok (.irem, 1) := by decide +kernel
theorem dQ_step_48 : decode bQ_step 48 = .ok (.putfield 56, 3) := by decide +kernel
theorem dQ_step_51 : decode bQ_step 51 = .ok (.aload_n 0, 1) := by decide +kernel
theorem dQ_step_52 : decode bQ_step 52 = .ok (.iload_n 1, 1) := by decide +kernel
theorem dQ_step_53 : decode bQ_step 53 = .ok (.ifCond .ne 7, 3) := by decide +kernel
theorem dQ_step_56 : decode bQ_step 56 = .ok (.iconst 1, 1) := by decide +kernel
theorem dQ_step_57 : decode bQ_step 57 = .ok (.goto 4, 3) := by decide +kernel
theorem dQ_step_60 : decode bQ_step 60 = .ok (.iconst 0, 1) := by decide +kernel
theorem dQ_step_61 : decode bQ_step 61 = .ok (.putfield 90, 3) := by decide +kernel
theorem dQ_step_64 : decode bQ_step 64 = .ok (.goto 56, 3) := by decide +kernel
theorem dQ_step_67 : decode bQ_step 67 = .ok (.aload_n 0, 1) := by decide +kernel
theorem dQ_step_68 : decode bQ_step 68 = .ok (.getfield 72, 3) := by decide +kernel
theorem dQ_step_71 : decode bQ_step 71 = .ok (.ifCond .eq 15, 3) := by decide +kernel
theorem dQ_step_74 : decode bQ_step 74 = .ok (.iload_n 1, 1) := by decide +kernel
theorem dQ_step_75 : decode bQ_step 75 = .ok (.ifCond .eq 11, 3) := by decide +kernel
theorem dQ_step_78 : decode bQ_step 78 = .ok (.aload_n 0, 1) := by decide +kernel
theorem dQ_step_79 : decode bQ_step 79 = .ok (.iload_n 1, 1) := by decide +kernel
theorem dQ_step_80 : decode bQ_step 80 = .ok (.invokevirtual 215, 3) := by decide +kernel
theorem dQ_step_83 : decode bQ_step 83 = .ok (.goto 37, 3) := by decide +kernel
theorem dQ_step_86 : decode bQ_step 86 = .ok (.aload_n 0, 1) := by decide +kernel
theorem dQ_step_87 : decode bQ_step 87 = .ok (.getfield 75, 3) := by decide +kernel
theorem dQ_step_90 : decode bQ_step 90 = .ok (.istore_n 2, 1) := by decide +kernel
theorem dQ_step_91 : decode bQ_step 91 = .ok (.aload_n 0, 1) := by decide +kernel
theorem dQ_step_92 : decode bQ_step 92 = .ok (.iconst 0, 1) := by decide +kernel
theorem dQ_step_93 : decode bQ_step 93 = .ok (.putfield 75, 3) := by decide +kernel
theorem dQ_step_96 : decode bQ_step 96 = .ok (.aload_n 0, 1) := by decide +kernel
theorem dQ_step_97 : decode bQ_step 97 = .ok (.invokevirtual 218, 3) := by decide +kernel
theorem dQ_step_100 : decode bQ_step 100 = .ok (.aload_n 0, 1) := by decide +kernel
theorem dQ_step_101 : decode bQ_step 101 = .ok (.aload_n 0, 1) := by decide +kernel
theorem dQ_step_102 : decode bQ_step 102 = .ok (.getfield 72, 3) := by decide +kernel
theorem dQ_step_105 : decode bQ_step 105 = .ok (.ifCond .ne 7, 3) := by decide +kernel
theorem dQ_step_108 : decode bQ_step 108 = .ok (.iload_n 2, 1) := by decide +kernel
theorem dQ_step_109 : decode bQ_step 109 = .ok (.ifCond .eq 7, 3) := by decide +kernel
theorem dQ_step_112 : decode bQ_step 112 = .ok (.iconst 1, 1) := by decide +kernel
theorem dQ_step_113 : decode bQ_step 113 = .ok (.goto 4, 3) := by decide +kernel
theorem dQ_step_116 : decode bQ_step 116 = .ok (.iconst 0, 1) := by decide +kernel
theorem dQ_step_117 : decode bQ_step 117 = .ok (.putfield 72, 3) := by decide +kernel
theorem dQ_step_120 : decode bQ_step 120 = .ok (.return_, 1) := by decide +kernel
theorem dQ_restart_0 : decode bQ_restart 0 = .ok (.aload_n 0, 1) := by decide +kernel
theorem dQ_restart_1 : decode bQ_restart 1 = .ok (.iconst 0, 1) := by decide +kernel
theorem dQ_restart_2 : decode bQ_restart 2 = .ok (.putfield 49, 3) := by decide +kernel
theorem dQ_restart_5 : decode bQ_restart 5 = .ok (.aload_n 0, 1) := by decide +kernel
theorem dQ_restart_6 : decode bQ_restart 6 = .ok (.invokevirtual 46, 3) := by decide +kernel
theorem dQ_restart_9 : decode bQ_restart 9 = .ok (.return_, 1) := by decide +kernel
theorem dQ_raise_0 : decode bQ_raise 0 = .ok (.aload_n 0, 1) := by decide +kernel
theorem dQ_raise_1 : decode bQ_raise 1 = .ok (.iload_n 1, 1) := by decide +kernel
theorem dQ_raise_2 : decode bQ_raise 2 = .ok (.iconst 0, 1) := by decide +kernel
theorem dQ_raise_3 : decode bQ_raise 3 = .ok (.iconst 3, 1) := by decide +kernel
theorem dQ_raise_4 : decode bQ_raise 4 = .ok (.invokestatic 96, 3) := by decide +kernel
theorem dQ_raise_7 : decode bQ_raise 7 = .ok (.ifCond .eq 7, 3) := by decide +kernel
theorem dQ_raise_10 : decode bQ_raise 10 = .ok (.iconst 1, 1) := by decide +kernel
theorem dQ_raise_11 : decode bQ_raise 11 = .ok (.goto 4, 3) := by decide +kernel
theorem dQ_raise_14 : decode bQ_raise 14 = .ok (.iconst 0, 1) := by decide +kernel
theorem dQ_raise_15 : decode bQ_raise 15 = .ok (.putfield 49, 3) := by decide +kernel
theorem dQ_raise_18 : decode bQ_raise 18 = .ok (.aload_n 0, 1) := by decide +kernel
theorem dQ_raise_19 : decode bQ_raise 19 = .ok (.getfield 49, 3) := by decide +kernel
theorem dQ_raise_22 : decode bQ_raise 22 = .ok (.ifCond .ne 17, 3) := by decide +kernel
theorem dQ_raise_25 : decode bQ_raise 25 = .ok (.aload_n 0, 1) := by decide +kernel
theorem dQ_raise_26 : decode bQ_raise 26 = .ok (.getfield 37, 3) := by decide +kernel
theorem dQ_raise_29 : decode bQ_raise 29 = .ok (.sipush 703, 3) := by decide +kernel
theorem dQ_raise_32 : decode bQ_raise 32 = .ok (.dup2, 1) := by decide +kernel
theorem dQ_raise_33 : decode bQ_raise 33 = .ok (.iaload, 1) := by decide +kernel
theorem dQ_raise_34 : decode bQ_raise 34 = .ok (.iconst 1, 1) := by decide +kernel
theorem dQ_raise_35 : decode bQ_raise 35 = .ok (.iload_n 1, 1) := by decide +kernel
theorem dQ_raise_36 : decode bQ_raise 36 = .ok (.ishl, 1) := by decide +kernel
theorem dQ_raise_37 : decode bQ_raise 37 = .ok (.ior, 1) := by decide +kernel
theorem dQ_raise_38 : decode bQ_raise 38 = .ok (.iastore, 1) := by decide +kernel
theorem dQ_raise_39 : decode bQ_raise 39 = .ok (.return_, 1) := by decide +kernel
theorem dQ_run_0 : decode bQ_run 0 = .ok (.aload_n 0, 1) := by decide +kernel
theorem dQ_run_1 : decode bQ_run 1 = .ok (.getfield 143, 3) := by decide +kernel
theorem dQ_run_4 : decode bQ_run 4 = .ok (.ifCond .ne 9, 3) := by decide +kernel
theorem dQ_run_7 : decode bQ_run 7 = .ok (.aload_n 0, 1) := by decide +kernel
theorem dQ_run_8 : decode bQ_run 8 = .ok (.iconst 1, 1) := by decide +kernel
theorem dQ_run_9 : decode bQ_run 9 = .ok (.invokevirtual 146, 3) := by decide +kernel
theorem dQ_run_12 : decode bQ_run 12 = .ok (.ireturn, 1) := by decide +kernel
theorem dQ_run_13 : decode bQ_run 13 = .ok (.aload_n 0, 1) := by decide +kernel
theorem dQ_run_14 : decode bQ_run 14 = .ok (.iconst 0, 1) := by decide +kernel
theorem dQ_run_15 : decode bQ_run 15 = .ok (.putfield 49, 3) := by decide +kernel
theorem dQ_run_18 : decode bQ_run 18 = .ok (.iconst 0, 1) := by decide +kernel
theorem dQ_run_19 : decode bQ_run 19 = .ok (.istore_n 2, 1) := by decide +kernel
theorem dQ_run_20 : decode bQ_run 20 = .ok (.iload_n 2, 1) := by decide +kernel
theorem dQ_run_21 : decode bQ_run 21 = .ok (.iload_n 1, 1) := by decide +kernel
theorem dQ_run_22 : decode bQ_run 22 = .ok (.if_icmp .ge 28, 3) := by decide +kernel
theorem dQ_run_25 : decode bQ_run 25 = .ok (.iload_n 2, 1) := by decide +kernel
theorem dQ_run_26 : decode bQ_run 26 = .ok (.sipush 2000, 3) := by decide +kernel
theorem dQ_run_29 : decode bQ_run 29 = .ok (.if_icmp .ge 21, 3) := by decide +kernel
theorem dQ_run_32 : decode bQ_run 32 = .ok (.aload_n 0, 1) := by decide +kernel
theorem dQ_run_33 : decode bQ_run 33 = .ok (.getfield 90, 3) := by decide +kernel
theorem dQ_run_36 : decode bQ_run 36 = .ok (.iconst 2, 1) := by decide +kernel
theorem dQ_run_37 : decode bQ_run 37 = .ok (.if_icmp .ge 13, 3) := by decide +kernel
theorem dQ_run_40 : decode bQ_run 40 = .ok (.aload_n 0, 1) := by decide +kernel
theorem dQ_run_41 : decode bQ_run 41 = .ok (.invokevirtual 221, 3) := by decide +kernel
theorem dQ_run_44 : decode bQ_run 44 = .ok (.iinc 2 1, 3) := by decide +kernel
theorem dQ_run_47 : decode bQ_run 47 = .ok (.goto (-27), 3) := by decide +kernel
theorem dQ_run_50 : decode bQ_run 50 = .ok (.iload_n 2, 1) := by decide +kernel
theorem dQ_run_51 : decode bQ_run 51 = .ok (.ireturn, 1) := by decide +kernel
theorem dQ_state_0 : decode bQ_state 0 = .ok (.aload_n 0, 1) := by decide +kernel
theorem dQ_state_1 : decode bQ_state 1 = .ok (.iconst 0, 1) := by decide +kernel
theorem dQ_state_2 : decode bQ_state 2 = .ok (.putfield 49, 3) := by decide +kernel
theorem dQ_state_5 : decode bQ_state 5 = .ok (.aload_n 0, 1) := by decide +kernel
theorem dQ_state_6 : decode bQ_state 6 = .ok (.getfield 90, 3) := by decide +kernel
theorem dQ_state_9 : decode bQ_state 9 = .ok (.ireturn, 1) := by decide +kernel
theorem dQ_register_0 : decode bQ_register 0 = .ok (.iload_n 1, 1) := by decide +kernel
theorem dQ_register_1 : decode bQ_register 1 = .ok (.iconst 0, 1) := by decide +kernel
theorem dQ_register_2 : decode bQ_register 2 = .ok (.bipush 12, 2) := by decide +kernel
theorem dQ_register_4 : decode bQ_register 4 = .ok (.invokestatic 96, 3) := by decide +kernel
theorem dQ_register_7 : decode bQ_register 7 = .ok (.ifCond .ne 16, 3) := by decide +kernel
theorem dQ_register_10 : decode bQ_register 10 = .ok (.iload_n 1, 1) := by decide +kernel
theorem dQ_register_11 : decode bQ_register 11 = .ok (.bipush 6, 2) := by decide +kernel
theorem dQ_register_13 : decode bQ_register 13 = .ok (.if_icmp .ne 16, 3) := by decide +kernel
theorem dQ_register_16 : decode bQ_register 16 = .ok (.aload_n 0, 1) := by decide +kernel
theorem dQ_register_17 : decode bQ_register 17 = .ok (.getfield 143, 3) := by decide +kernel
theorem dQ_register_20 : decode bQ_register 20 = .ok (.ifCond .ne 9, 3) := by decide +kernel
theorem dQ_register_23 : decode bQ_register 23 = .ok (.aload_n 0, 1) := by decide +kernel
theorem dQ_register_24 : decode bQ_register 24 = .ok (.iconst 1, 1) := by decide +kernel
theorem dQ_register_25 : decode bQ_register 25 = .ok (.invokevirtual 146, 3) := by decide +kernel
theorem dQ_register_28 : decode bQ_register 28 = .ok (.ireturn, 1) := by decide +kernel
theorem dQ_register_29 : decode bQ_register 29 = .ok (.aload_n 0, 1) := by decide +kernel
theorem dQ_register_30 : decode bQ_register 30 = .ok (.iconst 0, 1) := by decide +kernel
theorem dQ_register_31 : decode bQ_register 31 = .ok (.putfield 49, 3) := by decide +kernel
theorem dQ_register_34 : decode bQ_register 34 = .ok (.iload_n 1, 1) := by decide +kernel
theorem dQ_register_35 : decode bQ_register 35 = .ok (.bipush 8, 2) := by decide +kernel
theorem dQ_register_37 : decode bQ_register 37 = .ok (.if_icmp .ge 9, 3) := by decide +kernel
theorem dQ_register_40 : decode bQ_register 40 = .ok (.aload_n 0, 1) := by decide +kernel
theorem dQ_register_41 : decode bQ_register 41 = .ok (.iload_n 1, 1) := by decide +kernel
theorem dQ_register_42 : decode bQ_register 42 = .ok (.invokevirtual 169, 3) := by decide +kernel
theorem dQ_register_45 : decode bQ_register 45 = .ok (.ireturn, 1) := by decide +kernel
theorem dQ_register_46 : decode bQ_register 46 = .ok (.iload_n 1, 1) := by decide +kernel
theorem dQ_register_47 : decode bQ_register 47 = .ok (.bipush 10, 2) := by decide +kernel
theorem dQ_register_49 : decode bQ_register 49 = .ok (.if_icmp .ge 21, 3) := by decide +kernel
theorem dQ_register_52 : decode bQ_register 52 = .ok (.iload_n 1, 1) := by decide +kernel
theorem dQ_register_53 : decode bQ_register 53 = .ok (.bipush 8, 2) := by decide +kernel
theorem dQ_register_55 : decode bQ_register 55 = .ok (.if_icmp .ne 10, 3) := by decide +kernel
theorem dQ_register_58 : decode bQ_register 58 = .ok (.aload_n 0, 1) := by decide +kernel
theorem dQ_register_59 : decode bQ_register 59 = .ok (.getfield 53, 3) := by decide +kernel
theorem dQ_register_62 : decode bQ_register 62 = .ok (.goto 7, 3) := by decide +kernel
theorem dQ_register_65 : decode bQ_register 65 = .ok (.aload_n 0, 1) := by decide +kernel
theorem dQ_register_66 : decode bQ_register 66 = .ok (.getfield 56, 3) := by decide +kernel
theorem dQ_register_69 : decode bQ_register 69 = .ok (.ireturn, 1) := by decide +kernel
theorem dQ_register_70 : decode bQ_register 70 = .ok (.aload_n 0, 1) := by decide +kernel
theorem dQ_register_71 : decode bQ_register 71 = .ok (.getfield 59, 3) := by decide +kernel
theorem dQ_register_74 : decode bQ_register 74 = .ok (.ifCond .eq 8, 3) := by decide +kernel
theorem dQ_register_77 : decode bQ_register 77 = .ok (.bipush 8, 2) := by decide +kernel
theorem dQ_register_79 : decode bQ_register 79 = .ok (.goto 4, 3) := by decide +kernel
theorem dQ_register_82 : decode bQ_register 82 = .ok (.iconst 0, 1) := by decide +kernel
theorem dQ_register_83 : decode bQ_register 83 = .ok (.aload_n 0, 1) := by decide +kernel
theorem dQ_register_84 : decode bQ_register 84 = .ok (.getfield 63, 3) := by decide +kernel
theorem dQ_register_87 : decode bQ_register 87 = .ok (.ifCond .eq 7, 3) := by decide +kernel
theorem dQ_register_90 : decode bQ_register 90 = .ok (.iconst 4, 1) := by decide +kernel
theorem dQ_register_91 : decode bQ_register 91 = .ok (.goto 4, 3) := by decide +kernel
theorem dQ_register_94 : decode bQ_register 94 = .ok (.iconst 0, 1) := by decide +kernel
theorem dQ_register_95 : decode bQ_register 95 = .ok (.iadd, 1) := by decide +kernel
theorem dQ_register_96 : decode bQ_register 96 = .ok (.aload_n 0, 1) := by decide +kernel
theorem dQ_register_97 : decode bQ_register 97 = .ok (.getfield 66, 3) := by decide +kernel
theorem dQ_register_100 : decode bQ_register 100 = .ok (.ifCond .eq 7, 3) := by decide +kernel
theorem dQ_register_103 : decode bQ_register 103 = .ok (.iconst 2, 1) := by decide +kernel
theorem dQ_register_104 : decode bQ_register 104 = .ok (.goto 4, 3) := by decide +kernel
theorem dQ_register_107 : decode bQ_register 107 = .ok (.iconst 0, 1) := by decide +kernel
theorem dQ_register_108 : decode bQ_register 108 = .ok (.iadd, 1) := by decide +kernel
theorem dQ_register_109 : decode bQ_register 109 = .ok (.aload_n 0, 1) := by decide +kernel
theorem dQ_register_110 : decode bQ_register 110 = .ok (.getfield 69, 3) := by decide +kernel
theorem dQ_register_113 : decode bQ_register 113 = .ok (.ifCond .eq 7, 3) := by decide +kernel
theorem dQ_register_116 : decode bQ_register 116 = .ok (.iconst 1, 1) := by decide +kernel
theorem dQ_register_117 : decode bQ_register 117 = .ok (.goto 4, 3) := by decide +kernel
theorem dQ_register_120 : decode bQ_register 120 = .ok (.iconst 0, 1) := by decide +kernel
theorem dQ_register_121 : decode bQ_register 121 = .ok (.iadd, 1) := by decide +kernel
theorem dQ_register_122 : decode bQ_register 122 = .ok (.istore_n 2, 1) := by decide +kernel
theorem dQ_register_123 : decode bQ_register 123 = .ok (.iload_n 1, 1) := by decide +kernel
theorem dQ_register_124 : decode bQ_register 124 = .ok (.bipush 10, 2) := by decide +kernel
theorem dQ_register_126 : decode bQ_register 126 = .ok (.if_icmp .ne 7, 3) := by decide +kernel
theorem dQ_register_129 : decode bQ_register 129 = .ok (.iload_n 2, 1) := by decide +kernel
theorem dQ_register_130 : decode bQ_register 130 = .ok (.goto 56, 3) := by decide +kernel
theorem dQ_register_133 : decode bQ_register 133 = .ok (.iload_n 1, 1) := by decide +kernel
theorem dQ_register_134 : decode bQ_register 134 = .ok (.bipush 11, 2) := by decide +kernel
theorem dQ_register_136 : decode bQ_register 136 = .ok (.if_icmp .ne 38, 3) := by decide +kernel
theorem dQ_register_139 : decode bQ_register 139 = .ok (.aload_n 0, 1) := by decide +kernel
theorem dQ_register_140 : decode bQ_register 140 = .ok (.getfield 78, 3) := by decide +kernel
theorem dQ_register_143 : decode bQ_register 143 = .ok (.ifCond .eq 8, 3) := by decide +kernel
theorem dQ_register_146 : decode bQ_register 146 = .ok (.bipush 16, 2) := by decide +kernel
theorem dQ_register_148 : decode bQ_register 148 = .ok (.goto 4, 3) := by decide +kernel
theorem dQ_register_151 : decode bQ_register 151 = .ok (.iconst 0, 1) := by decide +kernel
theorem dQ_register_152 : decode bQ_register 152 = .ok (.iconst 4, 1) := by decide +kernel
theorem dQ_register_153 : decode bQ_register 153 = .ok (.aload_n 0, 1) := by decide +kernel
theorem dQ_register_154 : decode bQ_register 154 = .ok (.getfield 81, 3) := by decide +kernel
theorem dQ_register_157 : decode bQ_register 157 = .ok (.imul, 1) := by decide +kernel
theorem dQ_register_158 : decode bQ_register 158 = .ok (.iadd, 1) := by decide +kernel
theorem dQ_register_159 : decode bQ_register 159 = .ok (.iconst 2, 1) := by decide +kernel
theorem dQ_register_160 : decode bQ_register 160 = .ok (.aload_n 0, 1) := by decide +kernel
theorem dQ_register_161 : decode bQ_register 161 = .ok (.getfield 84, 3) := by decide +kernel
theorem dQ_register_164 : decode bQ_register 164 = .ok (.imul, 1) := by decide +kernel
theorem dQ_register_165 : decode bQ_register 165 = .ok (.iadd, 1) := by decide +kernel
theorem dQ_register_166 : decode bQ_register 166 = .ok (.aload_n 0, 1) := by decide +kernel
theorem dQ_register_167 : decode bQ_register 167 = .ok (.getfield 87, 3) := by decide +kernel
theorem dQ_register_170 : decode bQ_register 170 = .ok (.iadd, 1) := by decide +kernel
theorem dQ_register_171 : decode bQ_register 171 = .ok (.goto 15, 3) := by decide +kernel
theorem dQ_register_174 : decode bQ_register 174 = .ok (.aload_n 0, 1) := by decide +kernel
theorem dQ_register_175 : decode bQ_register 175 = .ok (.getfield 72, 3) := by decide +kernel
theorem dQ_register_178 : decode bQ_register 178 = .ok (.ifCond .eq 7, 3) := by decide +kernel
theorem dQ_register_181 : decode bQ_register 181 = .ok (.iconst 1, 1) := by decide +kernel
theorem dQ_register_182 : decode bQ_register 182 = .ok (.goto 4, 3) := by decide +kernel
theorem dQ_register_185 : decode bQ_register 185 = .ok (.iconst 0, 1) := by decide +kernel
theorem dQ_register_186 : decode bQ_register 186 = .ok (.ireturn, 1) := by decide +kernel
theorem dQ_peek_0 : decode bQ_peek 0 = .ok (.aload_n 0, 1) := by decide +kernel
theorem dQ_peek_1 : decode bQ_peek 1 = .ok (.getfield 143, 3) := by decide +kernel
theorem dQ_peek_4 : decode bQ_peek 4 = .ok (.ifCond .eq 14, 3) := by decide +kernel
theorem dQ_peek_7 : decode bQ_peek 7 = .ok (.iload_n 1, 1) := by decide +kernel
theorem dQ_peek_8 : decode bQ_peek 8 = .ok (.iconst 0, 1) := by decide +kernel
theorem dQ_peek_9 : decode bQ_peek 9 = .ok (.sipush 255, 3) := by decide +kernel
theorem dQ_peek_12 : decode bQ_peek 12 = .ok (.invokestatic 96, 3) := by decide +kernel
theorem dQ_peek_15 : decode bQ_peek 15 = .ok (.ifCond .eq 9, 3) := by decide +kernel
theorem dQ_peek_18 : decode bQ_peek 18 = .ok (.aload_n 0, 1) := by decide +kernel
theorem dQ_peek_19 : decode bQ_peek 19 = .ok (.iconst 1, 1) := by decide +kernel
theorem dQ_peek_20 : decode bQ_peek 20 = .ok (.invokevirtual 146, 3) := by decide +kernel
theorem dQ_peek_23 : decode bQ_peek 23 = .ok (.ireturn, 1) := by decide +kernel
theorem dQ_peek_24 : decode bQ_peek 24 = .ok (.aload_n 0, 1) := by decide +kernel
theorem dQ_peek_25 : decode bQ_peek 25 = .ok (.iconst 0, 1) := by decide +kernel
theorem dQ_peek_26 : decode bQ_peek 26 = .ok (.putfield 49, 3) := by decide +kernel
theorem dQ_peek_29 : decode bQ_peek 29 = .ok (.aload_n 0, 1) := by decide +kernel
theorem dQ_peek_30 : decode bQ_peek 30 = .ok (.iload_n 1, 1) := by decide +kernel
theorem dQ_peek_31 : decode bQ_peek 31 = .ok (.invokevirtual 152, 3) := by decide +kernel
theorem dQ_peek_34 : decode bQ_peek 34 = .ok (.ireturn, 1) := by decide +kernel
theorem dQ_sent_0 : decode bQ_sent 0 = .ok (.aload_n 0, 1) := by decide +kernel
theorem dQ_sent_1 : decode bQ_sent 1 = .ok (.iconst 0, 1) := by decide +kernel
theorem dQ_sent_2 : decode bQ_sent 2 = .ok (.putfield 49, 3) := by decide +kernel
theorem dQ_sent_5 : decode bQ_sent 5 = .ok (.aload_n 0, 1) := by decide +kernel
theorem dQ_sent_6 : decode bQ_sent 6 = .ok (.getfield 93, 3) := by decide +kernel
theorem dQ_sent_9 : decode bQ_sent 9 = .ok (.ireturn, 1) := by decide +kernel
theorem dQ_byteSent_0 : decode bQ_byteSent 0 = .ok (.iload_n 1, 1) := by decide +kernel
theorem dQ_byteSent_1 : decode bQ_byteSent 1 = .ok (.iconst 0, 1) := by decide +kernel
theorem dQ_byteSent_2 : decode bQ_byteSent 2 = .ok (.aload_n 0, 1) := by decide +kernel
theorem dQ_byteSent_3 : decode bQ_byteSent 3 = .ok (.getfield 93, 3) := by decide +kernel
theorem dQ_byteSent_6 : decode bQ_byteSent 6 = .ok (.iconst 1, 1) := by decide +kernel
theorem dQ_byteSent_7 : decode bQ_byteSent 7 = .ok (.isub, 1) := by decide +kernel
theorem dQ_byteSent_8 : decode bQ_byteSent 8 = .ok (.invokestatic 96, 3) := by decide +kernel
theorem dQ_byteSent_11 : decode bQ_byteSent 11 = .ok (.ifCond .ne 9, 3) := by decide +kernel
theorem dQ_byteSent_14 : decode bQ_byteSent 14 = .ok (.iload_n 1, 1) := by decide +kernel
theorem dQ_byteSent_15 : decode bQ_byteSent 15 = .ok (.bipush 99, 2) := by decide +kernel
theorem dQ_byteSent_17 : decode bQ_byteSent 17 = .ok (.if_icmp .le 9, 3) := by decide +kernel
theorem dQ_byteSent_20 : decode bQ_byteSent 20 = .ok (.aload_n 0, 1) := by decide +kernel
theorem dQ_byteSent_21 : decode bQ_byteSent 21 = .ok (.iconst 1, 1) := by decide +kernel
theorem dQ_byteSent_22 : decode bQ_byteSent 22 = .ok (.invokevirtual 146, 3) := by decide +kernel
theorem dQ_byteSent_25 : decode bQ_byteSent 25 = .ok (.ireturn, 1) := by decide +kernel
theorem dQ_byteSent_26 : decode bQ_byteSent 26 = .ok (.aload_n 0, 1) := by decide +kernel
theorem dQ_byteSent_27 : decode bQ_byteSent 27 = .ok (.iconst 0, 1) := by decide +kernel
theorem dQ_byteSent_28 : decode bQ_byteSent 28 = .ok (.putfield 49, 3) := by decide +kernel
theorem dQ_byteSent_31 : decode bQ_byteSent 31 = .ok (.aload_n 0, 1) := by decide +kernel
theorem dQ_byteSent_32 : decode bQ_byteSent 32 = .ok (.getfield 43, 3) := by decide +kernel
theorem dQ_byteSent_35 : decode bQ_byteSent 35 = .ok (.iload_n 1, 1) := by decide +kernel
theorem dQ_byteSent_36 : decode bQ_byteSent 36 = .ok (.iaload, 1) := by decide +kernel
theorem dQ_byteSent_37 : decode bQ_byteSent 37 = .ok (.ireturn, 1) := by decide +kernel
theorem dK_init_0 : decode bK_init 0 = .ok (.aload_n 0, 1) := by decide +kernel
theorem dK_init_1 : decode bK_init 1 = .ok (.invokespecial 3, 3) := by decide +kernel
theorem dK_init_4 : decode bK_init 4 = .ok (.aload_n 0, 1) := by decide +kernel
theorem dK_init_5 : decode bK_init 5 = .ok (.sipush 512, 3) := by decide +kernel
theorem dK_init_8 : decode bK_init 8 = .ok (.newarray .int, 2) := by decide +kernel
theorem dK_init_10 : decode bK_init 10 = .ok (.putfield 9, 3) := by decide +kernel
theorem dK_init_13 : decode bK_init 13 = .ok (.return_, 1) := by decide +kernel
theorem dK_isMade_0 : decode bK_isMade 0 = .ok (.aload_n 0, 1) := by decide +kernel
theorem dK_isMade_1 : decode bK_isMade 1 = .ok (.getfield 15, 3) := by decide +kernel
theorem dK_isMade_4 : decode bK_isMade 4 = .ok (.ifCond .eq 7, 3) := by decide +kernel
theorem dK_isMade_7 : decode bK_isMade 7 = .ok (.iconst 1, 1) := by decide +kernel
theorem dK_isMade_8 : decode bK_isMade 8 = .ok (.goto 4, 3) := by decide +kernel
theorem dK_isMade_11 : decode bK_isMade 11 = .ok (.iconst 0, 1) := by decide +kernel
theorem dK_isMade_12 : decode bK_isMade 12 = .ok (.ireturn, 1) := by decide +kernel
theorem dK_size_0 : decode bK_size 0 = .ok (.aload_n 0, 1) := by decide +kernel
theorem dK_size_1 : decode bK_size 1 = .ok (.getfield 15, 3) := by decide +kernel
theorem dK_size_4 : decode bK_size 4 = .ok (.bipush 64, 2) := by decide +kernel
theorem dK_size_6 : decode bK_size 6 = .ok (.imul, 1) := by decide +kernel
theorem dK_size_7 : decode bK_size 7 = .ok (.ireturn, 1) := by decide +kernel
theorem dK_at_0 : decode bK_at 0 = .ok (.aload_n 0, 1) := by decide +kernel
theorem dK_at_1 : decode bK_at 1 = .ok (.getfield 9, 3) := by decide +kernel
theorem dK_at_4 : decode bK_at 4 = .ok (.iload_n 1, 1) := by decide +kernel
theorem dK_at_5 : decode bK_at 5 = .ok (.aload_n 0, 1) := by decide +kernel
theorem dK_at_6 : decode bK_at 6 = .ok (.getfield 15, 3) := by decide +kernel
theorem dK_at_9 : decode bK_at 9 = .ok (.iconst 1, 1) := by decide +kernel
theorem dK_at_10 : decode bK_at 10 = .ok (.isub, 1) := by decide +kernel
theorem dK_at_11 : decode bK_at 11 = .ok (.iand, 1) := by decide +kernel
theorem dK_at_12 : decode bK_at 12 = .ok (.bipush 7, 2) := by decide +kernel
theorem dK_at_14 : decode bK_at 14 = .ok (.iand, 1) := by decide +kernel
theorem dK_at_15 : decode bK_at 15 = .ok (.bipush 64, 2) := by decide +kernel
theorem dK_at_17 : decode bK_at 17 = .ok (.imul, 1) := by decide +kernel
theorem dK_at_18 : decode bK_at 18 = .ok (.iload_n 2, 1) := by decide +kernel
theorem dK_at_19 : decode bK_at 19 = .ok (.iadd, 1) := by decide +kernel
theorem dK_at_20 : decode bK_at 20 = .ok (.iaload, 1) := by decide +kernel
theorem dK_at_21 : decode bK_at 21 = .ok (.ireturn, 1) := by decide +kernel
theorem dK_make_0 : decode bK_make 0 = .ok (.aload_n 0, 1) := by decide +kernel
theorem dK_make_1 : decode bK_make 1 = .ok (.iload_n 3, 1) := by decide +kernel
theorem dK_make_2 : decode bK_make 2 = .ok (.putfield 15, 3) := by decide +kernel
theorem dK_make_5 : decode bK_make 5 = .ok (.iconst 0, 1) := by decide +kernel
theorem dK_make_6 : decode bK_make 6 = .ok (.istore 4, 2) := by decide +kernel
theorem dK_make_8 : decode bK_make 8 = .ok (.iload 4, 2) := by decide +kernel
theorem dK_make_10 : decode bK_make 10 = .ok (.aload_n 0, 1) := by decide +kernel
theorem dK_make_11 : decode bK_make 11 = .ok (.invokevirtual 19, 3) := by decide +kernel
theorem dK_make_14 : decode bK_make 14 = .ok (.if_icmp .ge 19, 3) := by decide +kernel
theorem dK_make_17 : decode bK_make 17 = .ok (.aload_n 0, 1) := by decide +kernel
theorem dK_make_18 : decode bK_make 18 = .ok (.getfield 9, 3) := by decide +kernel
theorem dK_make_21 : decode bK_make 21 = .ok (.iload 4, 2) := by decide +kernel
theorem dK_make_23 : decode bK_make 23 = .ok (.sipush 255, 3) := by decide +kernel
theorem dK_make_26 : decode bK_make 26 = .ok (.iastore, 1) := by decide +kernel
theorem dK_make_27 : decode bK_make 27 = .ok (.iinc 4 1, 3) := by decide +kernel
theorem dK_make_30 : decode bK_make 30 = .ok (.goto (-22), 3) := by decide +kernel
theorem dK_make_33 : decode bK_make 33 = .ok (.iconst 0, 1) := by decide +kernel
theorem dK_make_34 : decode bK_make 34 = .ok (.istore 4, 2) := by decide +kernel
theorem dK_make_36 : decode bK_make 36 = .ok (.iload 4, 2) := by decide +kernel
theorem dK_make_38 : decode bK_make 38 = .ok (.aload_n 1, 1) := by decide +kernel
theorem dK_make_39 : decode bK_make 39 = .ok (.getfield 23, 3) := by decide +kernel
theorem dK_make_42 : decode bK_make 42 = .ok (.if_icmp .ge 17, 3) := by decide +kernel
theorem dK_make_45 : decode bK_make 45 = .ok (.aload_n 0, 1) := by decide +kernel
theorem dK_make_46 : decode bK_make 46 = .ok (.aload_n 1, 1) := by decide +kernel
theorem dK_make_47 : decode bK_make 47 = .ok (.aload_n 2, 1) := by decide +kernel
theorem dK_make_48 : decode bK_make 48 = .ok (.iload 4, 2) := by decide +kernel
theorem dK_make_50 : decode bK_make 50 = .ok (.invokevirtual 28, 3) := by decide +kernel
theorem dK_make_53 : decode bK_make 53 = .ok (.iinc 4 1, 3) := by decide +kernel
theorem dK_make_56 : decode bK_make 56 = .ok (.goto (-20), 3) := by decide +kernel
theorem dK_make_59 : decode bK_make 59 = .ok (.aload_n 0, 1) := by decide +kernel
theorem dK_make_60 : decode bK_make 60 = .ok (.aload_n 2, 1) := by decide +kernel
theorem dK_make_61 : decode bK_make 61 = .ok (.iconst 0, 1) := by decide +kernel
theorem dK_make_62 : decode bK_make 62 = .ok (.invokevirtual 32, 3) := by decide +kernel
theorem dK_make_65 : decode bK_make 65 = .ok (.invokevirtual 38, 3) := by decide +kernel
theorem dK_make_68 : decode bK_make 68 = .ok (.return_, 1) := by decide +kernel
theorem dK_verdict_0 : decode bK_verdict 0 = .ok (.iconst 2, 1) := by decide +kernel
theorem dK_verdict_1 : decode bK_verdict 1 = .ok (.istore_n 1, 1) := by decide +kernel
theorem dK_verdict_2 : decode bK_verdict 2 = .ok (.iload_n 1, 1) := by decide +kernel
theorem dK_verdict_3 : decode bK_verdict 3 = .ok (.bipush 6, 2) := by decide +kernel
theorem dK_verdict_5 : decode bK_verdict 5 = .ok (.if_icmp .ge 25, 3) := by decide +kernel
theorem dK_verdict_8 : decode bK_verdict 8 = .ok (.aload_n 0, 1) := by decide +kernel
theorem dK_verdict_9 : decode bK_verdict 9 = .ok (.getfield 9, 3) := by decide +kernel
theorem dK_verdict_12 : decode bK_verdict 12 = .ok (.iload_n 1, 1) := by decide +kernel
theorem dK_verdict_13 : decode bK_verdict 13 = .ok (.iaload, 1) := by decide +kernel
theorem dK_verdict_14 : decode bK_verdict 14 = .ok (.getstatic 42, 3) := by decide +kernel
theorem dK_verdict_17 : decode bK_verdict 17 = .ok (.iload_n 1, 1) := by decide +kernel
theorem dK_verdict_18 : decode bK_verdict 18 = .ok (.iaload, 1) := by decide +kernel
theorem dK_verdict_19 : decode bK_verdict 19 = .ok (.if_icmp .eq 5, 3) := by decide +kernel
theorem dK_verdict_22 : decode bK_verdict 22 = .ok (.iconst 1, 1) := by decide +kernel
theorem dK_verdict_23 : decode bK_verdict 23 = .ok (.ireturn, 1) := by decide +kernel
theorem dK_verdict_24 : decode bK_verdict 24 = .ok (.iinc 1 1, 3) := by decide +kernel
theorem dK_verdict_27 : decode bK_verdict 27 = .ok (.goto (-25), 3) := by decide +kernel
theorem dK_verdict_30 : decode bK_verdict 30 = .ok (.aload_n 0, 1) := by decide +kernel
theorem dK_verdict_31 : decode bK_verdict 31 = .ok (.getfield 9, 3) := by decide +kernel
theorem dK_verdict_34 : decode bK_verdict 34 = .ok (.bipush 6, 2) := by decide +kernel
theorem dK_verdict_36 : decode bK_verdict 36 = .ok (.iaload, 1) := by decide +kernel
theorem dK_verdict_37 : decode bK_verdict 37 = .ok (.aload_n 0, 1) := by decide +kernel
theorem dK_verdict_38 : decode bK_verdict 38 = .ok (.invokevirtual 45, 3) := by decide +kernel
theorem dK_verdict_41 : decode bK_verdict 41 = .ok (.if_icmp .eq 5, 3) := by decide +kernel
theorem dK_verdict_44 : decode bK_verdict 44 = .ok (.iconst 1, 1) := by decide +kernel
theorem dK_verdict_45 : decode bK_verdict 45 = .ok (.ireturn, 1) := by decide +kernel
theorem dK_verdict_46 : decode bK_verdict 46 = .ok (.aload_n 0, 1) := by decide +kernel
theorem dK_verdict_47 : decode bK_verdict 47 = .ok (.getfield 9, 3) := by decide +kernel
theorem dK_verdict_50 : decode bK_verdict 50 = .ok (.bipush 13, 2) := by decide +kernel
theorem dK_verdict_52 : decode bK_verdict 52 = .ok (.iaload, 1) := by decide +kernel
theorem dK_verdict_53 : decode bK_verdict 53 = .ok (.aload_n 0, 1) := by decide +kernel
theorem dK_verdict_54 : decode bK_verdict 54 = .ok (.invokevirtual 48, 3) := by decide +kernel
theorem dK_verdict_57 : decode bK_verdict 57 = .ok (.if_icmp .eq 5, 3) := by decide +kernel
theorem dK_verdict_60 : decode bK_verdict 60 = .ok (.iconst 2, 1) := by decide +kernel
theorem dK_verdict_61 : decode bK_verdict 61 = .ok (.ireturn, 1) := by decide +kernel
theorem dK_verdict_62 : decode bK_verdict 62 = .ok (.aload_n 0, 1) := by decide +kernel
theorem dK_verdict_63 : decode bK_verdict 63 = .ok (.getfield 9, 3) := by decide +kernel
theorem dK_verdict_66 : decode bK_verdict 66 = .ok (.bipush 14, 2) := by decide +kernel
theorem dK_verdict_68 : decode bK_verdict 68 = .ok (.iaload, 1) := by decide +kernel
theorem dK_verdict_69 : decode bK_verdict 69 = .ok (.sipush 256, 3) := by decide +kernel
theorem dK_verdict_72 : decode bK_verdict 72 = .ok (.imul, 1) := by decide +kernel
theorem dK_verdict_73 : decode bK_verdict 73 = .ok (.aload_n 0, 1) := by decide +kernel
theorem dK_verdict_74 : decode bK_verdict 74 = .ok (.getfield 9, 3) := by decide +kernel
theorem dK_verdict_77 : decode bK_verdict 77 = .ok (.bipush 15, 2) := by decide +kernel
theorem dK_verdict_79 : decode bK_verdict 79 = .ok (.iaload, 1) := by decide +kernel
theorem dK_verdict_80 : decode bK_verdict 80 = .ok (.iadd, 1) := by decide +kernel
theorem dK_verdict_81 : decode bK_verdict 81 = .ok (.istore_n 1, 1) := by decide +kernel
theorem dK_verdict_82 : decode bK_verdict 82 = .ok (.iload_n 1, 1) := by decide +kernel
theorem dK_verdict_83 : decode bK_verdict 83 = .ok (.aload_n 0, 1) := by decide +kernel
theorem dK_verdict_84 : decode bK_verdict 84 = .ok (.invokevirtual 51, 3) := by decide +kernel
theorem dK_verdict_87 : decode bK_verdict 87 = .ok (.if_icmp .ne 7, 3) := by decide +kernel
theorem dK_verdict_90 : decode bK_verdict 90 = .ok (.iconst 0, 1) := by decide +kernel
theorem dK_verdict_91 : decode bK_verdict 91 = .ok (.goto 4, 3) := by decide +kernel
theorem dK_verdict_94 : decode bK_verdict 94 = .ok (.iconst 3, 1) := by decide +kernel
theorem dK_verdict_95 : decode bK_verdict 95 = .ok (.ireturn, 1) := by decide +kernel
theorem dK_lay_0 : decode bK_lay 0 = .ok (.iload_n 3, 1) := by decide +kernel
theorem dK_lay_1 : decode bK_lay 1 = .ok (.bipush 48, 2) := by decide +kernel
theorem dK_lay_3 : decode bK_lay 3 = .ok (.imul, 1) := by decide +kernel
theorem dK_lay_4 : decode bK_lay 4 = .ok (.istore 4, 2) := by decide +kernel
theorem dK_lay_6 : decode bK_lay 6 = .ok (.aload_n 2, 1) := by decide +kernel
theorem dK_lay_7 : decode bK_lay 7 = .ok (.getfield 54, 3) := by decide +kernel
theorem dK_lay_10 : decode bK_lay 10 = .ok (.iload_n 3, 1) := by decide +kernel
theorem dK_lay_11 : decode bK_lay 11 = .ok (.iaload, 1) := by decide +kernel
theorem dK_lay_12 : decode bK_lay 12 = .ok (.bipush 64, 2) := by decide +kernel
theorem dK_lay_14 : decode bK_lay 14 = .ok (.imul, 1) := by decide +kernel
theorem dK_lay_15 : decode bK_lay 15 = .ok (.aload_n 2, 1) := by decide +kernel
theorem dK_lay_16 : decode bK_lay 16 = .ok (.getfield 57, 3) := by decide +kernel
theorem dK_lay_19 : decode bK_lay 19 = .ok (.iload_n 3, 1) := by decide +kernel
theorem dK_lay_20 : decode bK_lay 20 = .ok (.iaload, 1) := by decide +kernel
theorem dK_lay_21 : decode bK_lay 21 = .ok (.iadd, 1) := by decide +kernel
theorem dK_lay_22 : decode bK_lay 22 = .ok (.istore 5, 2) := by decide +kernel
theorem dK_lay_24 : decode bK_lay 24 = .ok (.iconst 0, 1) := by decide +kernel
theorem dK_lay_25 : decode bK_lay 25 = .ok (.istore 6, 2) := by decide +kernel
theorem dK_lay_27 : decode bK_lay 27 = .ok (.iload 6, 2) := by decide +kernel
theorem dK_lay_29 : decode bK_lay 29 = .ok (.aload_n 1, 1) := by decide +kernel
theorem dK_lay_30 : decode bK_lay 30 = .ok (.getfield 60, 3) := by decide +kernel
theorem dK_lay_33 : decode bK_lay 33 = .ok (.iload_n 3, 1) := by decide +kernel
theorem dK_lay_34 : decode bK_lay 34 = .ok (.iaload, 1) := by decide +kernel
theorem dK_lay_35 : decode bK_lay 35 = .ok (.if_icmp .ge 77, 3) := by decide +kernel
theorem dK_lay_38 : decode bK_lay 38 = .ok (.aload_n 1, 1) := by decide +kernel
theorem dK_lay_39 : decode bK_lay 39 = .ok (.getfield 63, 3) := by decide +kernel
theorem dK_lay_42 : decode bK_lay 42 = .ok (.iload 4, 2) := by decide +kernel
theorem dK_lay_44 : decode bK_lay 44 = .ok (.iload 6, 2) := by decide +kernel
theorem dK_lay_46 : decode bK_lay 46 = .ok (.iadd, 1) := by decide +kernel
theorem dK_lay_47 : decode bK_lay 47 = .ok (.iaload, 1) := by decide +kernel
theorem dK_lay_48 : decode bK_lay 48 = .ok (.istore 7, 2) := by decide +kernel
theorem dK_lay_50 : decode bK_lay 50 = .ok (.aload_n 1, 1) := by decide +kernel
theorem dK_lay_51 : decode bK_lay 51 = .ok (.getfield 66, 3) := by decide +kernel
theorem dK_lay_54 : decode bK_lay 54 = .ok (.iload 4, 2) := by decide +kernel
theorem dK_lay_56 : decode bK_lay 56 = .ok (.iload 6, 2) := by decide +kernel
theorem dK_lay_58 : decode bK_lay 58 = .ok (.iadd, 1) := by decide +kernel
theorem dK_lay_59 : decode bK_lay 59 = .ok (.iaload, 1) := by decide +kernel
theorem dK_lay_60 : decode bK_lay 60 = .ok (.istore 8, 2) := by decide +kernel
theorem dK_lay_62 : decode bK_lay 62 = .ok (.iload 8, 2) := by decide +kernel
theorem dK_lay_64 : decode bK_lay 64 = .ok (.iconst 1, 1) := by decide +kernel
theorem dK_lay_65 : decode bK_lay 65 = .ok (.if_icmp .ne 14, 3) := by decide +kernel
theorem dK_lay_68 : decode bK_lay 68 = .ok (.aload_n 2, 1) := by decide +kernel
theorem dK_lay_69 : decode bK_lay 69 = .ok (.iload 7, 2) := by decide +kernel
theorem dK_lay_71 : decode bK_lay 71 = .ok (.invokevirtual 32, 3) := by decide +kernel
theorem dK_lay_74 : decode bK_lay 74 = .ok (.istore 7, 2) := by decide +kernel
theorem dK_lay_76 : decode bK_lay 76 = .ok (.goto 18, 3) := by decide +kernel
theorem dK_lay_79 : decode bK_lay 79 = .ok (.iload 8, 2) := by decide +kernel
theorem dK_lay_81 : decode bK_lay 81 = .ok (.iconst 2, 1) := by decide +kernel
theorem dK_lay_82 : decode bK_lay 82 = .ok (.if_icmp .ne 12, 3) := by decide +kernel
theorem dK_lay_85 : decode bK_lay 85 = .ok (.aload_n 2, 1) := by decide +kernel
theorem dK_lay_86 : decode bK_lay 86 = .ok (.getfield 54, 3) := by decide +kernel
theorem dK_lay_89 : decode bK_lay 89 = .ok (.iload 7, 2) := by decide +kernel
theorem dK_lay_91 : decode bK_lay 91 = .ok (.iaload, 1) := by decide +kernel
theorem dK_lay_92 : decode bK_lay 92 = .ok (.istore 7, 2) := by decide +kernel
theorem dK_lay_94 : decode bK_lay 94 = .ok (.aload_n 0, 1) := by decide +kernel
theorem dK_lay_95 : decode bK_lay 95 = .ok (.getfield 9, 3) := by decide +kernel
theorem dK_lay_98 : decode bK_lay 98 = .ok (.iload 5, 2) := by decide +kernel
theorem dK_lay_100 : decode bK_lay 100 = .ok (.iload 6, 2) := by decide +kernel
theorem dK_lay_102 : decode bK_lay 102 = .ok (.iadd, 1) := by decide +kernel
theorem dK_lay_103 : decode bK_lay 103 = .ok (.iload 7, 2) := by decide +kernel
theorem dK_lay_105 : decode bK_lay 105 = .ok (.iastore, 1) := by decide +kernel
theorem dK_lay_106 : decode bK_lay 106 = .ok (.iinc 6 1, 3) := by decide +kernel
theorem dK_lay_109 : decode bK_lay 109 = .ok (.goto (-82), 3) := by decide +kernel
theorem dK_lay_112 : decode bK_lay 112 = .ok (.return_, 1) := by decide +kernel
theorem dK_writeHead_0 : decode bK_writeHead 0 = .ok (.iconst 0, 1) := by decide +kernel
theorem dK_writeHead_1 : decode bK_writeHead 1 = .ok (.istore_n 2, 1) := by decide +kernel
theorem dK_writeHead_2 : decode bK_writeHead 2 = .ok (.iload_n 2, 1) := by decide +kernel
theorem dK_writeHead_3 : decode bK_writeHead 3 = .ok (.bipush 32, 2) := by decide +kernel
theorem dK_writeHead_5 : decode bK_writeHead 5 = .ok (.if_icmp .ge 20, 3) := by decide +kernel
theorem dK_writeHead_8 : decode bK_writeHead 8 = .ok (.aload_n 0, 1) := by decide +kernel
theorem dK_writeHead_9 : decode bK_writeHead 9 = .ok (.getfield 9, 3) := by decide +kernel
theorem dK_writeHead_12 : decode bK_writeHead 12 = .ok (.iload_n 2, 1) := by decide +kernel
theorem dK_writeHead_13 : decode bK_writeHead 13 = .ok (.getstatic 42, 3) := by decide +kernel
theorem dK_writeHead_16 : decode bK_writeHead 16 = .ok (.iload_n 2, 1) := by decide +kernel
theorem dK_writeHead_17 : decode bK_writeHead 17 = .ok (.iaload, 1) := by decide +kernel
theorem dK_writeHead_18 : decode bK_writeHead 18 = .ok (.iastore, 1) := by decide +kernel
theorem dK_writeHead_19 : decode bK_writeHead 19 = .ok (.iinc 2 1, 3) := by decide +kernel
theorem dK_writeHead_22 : decode bK_writeHead 22 = .ok (.goto (-20), 3) := by decide +kernel
theorem dK_writeHead_25 : decode bK_writeHead 25 = .ok (.aload_n 0, 1) := by decide +kernel
theorem dK_writeHead_26 : decode bK_writeHead 26 = .ok (.getfield 9, 3) := by decide +kernel
theorem dK_writeHead_29 : decode bK_writeHead 29 = .ok (.iconst 1, 1) := by decide +kernel
theorem dK_writeHead_30 : decode bK_writeHead 30 = .ok (.iload_n 1, 1) := by decide +kernel
theorem dK_writeHead_31 : decode bK_writeHead 31 = .ok (.iastore, 1) := by decide +kernel
theorem dK_writeHead_32 : decode bK_writeHead 32 = .ok (.aload_n 0, 1) := by decide +kernel
theorem dK_writeHead_33 : decode bK_writeHead 33 = .ok (.getfield 9, 3) := by decide +kernel
theorem dK_writeHead_36 : decode bK_writeHead 36 = .ok (.bipush 6, 2) := by decide +kernel
theorem dK_writeHead_38 : decode bK_writeHead 38 = .ok (.aload_n 0, 1) := by decide +kernel
theorem dK_writeHead_39 : decode bK_writeHead 39 = .ok (.invokevirtual 45, 3) := by decide +kernel
theorem dK_writeHead_42 : decode bK_writeHead 42 = .ok (.iastore, 1) := by decide +kernel
theorem dK_writeHead_43 : decode bK_writeHead 43 = .ok (.aload_n 0, 1) := by decide +kernel
theorem dK_writeHead_44 : decode bK_writeHead 44 = .ok (.getfield 9, 3) := by decide +kernel
theorem dK_writeHead_47 : decode bK_writeHead 47 = .ok (.bipush 13, 2) := by decide +kernel
theorem dK_writeHead_49 : decode bK_writeHead 49 = .ok (.aload_n 0, 1) := by decide +kernel
theorem dK_writeHead_50 : decode bK_writeHead 50 = .ok (.invokevirtual 48, 3) := by decide +kernel
theorem dK_writeHead_53 : decode bK_writeHead 53 = .ok (.iastore, 1) := by decide +kernel
theorem dK_writeHead_54 : decode bK_writeHead 54 = .ok (.aload_n 0, 1) := by decide +kernel
theorem dK_writeHead_55 : decode bK_writeHead 55 = .ok (.invokevirtual 51, 3) := by decide +kernel
theorem dK_writeHead_58 : decode bK_writeHead 58 = .ok (.istore_n 2, 1) := by decide +kernel
theorem dK_writeHead_59 : decode bK_writeHead 59 = .ok (.aload_n 0, 1) := by decide +kernel
theorem dK_writeHead_60 : decode bK_writeHead 60 = .ok (.getfield 9, 3) := by decide +kernel
theorem dK_writeHead_63 : decode bK_writeHead 63 = .ok (.bipush 14, 2) := by decide +kernel
theorem dK_writeHead_65 : decode bK_writeHead 65 = .ok (.iload_n 2, 1) := by decide +kernel
theorem dK_writeHead_66 : decode bK_writeHead 66 = .ok (.bipush 8, 2) := by decide +kernel
theorem dK_writeHead_68 : decode bK_writeHead 68 = .ok (.ishr, 1) := by decide +kernel
theorem dK_writeHead_69 : decode bK_writeHead 69 = .ok (.iastore, 1) := by decide +kernel
theorem dK_writeHead_70 : decode bK_writeHead 70 = .ok (.aload_n 0, 1) := by decide +kernel
theorem dK_writeHead_71 : decode bK_writeHead 71 = .ok (.getfield 9, 3) := by decide +kernel
theorem dK_writeHead_74 : decode bK_writeHead 74 = .ok (.bipush 15, 2) := by decide +kernel
theorem dK_writeHead_76 : decode bK_writeHead 76 = .ok (.iload_n 2, 1) := by decide +kernel
theorem dK_writeHead_77 : decode bK_writeHead 77 = .ok (.sipush 255, 3) := by decide +kernel
theorem dK_writeHead_80 : decode bK_writeHead 80 = .ok (.iand, 1) := by decide +kernel
theorem dK_writeHead_81 : decode bK_writeHead 81 = .ok (.iastore, 1) := by decide +kernel
theorem dK_writeHead_82 : decode bK_writeHead 82 = .ok (.return_, 1) := by decide +kernel
theorem dK_sizeCode_0 : decode bK_sizeCode 0 = .ok (.aload_n 0, 1) := by decide +kernel
theorem dK_sizeCode_1 : decode bK_sizeCode 1 = .ok (.getfield 15, 3) := by decide +kernel
theorem dK_sizeCode_4 : decode bK_sizeCode 4 = .ok (.bipush 8, 2) := by decide +kernel
theorem dK_sizeCode_6 : decode bK_sizeCode 6 = .ok (.if_icmp .ne 5, 3) := by decide +kernel
theorem dK_sizeCode_9 : decode bK_sizeCode 9 = .ok (.iconst 2, 1) := by decide +kernel
theorem dK_sizeCode_10 : decode bK_sizeCode 10 = .ok (.ireturn, 1) := by decide +kernel
theorem dK_sizeCode_11 : decode bK_sizeCode 11 = .ok (.aload_n 0, 1) := by decide +kernel
theorem dK_sizeCode_12 : decode bK_sizeCode 12 = .ok (.getfield 15, 3) := by decide +kernel
theorem dK_sizeCode_15 : decode bK_sizeCode 15 = .ok (.iconst 4, 1) := by decide +kernel
theorem dK_sizeCode_16 : decode bK_sizeCode 16 = .ok (.if_icmp .ne 7, 3) := by decide +kernel
theorem dK_sizeCode_19 : decode bK_sizeCode 19 = .ok (.iconst 1, 1) := by decide +kernel
theorem dK_sizeCode_20 : decode bK_sizeCode 20 = .ok (.goto 4, 3) := by decide +kernel
theorem dK_sizeCode_23 : decode bK_sizeCode 23 = .ok (.iconst 0, 1) := by decide +kernel
theorem dK_sizeCode_24 : decode bK_sizeCode 24 = .ok (.ireturn, 1) := by decide +kernel
theorem dK_headCheck_0 : decode bK_headCheck 0 = .ok (.iconst 0, 1) := by decide +kernel
theorem dK_headCheck_1 : decode bK_headCheck 1 = .ok (.istore_n 1, 1) := by decide +kernel
theorem dK_headCheck_2 : decode bK_headCheck 2 = .ok (.iconst 2, 1) := by decide +kernel
theorem dK_headCheck_3 : decode bK_headCheck 3 = .ok (.istore_n 2, 1) := by decide +kernel
theorem dK_headCheck_4 : decode bK_headCheck 4 = .ok (.iload_n 2, 1) := by decide +kernel
theorem dK_headCheck_5 : decode bK_headCheck 5 = .ok (.bipush 12, 2) := by decide +kernel
theorem dK_headCheck_7 : decode bK_headCheck 7 = .ok (.if_icmp .gt 24, 3) := by decide +kernel
theorem dK_headCheck_10 : decode bK_headCheck 10 = .ok (.iload_n 1, 1) := by decide +kernel
theorem dK_headCheck_11 : decode bK_headCheck 11 = .ok (.aload_n 0, 1) := by decide +kernel
theorem dK_headCheck_12 : decode bK_headCheck 12 = .ok (.getfield 9, 3) := by decide +kernel
theorem dK_headCheck_15 : decode bK_headCheck 15 = .ok (.iload_n 2, 1) := by decide +kernel
theorem dK_headCheck_16 : decode bK_headCheck 16 = .ok (.iaload, 1) := by decide +kernel
theorem dK_headCheck_17 : decode bK_headCheck 17 = .ok (.isub, 1) := by decide +kernel
theorem dK_headCheck_18 : decode bK_headCheck 18 = .ok (.iconst 1, 1) := by decide +kernel
theorem dK_headCheck_19 : decode bK_headCheck 19 = .ok (.isub, 1) := by decide +kernel
theorem dK_headCheck_20 : decode bK_headCheck 20 = .ok (.sipush 255, 3) := by decide +kernel
theorem dK_headCheck_23 : decode bK_headCheck 23 = .ok (.iand, 1) := by decide +kernel
theorem dK_headCheck_24 : decode bK_headCheck 24 = .ok (.istore_n 1, 1) := by decide +kernel
theorem dK_headCheck_25 : decode bK_headCheck 25 = .ok (.iinc 2 1, 3) := by decide +kernel
theorem dK_headCheck_28 : decode bK_headCheck 28 = .ok (.goto (-24), 3) := by decide +kernel
theorem dK_headCheck_31 : decode bK_headCheck 31 = .ok (.iload_n 1, 1) := by decide +kernel
theorem dK_headCheck_32 : decode bK_headCheck 32 = .ok (.ireturn, 1) := by decide +kernel
theorem dK_imageCheck_0 : decode bK_imageCheck 0 = .ok (.iconst 0, 1) := by decide +kernel
theorem dK_imageCheck_1 : decode bK_imageCheck 1 = .ok (.istore_n 1, 1) := by decide +kernel
theorem dK_imageCheck_2 : decode bK_imageCheck 2 = .ok (.iconst 0, 1) := by decide +kernel
theorem dK_imageCheck_3 : decode bK_imageCheck 3 = .ok (.istore_n 2, 1) := by decide +kernel
theorem dK_imageCheck_4 : decode bK_imageCheck 4 = .ok (.iload_n 2, 1) := by decide +kernel
theorem dK_imageCheck_5 : decode bK_imageCheck 5 = .ok (.aload_n 0, 1) := by decide +kernel
theorem dK_imageCheck_6 : decode bK_imageCheck 6 = .ok (.invokevirtual 19, 3) := by decide +kernel
theorem dK_imageCheck_9 : decode bK_imageCheck 9 = .ok (.if_icmp .ge 30, 3) := by decide +kernel
theorem dK_imageCheck_12 : decode bK_imageCheck 12 = .ok (.iload_n 2, 1) := by decide +kernel
theorem dK_imageCheck_13 : decode bK_imageCheck 13 = .ok (.bipush 14, 2) := by decide +kernel
theorem dK_imageCheck_15 : decode bK_imageCheck 15 = .ok (.if_icmp .eq 18, 3) := by decide +kernel
theorem dK_imageCheck_18 : decode bK_imageCheck 18 = .ok (.iload_n 2, 1) := by decide +kernel
theorem dK_imageCheck_19 : decode bK_imageCheck 19 = .ok (.bipush 15, 2) := by decide +kernel
theorem dK_imageCheck_21 : decode bK_imageCheck 21 = .ok (.if_icmp .eq 12, 3) := by decide +kernel
theorem dK_imageCheck_24 : decode bK_imageCheck 24 = .ok (.iload_n 1, 1) := by decide +kernel
theorem dK_imageCheck_25 : decode bK_imageCheck 25 = .ok (.aload_n 0, 1) := by decide +kernel
theorem dK_imageCheck_26 : decode bK_imageCheck 26 = .ok (.getfield 9, 3) := by decide +kernel
theorem dK_imageCheck_29 : decode bK_imageCheck 29 = .ok (.iload_n 2, 1) := by decide +kernel
theorem dK_imageCheck_30 : decode bK_imageCheck 30 = .ok (.iaload, 1) := by decide +kernel
theorem dK_imageCheck_31 : decode bK_imageCheck 31 = .ok (.iadd, 1) := by decide +kernel
theorem dK_imageCheck_32 : decode bK_imageCheck 32 = .ok (.istore_n 1, 1) := by decide +kernel
theorem dK_imageCheck_33 : decode bK_imageCheck 33 = .ok (.iinc 2 1, 3) := by decide +kernel
theorem dK_imageCheck_36 : decode bK_imageCheck 36 = .ok (.goto (-32), 3) := by decide +kernel
theorem dK_imageCheck_39 : decode bK_imageCheck 39 = .ok (.iload_n 1, 1) := by decide +kernel
theorem dK_imageCheck_40 : decode bK_imageCheck 40 = .ok (.ldc 69, 2) := by decide +kernel
theorem dK_imageCheck_42 : decode bK_imageCheck 42 = .ok (.iand, 1) := by decide +kernel
theorem dK_imageCheck_43 : decode bK_imageCheck 43 = .ok (.ireturn, 1) := by decide +kernel
theorem dN_init_0 : decode bN_init 0 = .ok (.aload_n 0, 1) := by decide +kernel
theorem dN_init_1 : decode bN_init 1 = .ok (.invokespecial 3, 3) := by decide +kernel
theorem dN_init_4 : decode bN_init 4 = .ok (.aload_n 0, 1) := by decide +kernel
theorem dN_init_5 : decode bN_init 5 = .ok (.bipush 8, 2) := by decide +kernel
theorem dN_init_7 : decode bN_init 7 = .ok (.newarray .int, 2) := by decide +kernel
theorem dN_init_9 : decode bN_init 9 = .ok (.putfield 9, 3) := by decide +kernel
theorem dN_init_12 : decode bN_init 12 = .ok (.aload_n 0, 1) := by decide +kernel
theorem dN_init_13 : decode bN_init 13 = .ok (.bipush 100, 2) := by decide +kernel
theorem dN_init_15 : decode bN_init 15 = .ok (.newarray .int, 2) := by decide +kernel
theorem dN_init_17 : decode bN_init 17 = .ok (.putfield 15, 3) := by decide +kernel
theorem dN_init_20 : decode bN_init 20 = .ok (.aload_n 0, 1) := by decide +kernel
theorem dN_init_21 : decode bN_init 21 = .ok (.aload_n 1, 1) := by decide +kernel
theorem dN_init_22 : decode bN_init 22 = .ok (.putfield 18, 3) := by decide +kernel
theorem dN_init_25 : decode bN_init 25 = .ok (.aload_n 0, 1) := by decide +kernel
theorem dN_init_26 : decode bN_init 26 = .ok (.invokevirtual 22, 3) := by decide +kernel
theorem dN_init_29 : decode bN_init 29 = .ok (.return_, 1) := by decide +kernel
theorem dN_begin_0 : decode bN_begin 0 = .ok (.iconst 0, 1) := by decide +kernel
theorem dN_begin_1 : decode bN_begin 1 = .ok (.istore_n 1, 1) := by decide +kernel
theorem dN_begin_2 : decode bN_begin 2 = .ok (.iload_n 1, 1) := by decide +kernel
theorem dN_begin_3 : decode bN_begin 3 = .ok (.aload_n 0, 1) := by decide +kernel
theorem dN_begin_4 : decode bN_begin 4 = .ok (.getfield 9, 3) := by decide +kernel
theorem dN_begin_7 : decode bN_begin 7 = .ok (.arraylength, 1) := by decide +kernel
theorem dN_begin_8 : decode bN_begin 8 = .ok (.if_icmp .ge 16, 3) := by decide +kernel
theorem dN_begin_11 : decode bN_begin 11 = .ok (.aload_n 0, 1) := by decide +kernel
theorem dN_begin_12 : decode bN_begin 12 = .ok (.getfield 9, 3) := by decide +kernel
theorem dN_begin_15 : decode bN_begin 15 = .ok (.iload_n 1, 1) := by decide +kernel
theorem dN_begin_16 : decode bN_begin 16 = .ok (.iconst 0, 1) := by decide +kernel
theorem dN_begin_17 : decode bN_begin 17 = .ok (.iastore, 1) := by decide +kernel
theorem dN_begin_18 : decode bN_begin 18 = .ok (.iinc 1 1, 3) := by decide +kernel
theorem dN_begin_21 : decode bN_begin 21 = .ok (.goto (-19), 3) := by decide +kernel
theorem dN_begin_24 : decode bN_begin 24 = .ok (.aload_n 0, 1) := by decide +kernel
theorem dN_begin_25 : decode bN_begin 25 = .ok (.sipush 240, 3) := by decide +kernel
theorem dN_begin_28 : decode bN_begin 28 = .ok (.putfield 25, 3) := by decide +kernel
theorem dN_begin_31 : decode bN_begin 31 = .ok (.aload_n 0, 1) := by decide +kernel
theorem dN_begin_32 : decode bN_begin 32 = .ok (.iconst 0, 1) := by decide +kernel
theorem dN_begin_33 : decode bN_begin 33 = .ok (.putfield 29, 3) := by decide +kernel
theorem dN_begin_36 : decode bN_begin 36 = .ok (.aload_n 0, 1) := by decide +kernel
theorem dN_begin_37 : decode bN_begin 37 = .ok (.iconst 0, 1) := by decide +kernel
theorem dN_begin_38 : decode bN_begin 38 = .ok (.iconst 0, 1) := by decide +kernel
theorem dN_begin_39 : decode bN_begin 39 = .ok (.iconst 0, 1) := by decide +kernel
theorem dN_begin_40 : decode bN_begin 40 = .ok (.iconst 0, 1) := by decide +kernel
theorem dN_begin_41 : decode bN_begin 41 = .ok (.invokevirtual 32, 3) := by decide +kernel
theorem dN_begin_44 : decode bN_begin 44 = .ok (.aload_n 0, 1) := by decide +kernel
theorem dN_begin_45 : decode bN_begin 45 = .ok (.iconst 0, 1) := by decide +kernel
theorem dN_begin_46 : decode bN_begin 46 = .ok (.putfield 36, 3) := by decide +kernel
theorem dN_begin_49 : decode bN_begin 49 = .ok (.aload_n 0, 1) := by decide +kernel
theorem dN_begin_50 : decode bN_begin 50 = .ok (.iconst 0, 1) := by decide +kernel
theorem dN_begin_51 : decode bN_begin 51 = .ok (.putfield 40, 3) := by decide +kernel
theorem dN_begin_54 : decode bN_begin 54 = .ok (.aload_n 0, 1) := by decide +kernel
theorem dN_begin_55 : decode bN_begin 55 = .ok (.iconst 0, 1) := by decide +kernel
theorem dN_begin_56 : decode bN_begin 56 = .ok (.putfield 43, 3) := by decide +kernel
theorem dN_begin_59 : decode bN_begin 59 = .ok (.aload_n 0, 1) := by decide +kernel
theorem dN_begin_60 : decode bN_begin 60 = .ok (.iconst 0, 1) := by decide +kernel
theorem dN_begin_61 : decode bN_begin 61 = .ok (.putfield 46, 3) := by decide +kernel
theorem dN_begin_64 : decode bN_begin 64 = .ok (.aload_n 0, 1) := by decide +kernel
theorem dN_begin_65 : decode bN_begin 65 = .ok (.getfield 18, 3) := by decide +kernel
theorem dN_begin_68 : decode bN_begin 68 = .ok (.invokevirtual 49, 3) := by decide +kernel
theorem dN_begin_71 : decode bN_begin 71 = .ok (.return_, 1) := by decide +kernel
theorem dN_keptCount_0 : decode bN_keptCount 0 = .ok (.aload_n 0, 1) := by decide +kernel
theorem dN_keptCount_1 : decode bN_keptCount 1 = .ok (.getfield 46, 3) := by decide +kernel
theorem dN_keptCount_4 : decode bN_keptCount 4 = .ok (.bipush 100, 2) := by decide +kernel
theorem dN_keptCount_6 : decode bN_keptCount 6 = .ok (.invokestatic 52, 3) := by decide +kernel
theorem dN_keptCount_9 : decode bN_keptCount 9 = .ok (.ireturn, 1) := by decide +kernel
theorem dN_shown_0 : decode bN_shown 0 = .ok (.iload_n 1, 1) := by decide +kernel
theorem dN_shown_1 : decode bN_shown 1 = .ok (.tableswitch 111 8 12 #[35, 40, 45, 90, 98], 35) := by decide +kernel
theorem dN_shown_36 : decode bN_shown 36 = .ok (.aload_n 0, 1) := by decide +kernel
theorem dN_shown_37 : decode bN_shown 37 = .ok (.getfield 25, 3) := by decide +kernel
theorem dN_shown_40 : decode bN_shown 40 = .ok (.ireturn, 1) := by decide +kernel
theorem dN_shown_41 : decode bN_shown 41 = .ok (.aload_n 0, 1) := by decide +kernel
theorem dN_shown_42 : decode bN_shown 42 = .ok (.getfield 29, 3) := by decide +kernel
theorem dN_shown_45 : decode bN_shown 45 = .ok (.ireturn, 1) := by decide +kernel
theorem dN_shown_46 : decode bN_shown 46 = .ok (.aload_n 0, 1) := by decide +kernel
theorem dN_shown_47 : decode bN_shown 47 = .ok (.getfield 58, 3) := by decide +kernel
theorem dN_shown_50 : decode bN_shown 50 = .ok (.ifCond .eq 8, 3) := by decide +kernel
theorem dN_shown_53 : decode bN_shown 53 = .ok (.bipush 8, 2) := by decide +kernel
theorem dN_shown_55 : decode bN_shown 55 = .ok (.goto 4, 3) := by decide +kernel
theorem dN_shown_58 : decode bN_shown 58 = .ok (.iconst 0, 1) := by decide +kernel
theorem dN_shown_59 : decode bN_shown 59 = .ok (.aload_n 0, 1) := by decide +kernel
theorem dN_shown_60 : decode bN_shown 60 = .ok (.getfield 61, 3) := by decide +kernel
theorem dN_shown_63 : decode bN_shown 63 = .ok (.ifCond .eq 7, 3) := by decide +kernel
theorem dN_shown_66 : decode bN_shown 66 = .ok (.iconst 4, 1) := by decide +kernel
theorem dN_shown_67 : decode bN_shown 67 = .ok (.goto 4, 3) := by decide +kernel
theorem dN_shown_70 : decode bN_shown 70 = .ok (.iconst 0, 1) := by decide +kernel
theorem dN_shown_71 : decode bN_shown 71 = .ok (.iadd, 1) := by decide +kernel
theorem dN_shown_72 : decode bN_shown 72 = .ok (.aload_n 0, 1) := by decide +kernel
theorem dN_shown_73 : decode bN_shown 73 = .ok (.getfield 64, 3) := by decide +kernel
theorem dN_shown_76 : decode bN_shown 76 = .ok (.ifCond .eq 7, 3) := by decide +kernel
theorem dN_shown_79 : decode bN_shown 79 = .ok (.iconst 2, 1) := by decide +kernel
theorem dN_shown_80 : decode bN_shown 80 = .ok (.goto 4, 3) := by decide +kernel
theorem dN_shown_83 : decode bN_shown 83 = .ok (.iconst 0, 1) := by decide +kernel
theorem dN_shown_84 : decode bN_shown 84 = .ok (.iadd, 1) := by decide +kernel
theorem dN_shown_85 : decode bN_shown 85 = .ok (.aload_n 0, 1) := by decide +kernel
theorem dN_shown_86 : decode bN_shown 86 = .ok (.invokevirtual 67, 3) := by decide +kernel
theorem dN_shown_89 : decode bN_shown 89 = .ok (.iadd, 1) := by decide +kernel
theorem dN_shown_90 : decode bN_shown 90 = .ok (.ireturn, 1) := by decide +kernel
theorem dN_shown_91 : decode bN_shown 91 = .ok (.aload_n 0, 1) := by decide +kernel
theorem dN_shown_92 : decode bN_shown 92 = .ok (.getfield 18, 3) := by decide +kernel
theorem dN_shown_95 : decode bN_shown 95 = .ok (.invokevirtual 71, 3) := by decide +kernel
theorem dN_shown_98 : decode bN_shown 98 = .ok (.ireturn, 1) := by decide +kernel
theorem dN_shown_99 : decode bN_shown 99 = .ok (.aload_n 0, 1) := by decide +kernel
theorem dN_shown_100 : decode bN_shown 100 = .ok (.getfield 36, 3) := by decide +kernel
theorem dN_shown_103 : decode bN_shown 103 = .ok (.ifCond .eq 7, 3) := by decide +kernel
theorem dN_shown_106 : decode bN_shown 106 = .ok (.iconst 1, 1) := by decide +kernel
theorem dN_shown_107 : decode bN_shown 107 = .ok (.goto 4, 3) := by decide +kernel
theorem dN_shown_110 : decode bN_shown 110 = .ok (.iconst 0, 1) := by decide +kernel
theorem dN_shown_111 : decode bN_shown 111 = .ok (.ireturn, 1) := by decide +kernel
theorem dN_shown_112 : decode bN_shown 112 = .ok (.aload_n 0, 1) := by decide +kernel
theorem dN_shown_113 : decode bN_shown 113 = .ok (.iload_n 1, 1) := by decide +kernel
theorem dN_shown_114 : decode bN_shown 114 = .ok (.bipush 7, 2) := by decide +kernel
theorem dN_shown_116 : decode bN_shown 116 = .ok (.iand, 1) := by decide +kernel
theorem dN_shown_117 : decode bN_shown 117 = .ok (.invokevirtual 74, 3) := by decide +kernel
theorem dN_shown_120 : decode bN_shown 120 = .ok (.ireturn, 1) := by decide +kernel
theorem dN_canGo_0 : decode bN_canGo 0 = .ok (.aload_n 0, 1) := by decide +kernel
theorem dN_canGo_1 : decode bN_canGo 1 = .ok (.getfield 43, 3) := by decide +kernel
theorem dN_canGo_4 : decode bN_canGo 4 = .ok (.ifCond .eq 11, 3) := by decide +kernel
theorem dN_canGo_7 : decode bN_canGo 7 = .ok (.aload_n 0, 1) := by decide +kernel
theorem dN_canGo_8 : decode bN_canGo 8 = .ok (.getfield 43, 3) := by decide +kernel
theorem dN_canGo_11 : decode bN_canGo 11 = .ok (.iconst 1, 1) := by decide +kernel
theorem dN_canGo_12 : decode bN_canGo 12 = .ok (.if_icmp .ne 7, 3) := by decide +kernel
theorem dN_canGo_15 : decode bN_canGo 15 = .ok (.iconst 1, 1) := by decide +kernel
theorem dN_canGo_16 : decode bN_canGo 16 = .ok (.goto 4, 3) := by decide +kernel
theorem dN_canGo_19 : decode bN_canGo 19 = .ok (.iconst 0, 1) := by decide +kernel
theorem dN_canGo_20 : decode bN_canGo 20 = .ok (.ireturn, 1) := by decide +kernel
theorem dN_step_0 : decode bN_step 0 = .ok (.aload_n 0, 1) := by decide +kernel
theorem dN_step_1 : decode bN_step 1 = .ok (.getfield 18, 3) := by decide +kernel
theorem dN_step_4 : decode bN_step 4 = .ok (.invokevirtual 78, 3) := by decide +kernel
theorem dN_step_7 : decode bN_step 7 = .ok (.istore_n 1, 1) := by decide +kernel
theorem dN_step_8 : decode bN_step 8 = .ok (.aload_n 0, 1) := by decide +kernel
theorem dN_step_9 : decode bN_step 9 = .ok (.getfield 43, 3) := by decide +kernel
theorem dN_step_12 : decode bN_step 12 = .ok (.iconst 1, 1) := by decide +kernel
theorem dN_step_13 : decode bN_step 13 = .ok (.if_icmp .ne 11, 3) := by decide +kernel
theorem dN_step_16 : decode bN_step 16 = .ok (.aload_n 0, 1) := by decide +kernel
theorem dN_step_17 : decode bN_step 17 = .ok (.iload_n 1, 1) := by decide +kernel
theorem dN_step_18 : decode bN_step 18 = .ok (.invokevirtual 81, 3) := by decide +kernel
theorem dN_step_21 : decode bN_step 21 = .ok (.goto 61, 3) := by decide +kernel
theorem dN_step_24 : decode bN_step 24 = .ok (.aload_n 0, 1) := by decide +kernel
theorem dN_step_25 : decode bN_step 25 = .ok (.getfield 36, 3) := by decide +kernel
theorem dN_step_28 : decode bN_step 28 = .ok (.ifCond .eq 16, 3) := by decide +kernel
theorem dN_step_31 : decode bN_step 31 = .ok (.iload_n 1, 1) := by decide +kernel
theorem dN_step_32 : decode bN_step 32 = .ok (.iconst (-1), 1) := by decide +kernel
theorem dN_step_33 : decode bN_step 33 = .ok (.if_icmp .eq 11, 3) := by decide +kernel
theorem dN_step_36 : decode bN_step 36 = .ok (.aload_n 0, 1) := by decide +kernel
theorem dN_step_37 : decode bN_step 37 = .ok (.iload_n 1, 1) := by decide +kernel
theorem dN_step_38 : decode bN_step 38 = .ok (.invokevirtual 85, 3) := by decide +kernel
theorem dN_step_41 : decode bN_step 41 = .ok (.goto 41, 3) := by decide +kernel
theorem dN_step_44 : decode bN_step 44 = .ok (.aload_n 0, 1) := by decide +kernel
theorem dN_step_45 : decode bN_step 45 = .ok (.getfield 40, 3) := by decide +kernel
theorem dN_step_48 : decode bN_step 48 = .ok (.istore_n 2, 1) := by decide +kernel
theorem dN_step_49 : decode bN_step 49 = .ok (.aload_n 0, 1) := by decide +kernel
theorem dN_step_50 : decode bN_step 50 = .ok (.iconst 0, 1) := by decide +kernel
theorem dN_step_51 : decode bN_step 51 = .ok (.putfield 40, 3) := by decide +kernel
theorem dN_step_54 : decode bN_step 54 = .ok (.aload_n 0, 1) := by decide +kernel
theorem dN_step_55 : decode bN_step 55 = .ok (.aload_n 0, 1) := by decide +kernel
theorem dN_step_56 : decode bN_step 56 = .ok (.invokevirtual 88, 3) := by decide +kernel
theorem dN_step_59 : decode bN_step 59 = .ok (.invokevirtual 91, 3) := by decide +kernel
theorem dN_step_62 : decode bN_step 62 = .ok (.aload_n 0, 1) := by decide +kernel
theorem dN_step_63 : decode bN_step 63 = .ok (.aload_n 0, 1) := by decide +kernel
theorem dN_step_64 : decode bN_step 64 = .ok (.getfield 36, 3) := by decide +kernel
theorem dN_step_67 : decode bN_step 67 = .ok (.ifCond .ne 7, 3) := by decide +kernel
theorem dN_step_70 : decode bN_step 70 = .ok (.iload_n 2, 1) := by decide +kernel
theorem dN_step_71 : decode bN_step 71 = .ok (.ifCond .eq 7, 3) := by decide +kernel
theorem dN_step_74 : decode bN_step 74 = .ok (.iconst 1, 1) := by decide +kernel
theorem dN_step_75 : decode bN_step 75 = .ok (.goto 4, 3) := by decide +kernel
theorem dN_step_78 : decode bN_step 78 = .ok (.iconst 0, 1) := by decide +kernel
theorem dN_step_79 : decode bN_step 79 = .ok (.putfield 36, 3) := by decide +kernel
theorem dN_step_82 : decode bN_step 82 = .ok (.return_, 1) := by decide +kernel
theorem dN_wakeFor_0 : decode bN_wakeFor 0 = .ok (.iload_n 1, 1) := by decide +kernel
theorem dN_wakeFor_1 : decode bN_wakeFor 1 = .ok (.iconst (-1), 1) := by decide +kernel
theorem dN_wakeFor_2 : decode bN_wakeFor 2 = .ok (.if_icmp .eq 22, 3) := by decide +kernel
theorem dN_wakeFor_5 : decode bN_wakeFor 5 = .ok (.aload_n 0, 1) := by decide +kernel
theorem dN_wakeFor_6 : decode bN_wakeFor 6 = .ok (.iconst 0, 1) := by decide +kernel
theorem dN_wakeFor_7 : decode bN_wakeFor 7 = .ok (.putfield 43, 3) := by decide +kernel
theorem dN_wakeFor_10 : decode bN_wakeFor 10 = .ok (.aload_n 0, 1) := by decide +kernel
theorem dN_wakeFor_11 : decode bN_wakeFor 11 = .ok (.aload_n 0, 1) := by decide +kernel
theorem dN_wakeFor_12 : decode bN_wakeFor 12 = .ok (.getfield 29, 3) := by decide +kernel
theorem dN_wakeFor_15 : decode bN_wakeFor 15 = .ok (.iconst 1, 1) := by decide +kernel
theorem dN_wakeFor_16 : decode bN_wakeFor 16 = .ok (.iadd, 1) := by decide +kernel
theorem dN_wakeFor_17 : decode bN_wakeFor 17 = .ok (.sipush 255, 3) := by decide +kernel
theorem dN_wakeFor_20 : decode bN_wakeFor 20 = .ok (.iand, 1) := by decide +kernel
theorem dN_wakeFor_21 : decode bN_wakeFor 21 = .ok (.putfield 29, 3) := by decide +kernel
theorem dN_wakeFor_24 : decode bN_wakeFor 24 = .ok (.return_, 1) := by decide +kernel
theorem dN_interruptFor_0 : decode bN_interruptFor 0 = .ok (.aload_n 0, 1) := by decide +kernel
theorem dN_interruptFor_1 : decode bN_interruptFor 1 = .ok (.getfield 18, 3) := by decide +kernel
theorem dN_interruptFor_4 : decode bN_interruptFor 4 = .ok (.dup, 1) := by decide +kernel
theorem dN_interruptFor_5 : decode bN_interruptFor 5 = .ok (.getfield 94, 3) := by decide +kernel
theorem dN_interruptFor_8 : decode bN_interruptFor 8 = .ok (.iconst 1, 1) := by decide +kernel
theorem dN_interruptFor_9 : decode bN_interruptFor 9 = .ok (.iload_n 1, 1) := by decide +kernel
theorem dN_interruptFor_10 : decode bN_interruptFor 10 = .ok (.ishl, 1) := by decide +kernel
theorem dN_interruptFor_11 : decode bN_interruptFor 11 = .ok (.iconst (-1), 1) := by decide +kernel
theorem dN_interruptFor_12 : decode bN_interruptFor 12 = .ok (.ixor, 1) := by decide +kernel
theorem dN_interruptFor_13 : decode bN_interruptFor 13 = .ok (.iand, 1) := by decide +kernel
theorem dN_interruptFor_14 : decode bN_interruptFor 14 = .ok (.putfield 94, 3) := by decide +kernel
theorem dN_interruptFor_17 : decode bN_interruptFor 17 = .ok (.aload_n 0, 1) := by decide +kernel
theorem dN_interruptFor_18 : decode bN_interruptFor 18 = .ok (.iconst 0, 1) := by decide +kernel
theorem dN_interruptFor_19 : decode bN_interruptFor 19 = .ok (.putfield 36, 3) := by decide +kernel
theorem dN_interruptFor_22 : decode bN_interruptFor 22 = .ok (.aload_n 0, 1) := by decide +kernel
theorem dN_interruptFor_23 : decode bN_interruptFor 23 = .ok (.aload_n 0, 1) := by decide +kernel
theorem dN_interruptFor_24 : decode bN_interruptFor 24 = .ok (.getfield 29, 3) := by decide +kernel
theorem dN_interruptFor_27 : decode bN_interruptFor 27 = .ok (.invokevirtual 97, 3) := by decide +kernel
theorem dN_interruptFor_30 : decode bN_interruptFor 30 = .ok (.aload_n 0, 1) := by decide +kernel
theorem dN_interruptFor_31 : decode bN_interruptFor 31 = .ok (.bipush 16, 2) := by decide +kernel
theorem dN_interruptFor_33 : decode bN_interruptFor 33 = .ok (.iconst 4, 1) := by decide +kernel
theorem dN_interruptFor_34 : decode bN_interruptFor 34 = .ok (.iload_n 1, 1) := by decide +kernel
theorem dN_interruptFor_35 : decode bN_interruptFor 35 = .ok (.imul, 1) := by decide +kernel
theorem dN_interruptFor_36 : decode bN_interruptFor 36 = .ok (.iadd, 1) := by decide +kernel
theorem dN_interruptFor_37 : decode bN_interruptFor 37 = .ok (.putfield 29, 3) := by decide +kernel
theorem dN_interruptFor_40 : decode bN_interruptFor 40 = .ok (.return_, 1) := by decide +kernel
theorem dN_obey_0 : decode bN_obey 0 = .ok (.iload_n 1, 1) := by decide +kernel
theorem dN_obey_1 : decode bN_obey 1 = .ok (.iconst 3, 1) := by decide +kernel
theorem dN_obey_2 : decode bN_obey 2 = .ok (.ishr, 1) := by decide +kernel
theorem dN_obey_3 : decode bN_obey 3 = .ok (.istore_n 2, 1) := by decide +kernel
theorem dN_obey_4 : decode bN_obey 4 = .ok (.iload_n 1, 1) := by decide +kernel
theorem dN_obey_5 : decode bN_obey 5 = .ok (.bipush 7, 2) := by decide +kernel
theorem dN_obey_7 : decode bN_obey 7 = .ok (.iand, 1) := by decide +kernel
theorem dN_obey_8 : decode bN_obey 8 = .ok (.istore_n 3, 1) := by decide +kernel
theorem dN_obey_9 : decode bN_obey 9 = .ok (.iload_n 2, 1) := by decide +kernel
theorem dN_obey_10 : decode bN_obey 10 = .ok (.iconst 2, 1) := by decide +kernel
theorem dN_obey_11 : decode bN_obey 11 = .ok (.if_icmp .ge 11, 3) := by decide +kernel
theorem dN_obey_14 : decode bN_obey 14 = .ok (.aload_n 0, 1) := by decide +kernel
theorem dN_obey_15 : decode bN_obey 15 = .ok (.iload_n 1, 1) := by decide +kernel
theorem dN_obey_16 : decode bN_obey 16 = .ok (.invokevirtual 100, 3) := by decide +kernel
theorem dN_obey_19 : decode bN_obey 19 = .ok (.goto 121, 3) := by decide +kernel
theorem dN_obey_22 : decode bN_obey 22 = .ok (.iload_n 2, 1) := by decide +kernel
theorem dN_obey_23 : decode bN_obey 23 = .ok (.bipush 8, 2) := by decide +kernel
theorem dN_obey_25 : decode bN_obey 25 = .ok (.if_icmp .ge 12, 3) := by decide +kernel
theorem dN_obey_28 : decode bN_obey 28 = .ok (.aload_n 0, 1) := by decide +kernel
theorem dN_obey_29 : decode bN_obey 29 = .ok (.iload_n 2, 1) := by decide +kernel
theorem dN_obey_30 : decode bN_obey 30 = .ok (.iload_n 3, 1) := by decide +kernel
theorem dN_obey_31 : decode bN_obey 31 = .ok (.invokevirtual 103, 3) := by decide +kernel
theorem dN_obey_34 : decode bN_obey 34 = .ok (.goto 106, 3) := by decide +kernel
theorem dN_obey_37 : decode bN_obey 37 = .ok (.iload_n 2, 1) := by decide +kernel
theorem dN_obey_38 : decode bN_obey 38 = .ok (.bipush 16, 2) := by decide +kernel
theorem dN_obey_40 : decode bN_obey 40 = .ok (.if_icmp .ge 19, 3) := by decide +kernel
theorem dN_obey_43 : decode bN_obey 43 = .ok (.aload_n 0, 1) := by decide +kernel
theorem dN_obey_44 : decode bN_obey 44 = .ok (.iload_n 2, 1) := by decide +kernel
theorem dN_obey_45 : decode bN_obey 45 = .ok (.bipush 8, 2) := by decide +kernel
theorem dN_obey_47 : decode bN_obey 47 = .ok (.isub, 1) := by decide +kernel
theorem dN_obey_48 : decode bN_obey 48 = .ok (.aload_n 0, 1) := by decide +kernel
theorem dN_obey_49 : decode bN_obey 49 = .ok (.iload_n 3, 1) := by decide +kernel
theorem dN_obey_50 : decode bN_obey 50 = .ok (.invokevirtual 74, 3) := by decide +kernel
theorem dN_obey_53 : decode bN_obey 53 = .ok (.invokevirtual 107, 3) := by decide +kernel
theorem dN_obey_56 : decode bN_obey 56 = .ok (.goto 84, 3) := by decide +kernel
theorem dN_obey_59 : decode bN_obey 59 = .ok (.iload_n 2, 1) := by decide +kernel
theorem dN_obey_60 : decode bN_obey 60 = .ok (.bipush 24, 2) := by decide +kernel
theorem dN_obey_62 : decode bN_obey 62 = .ok (.if_icmp .ge 19, 3) := by decide +kernel
theorem dN_obey_65 : decode bN_obey 65 = .ok (.aload_n 0, 1) := by decide +kernel
theorem dN_obey_66 : decode bN_obey 66 = .ok (.iload_n 2, 1) := by decide +kernel
theorem dN_obey_67 : decode bN_obey 67 = .ok (.bipush 16, 2) := by decide +kernel
theorem dN_obey_69 : decode bN_obey 69 = .ok (.isub, 1) := by decide +kernel
theorem dN_obey_70 : decode bN_obey 70 = .ok (.aload_n 0, 1) := by decide +kernel
theorem dN_obey_71 : decode bN_obey 71 = .ok (.iload_n 3, 1) := by decide +kernel
theorem dN_obey_72 : decode bN_obey 72 = .ok (.invokevirtual 74, 3) := by decide +kernel
theorem dN_obey_75 : decode bN_obey 75 = .ok (.invokevirtual 110, 3) := by decide +kernel
theorem dN_obey_78 : decode bN_obey 78 = .ok (.goto 62, 3) := by decide +kernel
theorem dN_obey_81 : decode bN_obey 81 = .ok (.iload_n 2, 1) := by decide +kernel
theorem dN_obey_82 : decode bN_obey 82 = .ok (.bipush 28, 2) := by decide +kernel
theorem dN_obey_84 : decode bN_obey 84 = .ok (.if_icmp .ge 15, 3) := by decide +kernel
theorem dN_obey_87 : decode bN_obey 87 = .ok (.aload_n 0, 1) := by decide +kernel
theorem dN_obey_88 : decode bN_obey 88 = .ok (.iload_n 2, 1) := by decide +kernel
theorem dN_obey_89 : decode bN_obey 89 = .ok (.bipush 24, 2) := by decide +kernel
theorem dN_obey_91 : decode bN_obey 91 = .ok (.isub, 1) := by decide +kernel
theorem dN_obey_92 : decode bN_obey 92 = .ok (.iload_n 3, 1) := by decide +kernel
theorem dN_obey_93 : decode bN_obey 93 = .ok (.invokevirtual 113, 3) := by decide +kernel
theorem dN_obey_96 : decode bN_obey 96 = .ok (.goto 44, 3) := by decide +kernel
theorem dN_obey_99 : decode bN_obey 99 = .ok (.iload_n 2, 1) := by decide +kernel
theorem dN_obey_100 : decode bN_obey 100 = .ok (.bipush 28, 2) := by decide +kernel
theorem dN_obey_102 : decode bN_obey 102 = .ok (.if_icmp .ne 15, 3) := by decide +kernel
theorem dN_obey_105 : decode bN_obey 105 = .ok (.aload_n 0, 1) := by decide +kernel
theorem dN_obey_106 : decode bN_obey 106 = .ok (.iload_n 3, 1) := by decide +kernel
theorem dN_obey_107 : decode bN_obey 107 = .ok (.aload_n 0, 1) := by decide +kernel
theorem dN_obey_108 : decode bN_obey 108 = .ok (.invokevirtual 88, 3) := by decide +kernel
theorem dN_obey_111 : decode bN_obey 111 = .ok (.invokevirtual 110, 3) := by decide +kernel
theorem dN_obey_114 : decode bN_obey 114 = .ok (.goto 26, 3) := by decide +kernel
theorem dN_obey_117 : decode bN_obey 117 = .ok (.iload_n 1, 1) := by decide +kernel
theorem dN_obey_118 : decode bN_obey 118 = .ok (.sipush 240, 3) := by decide +kernel
theorem dN_obey_121 : decode bN_obey 121 = .ok (.if_icmp .ne 14, 3) := by decide +kernel
theorem dN_obey_124 : decode bN_obey 124 = .ok (.aload_n 0, 1) := by decide +kernel
theorem dN_obey_125 : decode bN_obey 125 = .ok (.aload_n 0, 1) := by decide +kernel
theorem dN_obey_126 : decode bN_obey 126 = .ok (.invokevirtual 88, 3) := by decide +kernel
theorem dN_obey_129 : decode bN_obey 129 = .ok (.invokevirtual 116, 3) := by decide +kernel
theorem dN_obey_132 : decode bN_obey 132 = .ok (.goto 8, 3) := by decide +kernel
theorem dN_obey_135 : decode bN_obey 135 = .ok (.aload_n 0, 1) := by decide +kernel
theorem dN_obey_136 : decode bN_obey 136 = .ok (.iconst 3, 1) := by decide +kernel
theorem dN_obey_137 : decode bN_obey 137 = .ok (.invokevirtual 119, 3) := by decide +kernel
theorem dN_obey_140 : decode bN_obey 140 = .ok (.return_, 1) := by decide +kernel
theorem dN_obeySingle_0 : decode bN_obeySingle 0 = .ok (.iload_n 1, 1) := by decide +kernel
theorem dN_obeySingle_1 : decode bN_obeySingle 1 = .ok (.tableswitch 215 0 11 #[63, 66, 74, 82, 90, 98, 114, 121, 151, 165, 190, 201], 63) := by decide +kernel
theorem dN_obeySingle_64 : decode bN_obeySingle 64 = .ok (.goto 157, 3) := by decide +kernel
theorem dN_obeySingle_67 : decode bN_obeySingle 67 = .ok (.aload_n 0, 1) := by decide +kernel
theorem dN_obeySingle_68 : decode bN_obeySingle 68 = .ok (.iconst 1, 1) := by decide +kernel
theorem dN_obeySingle_69 : decode bN_obeySingle 69 = .ok (.invokevirtual 119, 3) := by decide +kernel
theorem dN_obeySingle_72 : decode bN_obeySingle 72 = .ok (.goto 149, 3) := by decide +kernel
theorem dN_obeySingle_75 : decode bN_obeySingle 75 = .ok (.aload_n 0, 1) := by decide +kernel
theorem dN_obeySingle_76 : decode bN_obeySingle 76 = .ok (.iconst 2, 1) := by decide +kernel
theorem dN_obeySingle_77 : decode bN_obeySingle 77 = .ok (.invokevirtual 119, 3) := by decide +kernel
theorem dN_obeySingle_80 : decode bN_obeySingle 80 = .ok (.goto 141, 3) := by decide +kernel
theorem dN_obeySingle_83 : decode bN_obeySingle 83 = .ok (.aload_n 0, 1) := by decide +kernel
theorem dN_obeySingle_84 : decode bN_obeySingle 84 = .ok (.iconst 0, 1) := by decide +kernel
theorem dN_obeySingle_85 : decode bN_obeySingle 85 = .ok (.putfield 36, 3) := by decide +kernel
theorem dN_obeySingle_88 : decode bN_obeySingle 88 = .ok (.goto 133, 3) := by decide +kernel
theorem dN_obeySingle_91 : decode bN_obeySingle 91 = .ok (.aload_n 0, 1) := by decide +kernel
theorem dN_obeySingle_92 : decode bN_obeySingle 92 = .ok (.iconst 1, 1) := by decide +kernel
theorem dN_obeySingle_93 : decode bN_obeySingle 93 = .ok (.putfield 40, 3) := by decide +kernel
theorem dN_obeySingle_96 : decode bN_obeySingle 96 = .ok (.goto 125, 3) := by decide +kernel
theorem dN_obeySingle_99 : decode bN_obeySingle 99 = .ok (.aload_n 0, 1) := by decide +kernel
theorem dN_obeySingle_100 : decode bN_obeySingle 100 = .ok (.aload_n 0, 1) := by decide +kernel
theorem dN_obeySingle_101 : decode bN_obeySingle 101 = .ok (.invokevirtual 122, 3) := by decide +kernel
theorem dN_obeySingle_104 : decode bN_obeySingle 104 = .ok (.putfield 29, 3) := by decide +kernel
theorem dN_obeySingle_107 : decode bN_obeySingle 107 = .ok (.aload_n 0, 1) := by decide +kernel
theorem dN_obeySingle_108 : decode bN_obeySingle 108 = .ok (.iconst 1, 1) := by decide +kernel
theorem dN_obeySingle_109 : decode bN_obeySingle 109 = .ok (.putfield 36, 3) := by decide +kernel
theorem dN_obeySingle_112 : decode bN_obeySingle 112 = .ok (.goto 109, 3) := by decide +kernel
theorem dN_obeySingle_115 : decode bN_obeySingle 115 = .ok (.aload_n 0, 1) := by decide +kernel
theorem dN_obeySingle_116 : decode bN_obeySingle 116 = .ok (.invokevirtual 125, 3) := by decide +kernel
theorem dN_obeySingle_119 : decode bN_obeySingle 119 = .ok (.goto 102, 3) := by decide +kernel
theorem dN_obeySingle_122 : decode bN_obeySingle 122 = .ok (.aload_n 0, 1) := by decide +kernel
theorem dN_obeySingle_123 : decode bN_obeySingle 123 = .ok (.getfield 9, 3) := by decide +kernel
theorem dN_obeySingle_126 : decode bN_obeySingle 126 = .ok (.bipush 7, 2) := by decide +kernel
theorem dN_obeySingle_128 : decode bN_obeySingle 128 = .ok (.dup2, 1) := by decide +kernel
theorem dN_obeySingle_129 : decode bN_obeySingle 129 = .ok (.iaload, 1) := by decide +kernel
theorem dN_obeySingle_130 : decode bN_obeySingle 130 = .ok (.sipush 255, 3) := by decide +kernel
theorem dN_obeySingle_133 : decode bN_obeySingle 133 = .ok (.ixor, 1) := by decide +kernel
theorem dN_obeySingle_134 : decode bN_obeySingle 134 = .ok (.iastore, 1) := by decide +kernel
theorem dN_obeySingle_135 : decode bN_obeySingle 135 = .ok (.aload_n 0, 1) := by decide +kernel
theorem dN_obeySingle_136 : decode bN_obeySingle 136 = .ok (.aload_n 0, 1) := by decide +kernel
theorem dN_obeySingle_137 : decode bN_obeySingle 137 = .ok (.getfield 58, 3) := by decide +kernel
theorem dN_obeySingle_140 : decode bN_obeySingle 140 = .ok (.iconst 1, 1) := by decide +kernel
theorem dN_obeySingle_141 : decode bN_obeySingle 141 = .ok (.iconst 1, 1) := by decide +kernel
theorem dN_obeySingle_142 : decode bN_obeySingle 142 = .ok (.aload_n 0, 1) := by decide +kernel
theorem dN_obeySingle_143 : decode bN_obeySingle 143 = .ok (.getfield 128, 3) := by decide +kernel
theorem dN_obeySingle_146 : decode bN_obeySingle 146 = .ok (.invokevirtual 32, 3) := by decide +kernel
theorem dN_obeySingle_149 : decode bN_obeySingle 149 = .ok (.goto 72, 3) := by decide +kernel
theorem dN_obeySingle_152 : decode bN_obeySingle 152 = .ok (.aload_n 0, 1) := by decide +kernel
theorem dN_obeySingle_153 : decode bN_obeySingle 153 = .ok (.aload_n 0, 1) := by decide +kernel
theorem dN_obeySingle_154 : decode bN_obeySingle 154 = .ok (.getfield 58, 3) := by decide +kernel
theorem dN_obeySingle_157 : decode bN_obeySingle 157 = .ok (.iconst 0, 1) := by decide +kernel
theorem dN_obeySingle_158 : decode bN_obeySingle 158 = .ok (.iconst 0, 1) := by decide +kernel
theorem dN_obeySingle_159 : decode bN_obeySingle 159 = .ok (.iconst 1, 1) := by decide +kernel
theorem dN_obeySingle_160 : decode bN_obeySingle 160 = .ok (.invokevirtual 32, 3) := by decide +kernel
theorem dN_obeySingle_163 : decode bN_obeySingle 163 = .ok (.goto 58, 3) := by decide +kernel
theorem dN_obeySingle_166 : decode bN_obeySingle 166 = .ok (.aload_n 0, 1) := by decide +kernel
theorem dN_obeySingle_167 : decode bN_obeySingle 167 = .ok (.aload_n 0, 1) := by decide +kernel
theorem dN_obeySingle_168 : decode bN_obeySingle 168 = .ok (.getfield 58, 3) := by decide +kernel
theorem dN_obeySingle_171 : decode bN_obeySingle 171 = .ok (.iconst 0, 1) := by decide +kernel
theorem dN_obeySingle_172 : decode bN_obeySingle 172 = .ok (.iconst 0, 1) := by decide +kernel
theorem dN_obeySingle_173 : decode bN_obeySingle 173 = .ok (.aload_n 0, 1) := by decide +kernel
theorem dN_obeySingle_174 : decode bN_obeySingle 174 = .ok (.getfield 128, 3) := by decide +kernel
theorem dN_obeySingle_177 : decode bN_obeySingle 177 = .ok (.ifCond .ne 7, 3) := by decide +kernel
theorem dN_obeySingle_180 : decode bN_obeySingle 180 = .ok (.iconst 1, 1) := by decide +kernel
theorem dN_obeySingle_181 : decode bN_obeySingle 181 = .ok (.goto 4, 3) := by decide +kernel
theorem dN_obeySingle_184 : decode bN_obeySingle 184 = .ok (.iconst 0, 1) := by decide +kernel
theorem dN_obeySingle_185 : decode bN_obeySingle 185 = .ok (.invokevirtual 32, 3) := by decide +kernel
theorem dN_obeySingle_188 : decode bN_obeySingle 188 = .ok (.goto 33, 3) := by decide +kernel
theorem dN_obeySingle_191 : decode bN_obeySingle 191 = .ok (.aload_n 0, 1) := by decide +kernel
theorem dN_obeySingle_192 : decode bN_obeySingle 192 = .ok (.aload_n 0, 1) := by decide +kernel
theorem dN_obeySingle_193 : decode bN_obeySingle 193 = .ok (.invokevirtual 122, 3) := by decide +kernel
theorem dN_obeySingle_196 : decode bN_obeySingle 196 = .ok (.putfield 29, 3) := by decide +kernel
theorem dN_obeySingle_199 : decode bN_obeySingle 199 = .ok (.goto 22, 3) := by decide +kernel
theorem dN_obeySingle_202 : decode bN_obeySingle 202 = .ok (.aload_n 0, 1) := by decide +kernel
theorem dN_obeySingle_203 : decode bN_obeySingle 203 = .ok (.aload_n 0, 1) := by decide +kernel
theorem dN_obeySingle_204 : decode bN_obeySingle 204 = .ok (.getfield 9, 3) := by decide +kernel
theorem dN_obeySingle_207 : decode bN_obeySingle 207 = .ok (.bipush 7, 2) := by decide +kernel
theorem dN_obeySingle_209 : decode bN_obeySingle 209 = .ok (.iaload, 1) := by decide +kernel
theorem dN_obeySingle_210 : decode bN_obeySingle 210 = .ok (.invokevirtual 131, 3) := by decide +kernel
theorem dN_obeySingle_213 : decode bN_obeySingle 213 = .ok (.goto 8, 3) := by decide +kernel
theorem dN_obeySingle_216 : decode bN_obeySingle 216 = .ok (.aload_n 0, 1) := by decide +kernel
theorem dN_obeySingle_217 : decode bN_obeySingle 217 = .ok (.iconst 3, 1) := by decide +kernel
theorem dN_obeySingle_218 : decode bN_obeySingle 218 = .ok (.invokevirtual 119, 3) := by decide +kernel
theorem dN_obeySingle_221 : decode bN_obeySingle 221 = .ok (.return_, 1) := by decide +kernel
theorem dN_obeyOnOne_0 : decode bN_obeyOnOne 0 = .ok (.iload_n 1, 1) := by decide +kernel
theorem dN_obeyOnOne_1 : decode bN_obeyOnOne 1 = .ok (.tableswitch 105 2 6 #[35, 52, 69, 81, 93], 35) := by decide +kernel
theorem dN_obeyOnOne_36 : decode bN_obeyOnOne 36 = .ok (.aload_n 0, 1) := by decide +kernel
theorem dN_obeyOnOne_37 : decode bN_obeyOnOne 37 = .ok (.iload_n 2, 1) := by decide +kernel
theorem dN_obeyOnOne_38 : decode bN_obeyOnOne 38 = .ok (.aload_n 0, 1) := by decide +kernel
theorem dN_obeyOnOne_39 : decode bN_obeyOnOne 39 = .ok (.aload_n 0, 1) := by decide +kernel
theorem dN_obeyOnOne_40 : decode bN_obeyOnOne 40 = .ok (.iload_n 2, 1) := by decide +kernel
theorem dN_obeyOnOne_41 : decode bN_obeyOnOne 41 = .ok (.invokevirtual 74, 3) := by decide +kernel
theorem dN_obeyOnOne_44 : decode bN_obeyOnOne 44 = .ok (.invokevirtual 134, 3) := by decide +kernel
theorem dN_obeyOnOne_47 : decode bN_obeyOnOne 47 = .ok (.invokevirtual 107, 3) := by decide +kernel
theorem dN_obeyOnOne_50 : decode bN_obeyOnOne 50 = .ok (.goto 70, 3) := by decide +kernel
theorem dN_obeyOnOne_53 : decode bN_obeyOnOne 53 = .ok (.aload_n 0, 1) := by decide +kernel
theorem dN_obeyOnOne_54 : decode bN_obeyOnOne 54 = .ok (.iload_n 2, 1) := by decide +kernel
theorem dN_obeyOnOne_55 : decode bN_obeyOnOne 55 = .ok (.aload_n 0, 1) := by decide +kernel
theorem dN_obeyOnOne_56 : decode bN_obeyOnOne 56 = .ok (.aload_n 0, 1) := by decide +kernel
theorem dN_obeyOnOne_57 : decode bN_obeyOnOne 57 = .ok (.iload_n 2, 1) := by decide +kernel
theorem dN_obeyOnOne_58 : decode bN_obeyOnOne 58 = .ok (.invokevirtual 74, 3) := by decide +kernel
theorem dN_obeyOnOne_61 : decode bN_obeyOnOne 61 = .ok (.invokevirtual 137, 3) := by decide +kernel
theorem dN_obeyOnOne_64 : decode bN_obeyOnOne 64 = .ok (.invokevirtual 107, 3) := by decide +kernel
theorem dN_obeyOnOne_67 : decode bN_obeyOnOne 67 = .ok (.goto 53, 3) := by decide +kernel
theorem dN_obeyOnOne_70 : decode bN_obeyOnOne 70 = .ok (.aload_n 0, 1) := by decide +kernel
theorem dN_obeyOnOne_71 : decode bN_obeyOnOne 71 = .ok (.aload_n 0, 1) := by decide +kernel
theorem dN_obeyOnOne_72 : decode bN_obeyOnOne 72 = .ok (.iload_n 2, 1) := by decide +kernel
theorem dN_obeyOnOne_73 : decode bN_obeyOnOne 73 = .ok (.invokevirtual 74, 3) := by decide +kernel
theorem dN_obeyOnOne_76 : decode bN_obeyOnOne 76 = .ok (.invokevirtual 97, 3) := by decide +kernel
theorem dN_obeyOnOne_79 : decode bN_obeyOnOne 79 = .ok (.goto 41, 3) := by decide +kernel
theorem dN_obeyOnOne_82 : decode bN_obeyOnOne 82 = .ok (.aload_n 0, 1) := by decide +kernel
theorem dN_obeyOnOne_83 : decode bN_obeyOnOne 83 = .ok (.iload_n 2, 1) := by decide +kernel
theorem dN_obeyOnOne_84 : decode bN_obeyOnOne 84 = .ok (.aload_n 0, 1) := by decide +kernel
theorem dN_obeyOnOne_85 : decode bN_obeyOnOne 85 = .ok (.invokevirtual 122, 3) := by decide +kernel
theorem dN_obeyOnOne_88 : decode bN_obeyOnOne 88 = .ok (.invokevirtual 107, 3) := by decide +kernel
theorem dN_obeyOnOne_91 : decode bN_obeyOnOne 91 = .ok (.goto 29, 3) := by decide +kernel
theorem dN_obeyOnOne_94 : decode bN_obeyOnOne 94 = .ok (.aload_n 0, 1) := by decide +kernel
theorem dN_obeyOnOne_95 : decode bN_obeyOnOne 95 = .ok (.iload_n 2, 1) := by decide +kernel
theorem dN_obeyOnOne_96 : decode bN_obeyOnOne 96 = .ok (.aload_n 0, 1) := by decide +kernel
theorem dN_obeyOnOne_97 : decode bN_obeyOnOne 97 = .ok (.invokevirtual 88, 3) := by decide +kernel
theorem dN_obeyOnOne_100 : decode bN_obeyOnOne 100 = .ok (.invokevirtual 107, 3) := by decide +kernel
theorem dN_obeyOnOne_103 : decode bN_obeyOnOne 103 = .ok (.goto 17, 3) := by decide +kernel
theorem dN_obeyOnOne_106 : decode bN_obeyOnOne 106 = .ok (.aload_n 0, 1) := by decide +kernel
theorem dN_obeyOnOne_107 : decode bN_obeyOnOne 107 = .ok (.iload_n 2, 1) := by decide +kernel
theorem dN_obeyOnOne_108 : decode bN_obeyOnOne 108 = .ok (.aload_n 0, 1) := by decide +kernel
theorem dN_obeyOnOne_109 : decode bN_obeyOnOne 109 = .ok (.aload_n 0, 1) := by decide +kernel
theorem dN_obeyOnOne_110 : decode bN_obeyOnOne 110 = .ok (.iload_n 2, 1) := by decide +kernel
theorem dN_obeyOnOne_111 : decode bN_obeyOnOne 111 = .ok (.invokevirtual 74, 3) := by decide +kernel
theorem dN_obeyOnOne_114 : decode bN_obeyOnOne 114 = .ok (.invokevirtual 140, 3) := by decide +kernel
theorem dN_obeyOnOne_117 : decode bN_obeyOnOne 117 = .ok (.invokevirtual 107, 3) := by decide +kernel
theorem dN_obeyOnOne_120 : decode bN_obeyOnOne 120 = .ok (.return_, 1) := by decide +kernel
theorem dN_obeyJump_0 : decode bN_obeyJump 0 = .ok (.iload_n 2, 1) := by decide +kernel
theorem dN_obeyJump_1 : decode bN_obeyJump 1 = .ok (.iconst 4, 1) := by decide +kernel
theorem dN_obeyJump_2 : decode bN_obeyJump 2 = .ok (.if_icmp .le 9, 3) := by decide +kernel
theorem dN_obeyJump_5 : decode bN_obeyJump 5 = .ok (.aload_n 0, 1) := by decide +kernel
theorem dN_obeyJump_6 : decode bN_obeyJump 6 = .ok (.iconst 3, 1) := by decide +kernel
theorem dN_obeyJump_7 : decode bN_obeyJump 7 = .ok (.invokevirtual 119, 3) := by decide +kernel
theorem dN_obeyJump_10 : decode bN_obeyJump 10 = .ok (.return_, 1) := by decide +kernel
theorem dN_obeyJump_11 : decode bN_obeyJump 11 = .ok (.iload_n 1, 1) := by decide +kernel
theorem dN_obeyJump_12 : decode bN_obeyJump 12 = .ok (.iconst 2, 1) := by decide +kernel
theorem dN_obeyJump_13 : decode bN_obeyJump 13 = .ok (.if_icmp .ne 7, 3) := by decide +kernel
theorem dN_obeyJump_16 : decode bN_obeyJump 16 = .ok (.iconst 1, 1) := by decide +kernel
theorem dN_obeyJump_17 : decode bN_obeyJump 17 = .ok (.goto 4, 3) := by decide +kernel
theorem dN_obeyJump_20 : decode bN_obeyJump 20 = .ok (.iconst 0, 1) := by decide +kernel
theorem dN_obeyJump_21 : decode bN_obeyJump 21 = .ok (.istore_n 3, 1) := by decide +kernel
theorem dN_obeyJump_22 : decode bN_obeyJump 22 = .ok (.iload_n 3, 1) := by decide +kernel
theorem dN_obeyJump_23 : decode bN_obeyJump 23 = .ok (.ifCond .eq 7, 3) := by decide +kernel
theorem dN_obeyJump_26 : decode bN_obeyJump 26 = .ok (.iconst 0, 1) := by decide +kernel
theorem dN_obeyJump_27 : decode bN_obeyJump 27 = .ok (.goto 7, 3) := by decide +kernel
theorem dN_obeyJump_30 : decode bN_obeyJump 30 = .ok (.aload_n 0, 1) := by decide +kernel
theorem dN_obeyJump_31 : decode bN_obeyJump 31 = .ok (.invokevirtual 88, 3) := by decide +kernel
theorem dN_obeyJump_34 : decode bN_obeyJump 34 = .ok (.istore 4, 2) := by decide +kernel
theorem dN_obeyJump_36 : decode bN_obeyJump 36 = .ok (.aload_n 0, 1) := by decide +kernel
theorem dN_obeyJump_37 : decode bN_obeyJump 37 = .ok (.iload_n 2, 1) := by decide +kernel
theorem dN_obeyJump_38 : decode bN_obeyJump 38 = .ok (.invokevirtual 143, 3) := by decide +kernel
theorem dN_obeyJump_41 : decode bN_obeyJump 41 = .ok (.ifCond .ne 4, 3) := by decide +kernel
theorem dN_obeyJump_44 : decode bN_obeyJump 44 = .ok (.return_, 1) := by decide +kernel
theorem dN_obeyJump_45 : decode bN_obeyJump 45 = .ok (.iload_n 1, 1) := by decide +kernel
theorem dN_obeyJump_46 : decode bN_obeyJump 46 = .ok (.iconst 1, 1) := by decide +kernel
theorem dN_obeyJump_47 : decode bN_obeyJump 47 = .ok (.if_icmp .ne 11, 3) := by decide +kernel
theorem dN_obeyJump_50 : decode bN_obeyJump 50 = .ok (.aload_n 0, 1) := by decide +kernel
theorem dN_obeyJump_51 : decode bN_obeyJump 51 = .ok (.aload_n 0, 1) := by decide +kernel
theorem dN_obeyJump_52 : decode bN_obeyJump 52 = .ok (.getfield 29, 3) := by decide +kernel
theorem dN_obeyJump_55 : decode bN_obeyJump 55 = .ok (.invokevirtual 97, 3) := by decide +kernel
theorem dN_obeyJump_58 : decode bN_obeyJump 58 = .ok (.iload_n 3, 1) := by decide +kernel
theorem dN_obeyJump_59 : decode bN_obeyJump 59 = .ok (.ifCond .eq 14, 3) := by decide +kernel
theorem dN_obeyJump_62 : decode bN_obeyJump 62 = .ok (.aload_n 0, 1) := by decide +kernel
theorem dN_obeyJump_63 : decode bN_obeyJump 63 = .ok (.aload_n 0, 1) := by decide +kernel
theorem dN_obeyJump_64 : decode bN_obeyJump 64 = .ok (.invokevirtual 122, 3) := by decide +kernel
theorem dN_obeyJump_67 : decode bN_obeyJump 67 = .ok (.putfield 29, 3) := by decide +kernel
theorem dN_obeyJump_70 : decode bN_obeyJump 70 = .ok (.goto 28, 3) := by decide +kernel
theorem dN_obeyJump_73 : decode bN_obeyJump 73 = .ok (.aload_n 0, 1) := by decide +kernel
theorem dN_obeyJump_74 : decode bN_obeyJump 74 = .ok (.iload_n 1, 1) := by decide +kernel
theorem dN_obeyJump_75 : decode bN_obeyJump 75 = .ok (.iconst 3, 1) := by decide +kernel
theorem dN_obeyJump_76 : decode bN_obeyJump 76 = .ok (.if_icmp .ne 17, 3) := by decide +kernel
theorem dN_obeyJump_79 : decode bN_obeyJump 79 = .ok (.aload_n 0, 1) := by decide +kernel
theorem dN_obeyJump_80 : decode bN_obeyJump 80 = .ok (.getfield 29, 3) := by decide +kernel
theorem dN_obeyJump_83 : decode bN_obeyJump 83 = .ok (.iload 4, 2) := by decide +kernel
theorem dN_obeyJump_85 : decode bN_obeyJump 85 = .ok (.iadd, 1) := by decide +kernel
theorem dN_obeyJump_86 : decode bN_obeyJump 86 = .ok (.sipush 255, 3) := by decide +kernel
theorem dN_obeyJump_89 : decode bN_obeyJump 89 = .ok (.iand, 1) := by decide +kernel
theorem dN_obeyJump_90 : decode bN_obeyJump 90 = .ok (.goto 5, 3) := by decide +kernel
theorem dN_obeyJump_93 : decode bN_obeyJump 93 = .ok (.iload 4, 2) := by decide +kernel
theorem dN_obeyJump_95 : decode bN_obeyJump 95 = .ok (.putfield 29, 3) := by decide +kernel
theorem dN_obeyJump_98 : decode bN_obeyJump 98 = .ok (.return_, 1) := by decide +kernel
theorem dN_holds_0 : decode bN_holds 0 = .ok (.iload_n 1, 1) := by decide +kernel
theorem dN_holds_1 : decode bN_holds 1 = .ok (.tableswitch 64 0 3 #[31, 33, 46, 51], 31) := by decide +kernel
theorem dN_holds_32 : decode bN_holds 32 = .ok (.iconst 1, 1) := by decide +kernel
theorem dN_holds_33 : decode bN_holds 33 = .ok (.ireturn, 1) := by decide +kernel
theorem dN_holds_34 : decode bN_holds 34 = .ok (.aload_n 0, 1) := by decide +kernel
theorem dN_holds_35 : decode bN_holds 35 = .ok (.getfield 58, 3) := by decide +kernel
theorem dN_holds_38 : decode bN_holds 38 = .ok (.ifCond .ne 7, 3) := by decide +kernel
theorem dN_holds_41 : decode bN_holds 41 = .ok (.iconst 1, 1) := by decide +kernel
theorem dN_holds_42 : decode bN_holds 42 = .ok (.goto 4, 3) := by decide +kernel
theorem dN_holds_45 : decode bN_holds 45 = .ok (.iconst 0, 1) := by decide +kernel
theorem dN_holds_46 : decode bN_holds 46 = .ok (.ireturn, 1) := by decide +kernel
theorem dN_holds_47 : decode bN_holds 47 = .ok (.aload_n 0, 1) := by decide +kernel
theorem dN_holds_48 : decode bN_holds 48 = .ok (.getfield 58, 3) := by decide +kernel
theorem dN_holds_51 : decode bN_holds 51 = .ok (.ireturn, 1) := by decide +kernel
theorem dN_holds_52 : decode bN_holds 52 = .ok (.aload_n 0, 1) := by decide +kernel
theorem dN_holds_53 : decode bN_holds 53 = .ok (.getfield 128, 3) := by decide +kernel
theorem dN_holds_56 : decode bN_holds 56 = .ok (.ifCond .ne 7, 3) := by decide +kernel
theorem dN_holds_59 : decode bN_holds 59 = .ok (.iconst 1, 1) := by decide +kernel
theorem dN_holds_60 : decode bN_holds 60 = .ok (.goto 4, 3) := by decide +kernel
theorem dN_holds_63 : decode bN_holds 63 = .ok (.iconst 0, 1) := by decide +kernel
theorem dN_holds_64 : decode bN_holds 64 = .ok (.ireturn, 1) := by decide +kernel
theorem dN_holds_65 : decode bN_holds 65 = .ok (.aload_n 0, 1) := by decide +kernel
theorem dN_holds_66 : decode bN_holds 66 = .ok (.getfield 128, 3) := by decide +kernel
theorem dN_holds_69 : decode bN_holds 69 = .ok (.ireturn, 1) := by decide +kernel
theorem dN_calculate_0 : decode bN_calculate 0 = .ok (.iload_n 1, 1) := by decide +kernel
theorem dN_calculate_1 : decode bN_calculate 1 = .ok (.tableswitch 221 0 6 #[43, 59, 78, 94, 113, 149, 185], 43) := by decide +kernel
theorem dN_calculate_44 : decode bN_calculate 44 = .ok (.aload_n 0, 1) := by decide +kernel
theorem dN_calculate_45 : decode bN_calculate 45 = .ok (.getfield 9, 3) := by decide +kernel
theorem dN_calculate_48 : decode bN_calculate 48 = .ok (.bipush 7, 2) := by decide +kernel
theorem dN_calculate_50 : decode bN_calculate 50 = .ok (.aload_n 0, 1) := by decide +kernel
theorem dN_calculate_51 : decode bN_calculate 51 = .ok (.iload_n 2, 1) := by decide +kernel
theorem dN_calculate_52 : decode bN_calculate 52 = .ok (.iconst 0, 1) := by decide +kernel
theorem dN_calculate_53 : decode bN_calculate 53 = .ok (.invokevirtual 147, 3) := by decide +kernel
theorem dN_calculate_56 : decode bN_calculate 56 = .ok (.iastore, 1) := by decide +kernel
theorem dN_calculate_57 : decode bN_calculate 57 = .ok (.goto 172, 3) := by decide +kernel
theorem dN_calculate_60 : decode bN_calculate 60 = .ok (.aload_n 0, 1) := by decide +kernel
theorem dN_calculate_61 : decode bN_calculate 61 = .ok (.getfield 9, 3) := by decide +kernel
theorem dN_calculate_64 : decode bN_calculate 64 = .ok (.bipush 7, 2) := by decide +kernel
theorem dN_calculate_66 : decode bN_calculate 66 = .ok (.aload_n 0, 1) := by decide +kernel
theorem dN_calculate_67 : decode bN_calculate 67 = .ok (.iload_n 2, 1) := by decide +kernel
theorem dN_calculate_68 : decode bN_calculate 68 = .ok (.aload_n 0, 1) := by decide +kernel
theorem dN_calculate_69 : decode bN_calculate 69 = .ok (.invokevirtual 67, 3) := by decide +kernel
theorem dN_calculate_72 : decode bN_calculate 72 = .ok (.invokevirtual 147, 3) := by decide +kernel
theorem dN_calculate_75 : decode bN_calculate 75 = .ok (.iastore, 1) := by decide +kernel
theorem dN_calculate_76 : decode bN_calculate 76 = .ok (.goto 153, 3) := by decide +kernel
theorem dN_calculate_79 : decode bN_calculate 79 = .ok (.aload_n 0, 1) := by decide +kernel
theorem dN_calculate_80 : decode bN_calculate 80 = .ok (.getfield 9, 3) := by decide +kernel
theorem dN_calculate_83 : decode bN_calculate 83 = .ok (.bipush 7, 2) := by decide +kernel
theorem dN_calculate_85 : decode bN_calculate 85 = .ok (.aload_n 0, 1) := by decide +kernel
theorem dN_calculate_86 : decode bN_calculate 86 = .ok (.iload_n 2, 1) := by decide +kernel
theorem dN_calculate_87 : decode bN_calculate 87 = .ok (.iconst 0, 1) := by decide +kernel
theorem dN_calculate_88 : decode bN_calculate 88 = .ok (.invokevirtual 150, 3) := by decide +kernel
theorem dN_calculate_91 : decode bN_calculate 91 = .ok (.iastore, 1) := by decide +kernel
theorem dN_calculate_92 : decode bN_calculate 92 = .ok (.goto 137, 3) := by decide +kernel
theorem dN_calculate_95 : decode bN_calculate 95 = .ok (.aload_n 0, 1) := by decide +kernel
theorem dN_calculate_96 : decode bN_calculate 96 = .ok (.getfield 9, 3) := by decide +kernel
theorem dN_calculate_99 : decode bN_calculate 99 = .ok (.bipush 7, 2) := by decide +kernel
theorem dN_calculate_101 : decode bN_calculate 101 = .ok (.aload_n 0, 1) := by decide +kernel
theorem dN_calculate_102 : decode bN_calculate 102 = .ok (.iload_n 2, 1) := by decide +kernel
theorem dN_calculate_103 : decode bN_calculate 103 = .ok (.aload_n 0, 1) := by decide +kernel
theorem dN_calculate_104 : decode bN_calculate 104 = .ok (.invokevirtual 67, 3) := by decide +kernel
theorem dN_calculate_107 : decode bN_calculate 107 = .ok (.invokevirtual 150, 3) := by decide +kernel
theorem dN_calculate_110 : decode bN_calculate 110 = .ok (.iastore, 1) := by decide +kernel
theorem dN_calculate_111 : decode bN_calculate 111 = .ok (.goto 118, 3) := by decide +kernel
theorem dN_calculate_114 : decode bN_calculate 114 = .ok (.aload_n 0, 1) := by decide +kernel
theorem dN_calculate_115 : decode bN_calculate 115 = .ok (.getfield 9, 3) := by decide +kernel
theorem dN_calculate_118 : decode bN_calculate 118 = .ok (.bipush 7, 2) := by decide +kernel
theorem dN_calculate_120 : decode bN_calculate 120 = .ok (.dup2, 1) := by decide +kernel
theorem dN_calculate_121 : decode bN_calculate 121 = .ok (.iaload, 1) := by decide +kernel
theorem dN_calculate_122 : decode bN_calculate 122 = .ok (.iload_n 2, 1) := by decide +kernel
theorem dN_calculate_123 : decode bN_calculate 123 = .ok (.iand, 1) := by decide +kernel
theorem dN_calculate_124 : decode bN_calculate 124 = .ok (.iastore, 1) := by decide +kernel
theorem dN_calculate_125 : decode bN_calculate 125 = .ok (.aload_n 0, 1) := by decide +kernel
theorem dN_calculate_126 : decode bN_calculate 126 = .ok (.aload_n 0, 1) := by decide +kernel
theorem dN_calculate_127 : decode bN_calculate 127 = .ok (.getfield 9, 3) := by decide +kernel
theorem dN_calculate_130 : decode bN_calculate 130 = .ok (.bipush 7, 2) := by decide +kernel
theorem dN_calculate_132 : decode bN_calculate 132 = .ok (.iaload, 1) := by decide +kernel
theorem dN_calculate_133 : decode bN_calculate 133 = .ok (.ifCond .ne 7, 3) := by decide +kernel
theorem dN_calculate_136 : decode bN_calculate 136 = .ok (.iconst 1, 1) := by decide +kernel
theorem dN_calculate_137 : decode bN_calculate 137 = .ok (.goto 4, 3) := by decide +kernel
theorem dN_calculate_140 : decode bN_calculate 140 = .ok (.iconst 0, 1) := by decide +kernel
theorem dN_calculate_141 : decode bN_calculate 141 = .ok (.iconst 0, 1) := by decide +kernel
theorem dN_calculate_142 : decode bN_calculate 142 = .ok (.iconst 1, 1) := by decide +kernel
theorem dN_calculate_143 : decode bN_calculate 143 = .ok (.iconst 0, 1) := by decide +kernel
theorem dN_calculate_144 : decode bN_calculate 144 = .ok (.invokevirtual 32, 3) := by decide +kernel
theorem dN_calculate_147 : decode bN_calculate 147 = .ok (.goto 82, 3) := by decide +kernel
theorem dN_calculate_150 : decode bN_calculate 150 = .ok (.aload_n 0, 1) := by decide +kernel
theorem dN_calculate_151 : decode bN_calculate 151 = .ok (.getfield 9, 3) := by decide +kernel
theorem dN_calculate_154 : decode bN_calculate 154 = .ok (.bipush 7, 2) := by decide +kernel
theorem dN_calculate_156 : decode bN_calculate 156 = .ok (.dup2, 1) := by decide +kernel
theorem dN_calculate_157 : decode bN_calculate 157 = .ok (.iaload, 1) := by decide +kernel
theorem dN_calculate_158 : decode bN_calculate 158 = .ok (.iload_n 2, 1) := by decide +kernel
theorem dN_calculate_159 : decode bN_calculate 159 = .ok (.ixor, 1) := by decide +kernel
theorem dN_calculate_160 : decode bN_calculate 160 = .ok (.iastore, 1) := by decide +kernel
theorem dN_calculate_161 : decode bN_calculate 161 = .ok (.aload_n 0, 1) := by decide +kernel
theorem dN_calculate_162 : decode bN_calculate 162 = .ok (.aload_n 0, 1) := by decide +kernel
theorem dN_calculate_163 : decode bN_calculate 163 = .ok (.getfield 9, 3) := by decide +kernel
theorem dN_calculate_166 : decode bN_calculate 166 = .ok (.bipush 7, 2) := by decide +kernel
theorem dN_calculate_168 : decode bN_calculate 168 = .ok (.iaload, 1) := by decide +kernel
theorem dN_calculate_169 : decode bN_calculate 169 = .ok (.ifCond .ne 7, 3) := by decide +kernel
theorem dN_calculate_172 : decode bN_calculate 172 = .ok (.iconst 1, 1) := by decide +kernel
theorem dN_calculate_173 : decode bN_calculate 173 = .ok (.goto 4, 3) := by decide +kernel
theorem dN_calculate_176 : decode bN_calculate 176 = .ok (.iconst 0, 1) := by decide +kernel
theorem dN_calculate_177 : decode bN_calculate 177 = .ok (.iconst 0, 1) := by decide +kernel
theorem dN_calculate_178 : decode bN_calculate 178 = .ok (.iconst 0, 1) := by decide +kernel
theorem dN_calculate_179 : decode bN_calculate 179 = .ok (.iconst 0, 1) := by decide +kernel
theorem dN_calculate_180 : decode bN_calculate 180 = .ok (.invokevirtual 32, 3) := by decide +kernel
theorem dN_calculate_183 : decode bN_calculate 183 = .ok (.goto 46, 3) := by decide +kernel
theorem dN_calculate_186 : decode bN_calculate 186 = .ok (.aload_n 0, 1) := by decide +kernel
theorem dN_calculate_187 : decode bN_calculate 187 = .ok (.getfield 9, 3) := by decide +kernel
theorem dN_calculate_190 : decode bN_calculate 190 = .ok (.bipush 7, 2) := by decide +kernel
theorem dN_calculate_192 : decode bN_calculate 192 = .ok (.dup2, 1) := by decide +kernel
theorem dN_calculate_193 : decode bN_calculate 193 = .ok (.iaload, 1) := by decide +kernel
theorem dN_calculate_194 : decode bN_calculate 194 = .ok (.iload_n 2, 1) := by decide +kernel
theorem dN_calculate_195 : decode bN_calculate 195 = .ok (.ior, 1) := by decide +kernel
theorem dN_calculate_196 : decode bN_calculate 196 = .ok (.iastore, 1) := by decide +kernel
theorem dN_calculate_197 : decode bN_calculate 197 = .ok (.aload_n 0, 1) := by decide +kernel
theorem dN_calculate_198 : decode bN_calculate 198 = .ok (.aload_n 0, 1) := by decide +kernel
theorem dN_calculate_199 : decode bN_calculate 199 = .ok (.getfield 9, 3) := by decide +kernel
theorem dN_calculate_202 : decode bN_calculate 202 = .ok (.bipush 7, 2) := by decide +kernel
theorem dN_calculate_204 : decode bN_calculate 204 = .ok (.iaload, 1) := by decide +kernel
theorem dN_calculate_205 : decode bN_calculate 205 = .ok (.ifCond .ne 7, 3) := by decide +kernel
theorem dN_calculate_208 : decode bN_calculate 208 = .ok (.iconst 1, 1) := by decide +kernel
theorem dN_calculate_209 : decode bN_calculate 209 = .ok (.goto 4, 3) := by decide +kernel
theorem dN_calculate_212 : decode bN_calculate 212 = .ok (.iconst 0, 1) := by decide +kernel
theorem dN_calculate_213 : decode bN_calculate 213 = .ok (.iconst 0, 1) := by decide +kernel
theorem dN_calculate_214 : decode bN_calculate 214 = .ok (.iconst 0, 1) := by decide +kernel
theorem dN_calculate_215 : decode bN_calculate 215 = .ok (.iconst 0, 1) := by decide +kernel
theorem dN_calculate_216 : decode bN_calculate 216 = .ok (.invokevirtual 32, 3) := by decide +kernel
theorem dN_calculate_219 : decode bN_calculate 219 = .ok (.goto 10, 3) := by decide +kernel
theorem dN_calculate_222 : decode bN_calculate 222 = .ok (.aload_n 0, 1) := by decide +kernel
theorem dN_calculate_223 : decode bN_calculate 223 = .ok (.iload_n 2, 1) := by decide +kernel
theorem dN_calculate_224 : decode bN_calculate 224 = .ok (.iconst 0, 1) := by decide +kernel
theorem dN_calculate_225 : decode bN_calculate 225 = .ok (.invokevirtual 150, 3) := by decide +kernel
theorem dN_calculate_228 : decode bN_calculate 228 = .ok (.pop, 1) := by decide +kernel
theorem dN_calculate_229 : decode bN_calculate 229 = .ok (.return_, 1) := by decide +kernel
theorem dN_sum_0 : decode bN_sum 0 = .ok (.aload_n 0, 1) := by decide +kernel
theorem dN_sum_1 : decode bN_sum 1 = .ok (.getfield 9, 3) := by decide +kernel
theorem dN_sum_4 : decode bN_sum 4 = .ok (.bipush 7, 2) := by decide +kernel
theorem dN_sum_6 : decode bN_sum 6 = .ok (.iaload, 1) := by decide +kernel
theorem dN_sum_7 : decode bN_sum 7 = .ok (.istore_n 3, 1) := by decide +kernel
theorem dN_sum_8 : decode bN_sum 8 = .ok (.iload_n 3, 1) := by decide +kernel
theorem dN_sum_9 : decode bN_sum 9 = .ok (.iload_n 1, 1) := by decide +kernel
theorem dN_sum_10 : decode bN_sum 10 = .ok (.iadd, 1) := by decide +kernel
theorem dN_sum_11 : decode bN_sum 11 = .ok (.iload_n 2, 1) := by decide +kernel
theorem dN_sum_12 : decode bN_sum 12 = .ok (.iadd, 1) := by decide +kernel
theorem dN_sum_13 : decode bN_sum 13 = .ok (.istore 4, 2) := by decide +kernel
theorem dN_sum_15 : decode bN_sum 15 = .ok (.iload_n 3, 1) := by decide +kernel
theorem dN_sum_16 : decode bN_sum 16 = .ok (.bipush 15, 2) := by decide +kernel
theorem dN_sum_18 : decode bN_sum 18 = .ok (.iand, 1) := by decide +kernel
theorem dN_sum_19 : decode bN_sum 19 = .ok (.iload_n 1, 1) := by decide +kernel
theorem dN_sum_20 : decode bN_sum 20 = .ok (.bipush 15, 2) := by decide +kernel
theorem dN_sum_22 : decode bN_sum 22 = .ok (.iand, 1) := by decide +kernel
theorem dN_sum_23 : decode bN_sum 23 = .ok (.iadd, 1) := by decide +kernel
theorem dN_sum_24 : decode bN_sum 24 = .ok (.iload_n 2, 1) := by decide +kernel
theorem dN_sum_25 : decode bN_sum 25 = .ok (.iadd, 1) := by decide +kernel
theorem dN_sum_26 : decode bN_sum 26 = .ok (.istore 5, 2) := by decide +kernel
theorem dN_sum_28 : decode bN_sum 28 = .ok (.aload_n 0, 1) := by decide +kernel
theorem dN_sum_29 : decode bN_sum 29 = .ok (.iload 4, 2) := by decide +kernel
theorem dN_sum_31 : decode bN_sum 31 = .ok (.sipush 255, 3) := by decide +kernel
theorem dN_sum_34 : decode bN_sum 34 = .ok (.iand, 1) := by decide +kernel
theorem dN_sum_35 : decode bN_sum 35 = .ok (.ifCond .ne 7, 3) := by decide +kernel
theorem dN_sum_38 : decode bN_sum 38 = .ok (.iconst 1, 1) := by decide +kernel
theorem dN_sum_39 : decode bN_sum 39 = .ok (.goto 4, 3) := by decide +kernel
theorem dN_sum_42 : decode bN_sum 42 = .ok (.iconst 0, 1) := by decide +kernel
theorem dN_sum_43 : decode bN_sum 43 = .ok (.iconst 0, 1) := by decide +kernel
theorem dN_sum_44 : decode bN_sum 44 = .ok (.iload 5, 2) := by decide +kernel
theorem dN_sum_46 : decode bN_sum 46 = .ok (.bipush 15, 2) := by decide +kernel
theorem dN_sum_48 : decode bN_sum 48 = .ok (.if_icmp .le 7, 3) := by decide +kernel
theorem dN_sum_51 : decode bN_sum 51 = .ok (.iconst 1, 1) := by decide +kernel
theorem dN_sum_52 : decode bN_sum 52 = .ok (.goto 4, 3) := by decide +kernel
theorem dN_sum_55 : decode bN_sum 55 = .ok (.iconst 0, 1) := by decide +kernel
theorem dN_sum_56 : decode bN_sum 56 = .ok (.iload 4, 2) := by decide +kernel
theorem dN_sum_58 : decode bN_sum 58 = .ok (.sipush 255, 3) := by decide +kernel
theorem dN_sum_61 : decode bN_sum 61 = .ok (.if_icmp .le 7, 3) := by decide +kernel
theorem dN_sum_64 : decode bN_sum 64 = .ok (.iconst 1, 1) := by decide +kernel
theorem dN_sum_65 : decode bN_sum 65 = .ok (.goto 4, 3) := by decide +kernel
theorem dN_sum_68 : decode bN_sum 68 = .ok (.iconst 0, 1) := by decide +kernel
theorem dN_sum_69 : decode bN_sum 69 = .ok (.invokevirtual 32, 3) := by decide +kernel
theorem dN_sum_72 : decode bN_sum 72 = .ok (.iload 4, 2) := by decide +kernel
theorem dN_sum_74 : decode bN_sum 74 = .ok (.sipush 255, 3) := by decide +kernel
theorem dN_sum_77 : decode bN_sum 77 = .ok (.iand, 1) := by decide +kernel
theorem dN_sum_78 : decode bN_sum 78 = .ok (.ireturn, 1) := by decide +kernel
theorem dN_difference_0 : decode bN_difference 0 = .ok (.aload_n 0, 1) := by decide +kernel
theorem dN_difference_1 : decode bN_difference 1 = .ok (.getfield 9, 3) := by decide +kernel
theorem dN_difference_4 : decode bN_difference 4 = .ok (.bipush 7, 2) := by decide +kernel
theorem dN_difference_6 : decode bN_difference 6 = .ok (.iaload, 1) := by decide +kernel
theorem dN_difference_7 : decode bN_difference 7 = .ok (.istore_n 3, 1) := by decide +kernel
theorem dN_difference_8 : decode bN_difference 8 = .ok (.iload_n 3, 1) := by decide +kernel
theorem dN_difference_9 : decode bN_difference 9 = .ok (.iload_n 1, 1) := by decide +kernel
theorem dN_difference_10 : decode bN_difference 10 = .ok (.isub, 1) := by decide +kernel
theorem dN_difference_11 : decode bN_difference 11 = .ok (.iload_n 2, 1) := by decide +kernel
theorem dN_difference_12 : decode bN_difference 12 = .ok (.isub, 1) := by decide +kernel
theorem dN_difference_13 : decode bN_difference 13 = .ok (.istore 4, 2) := by decide +kernel
theorem dN_difference_15 : decode bN_difference 15 = .ok (.iload_n 3, 1) := by decide +kernel
theorem dN_difference_16 : decode bN_difference 16 = .ok (.bipush 15, 2) := by decide +kernel
theorem dN_difference_18 : decode bN_difference 18 = .ok (.iand, 1) := by decide +kernel
theorem dN_difference_19 : decode bN_difference 19 = .ok (.iload_n 1, 1) := by decide +kernel
theorem dN_difference_20 : decode bN_difference 20 = .ok (.bipush 15, 2) := by decide +kernel
theorem dN_difference_22 : decode bN_difference 22 = .ok (.iand, 1) := by decide +kernel
theorem dN_difference_23 : decode bN_difference 23 = .ok (.isub, 1) := by decide +kernel
theorem dN_difference_24 : decode bN_difference 24 = .ok (.iload_n 2, 1) := by decide +kernel
theorem dN_difference_25 : decode bN_difference 25 = .ok (.isub, 1) := by decide +kernel
theorem dN_difference_26 : decode bN_difference 26 = .ok (.istore 5, 2) := by decide +kernel
theorem dN_difference_28 : decode bN_difference 28 = .ok (.aload_n 0, 1) := by decide +kernel
theorem dN_difference_29 : decode bN_difference 29 = .ok (.iload 4, 2) := by decide +kernel
theorem dN_difference_31 : decode bN_difference 31 = .ok (.sipush 255, 3) := by decide +kernel
theorem dN_difference_34 : decode bN_difference 34 = .ok (.iand, 1) := by decide +kernel
theorem dN_difference_35 : decode bN_difference 35 = .ok (.ifCond .ne 7, 3) := by decide +kernel
theorem dN_difference_38 : decode bN_difference 38 = .ok (.iconst 1, 1) := by decide +kernel
theorem dN_difference_39 : decode bN_difference 39 = .ok (.goto 4, 3) := by decide +kernel
theorem dN_difference_42 : decode bN_difference 42 = .ok (.iconst 0, 1) := by decide +kernel
theorem dN_difference_43 : decode bN_difference 43 = .ok (.iconst 1, 1) := by decide +kernel
theorem dN_difference_44 : decode bN_difference 44 = .ok (.iload 5, 2) := by decide +kernel
theorem dN_difference_46 : decode bN_difference 46 = .ok (.ifCond .ge 7, 3) := by decide +kernel
theorem dN_difference_49 : decode bN_difference 49 = .ok (.iconst 1, 1) := by decide +kernel
theorem dN_difference_50 : decode bN_difference 50 = .ok (.goto 4, 3) := by decide +kernel
theorem dN_difference_53 : decode bN_difference 53 = .ok (.iconst 0, 1) := by decide +kernel
theorem dN_difference_54 : decode bN_difference 54 = .ok (.iload 4, 2) := by decide +kernel
theorem dN_difference_56 : decode bN_difference 56 = .ok (.ifCond .ge 7, 3) := by decide +kernel
theorem dN_difference_59 : decode bN_difference 59 = .ok (.iconst 1, 1) := by decide +kernel
theorem dN_difference_60 : decode bN_difference 60 = .ok (.goto 4, 3) := by decide +kernel
theorem dN_difference_63 : decode bN_difference 63 = .ok (.iconst 0, 1) := by decide +kernel
theorem dN_difference_64 : decode bN_difference 64 = .ok (.invokevirtual 32, 3) := by decide +kernel
theorem dN_difference_67 : decode bN_difference 67 = .ok (.iload 4, 2) := by decide +kernel
theorem dN_difference_69 : decode bN_difference 69 = .ok (.sipush 255, 3) := by decide +kernel
theorem dN_difference_72 : decode bN_difference 72 = .ok (.iand, 1) := by decide +kernel
theorem dN_difference_73 : decode bN_difference 73 = .ok (.ireturn, 1) := by decide +kernel
theorem dN_oneMore_0 : decode bN_oneMore 0 = .ok (.iload_n 1, 1) := by decide +kernel
theorem dN_oneMore_1 : decode bN_oneMore 1 = .ok (.iconst 1, 1) := by decide +kernel
theorem dN_oneMore_2 : decode bN_oneMore 2 = .ok (.iadd, 1) := by decide +kernel
theorem dN_oneMore_3 : decode bN_oneMore 3 = .ok (.sipush 255, 3) := by decide +kernel
theorem dN_oneMore_6 : decode bN_oneMore 6 = .ok (.iand, 1) := by decide +kernel
theorem dN_oneMore_7 : decode bN_oneMore 7 = .ok (.istore_n 2, 1) := by decide +kernel
theorem dN_oneMore_8 : decode bN_oneMore 8 = .ok (.aload_n 0, 1) := by decide +kernel
theorem dN_oneMore_9 : decode bN_oneMore 9 = .ok (.iload_n 2, 1) := by decide +kernel
theorem dN_oneMore_10 : decode bN_oneMore 10 = .ok (.ifCond .ne 7, 3) := by decide +kernel
theorem dN_oneMore_13 : decode bN_oneMore 13 = .ok (.iconst 1, 1) := by decide +kernel
theorem dN_oneMore_14 : decode bN_oneMore 14 = .ok (.goto 4, 3) := by decide +kernel
theorem dN_oneMore_17 : decode bN_oneMore 17 = .ok (.iconst 0, 1) := by decide +kernel
theorem dN_oneMore_18 : decode bN_oneMore 18 = .ok (.iconst 0, 1) := by decide +kernel
theorem dN_oneMore_19 : decode bN_oneMore 19 = .ok (.iload_n 2, 1) := by decide +kernel
theorem dN_oneMore_20 : decode bN_oneMore 20 = .ok (.bipush 15, 2) := by decide +kernel
theorem dN_oneMore_22 : decode bN_oneMore 22 = .ok (.iand, 1) := by decide +kernel
theorem dN_oneMore_23 : decode bN_oneMore 23 = .ok (.ifCond .ne 7, 3) := by decide +kernel
theorem dN_oneMore_26 : decode bN_oneMore 26 = .ok (.iconst 1, 1) := by decide +kernel
theorem dN_oneMore_27 : decode bN_oneMore 27 = .ok (.goto 4, 3) := by decide +kernel
theorem dN_oneMore_30 : decode bN_oneMore 30 = .ok (.iconst 0, 1) := by decide +kernel
theorem dN_oneMore_31 : decode bN_oneMore 31 = .ok (.aload_n 0, 1) := by decide +kernel
theorem dN_oneMore_32 : decode bN_oneMore 32 = .ok (.getfield 128, 3) := by decide +kernel
theorem dN_oneMore_35 : decode bN_oneMore 35 = .ok (.invokevirtual 32, 3) := by decide +kernel
theorem dN_oneMore_38 : decode bN_oneMore 38 = .ok (.iload_n 2, 1) := by decide +kernel
theorem dN_oneMore_39 : decode bN_oneMore 39 = .ok (.ireturn, 1) := by decide +kernel
theorem dN_oneLess_0 : decode bN_oneLess 0 = .ok (.iload_n 1, 1) := by decide +kernel
theorem dN_oneLess_1 : decode bN_oneLess 1 = .ok (.iconst 1, 1) := by decide +kernel
theorem dN_oneLess_2 : decode bN_oneLess 2 = .ok (.isub, 1) := by decide +kernel
theorem dN_oneLess_3 : decode bN_oneLess 3 = .ok (.sipush 255, 3) := by decide +kernel
theorem dN_oneLess_6 : decode bN_oneLess 6 = .ok (.iand, 1) := by decide +kernel
theorem dN_oneLess_7 : decode bN_oneLess 7 = .ok (.istore_n 2, 1) := by decide +kernel
theorem dN_oneLess_8 : decode bN_oneLess 8 = .ok (.aload_n 0, 1) := by decide +kernel
theorem dN_oneLess_9 : decode bN_oneLess 9 = .ok (.iload_n 2, 1) := by decide +kernel
theorem dN_oneLess_10 : decode bN_oneLess 10 = .ok (.ifCond .ne 7, 3) := by decide +kernel
theorem dN_oneLess_13 : decode bN_oneLess 13 = .ok (.iconst 1, 1) := by decide +kernel
theorem dN_oneLess_14 : decode bN_oneLess 14 = .ok (.goto 4, 3) := by decide +kernel
theorem dN_oneLess_17 : decode bN_oneLess 17 = .ok (.iconst 0, 1) := by decide +kernel
theorem dN_oneLess_18 : decode bN_oneLess 18 = .ok (.iconst 1, 1) := by decide +kernel
theorem dN_oneLess_19 : decode bN_oneLess 19 = .ok (.iload_n 1, 1) := by decide +kernel
theorem dN_oneLess_20 : decode bN_oneLess 20 = .ok (.bipush 15, 2) := by decide +kernel
theorem dN_oneLess_22 : decode bN_oneLess 22 = .ok (.iand, 1) := by decide +kernel
theorem dN_oneLess_23 : decode bN_oneLess 23 = .ok (.ifCond .ne 7, 3) := by decide +kernel
theorem dN_oneLess_26 : decode bN_oneLess 26 = .ok (.iconst 1, 1) := by decide +kernel
theorem dN_oneLess_27 : decode bN_oneLess 27 = .ok (.goto 4, 3) := by decide +kernel
theorem dN_oneLess_30 : decode bN_oneLess 30 = .ok (.iconst 0, 1) := by decide +kernel
theorem dN_oneLess_31 : decode bN_oneLess 31 = .ok (.aload_n 0, 1) := by decide +kernel
theorem dN_oneLess_32 : decode bN_oneLess 32 = .ok (.getfield 128, 3) := by decide +kernel
theorem dN_oneLess_35 : decode bN_oneLess 35 = .ok (.invokevirtual 32, 3) := by decide +kernel
theorem dN_oneLess_38 : decode bN_oneLess 38 = .ok (.iload_n 2, 1) := by decide +kernel
theorem dN_oneLess_39 : decode bN_oneLess 39 = .ok (.ireturn, 1) := by decide +kernel
theorem dN_exchanged_0 : decode bN_exchanged 0 = .ok (.aload_n 0, 1) := by decide +kernel
theorem dN_exchanged_1 : decode bN_exchanged 1 = .ok (.iload_n 1, 1) := by decide +kernel
theorem dN_exchanged_2 : decode bN_exchanged 2 = .ok (.ifCond .ne 7, 3) := by decide +kernel
theorem dN_exchanged_5 : decode bN_exchanged 5 = .ok (.iconst 1, 1) := by decide +kernel
theorem dN_exchanged_6 : decode bN_exchanged 6 = .ok (.goto 4, 3) := by decide +kernel
theorem dN_exchanged_9 : decode bN_exchanged 9 = .ok (.iconst 0, 1) := by decide +kernel
theorem dN_exchanged_10 : decode bN_exchanged 10 = .ok (.iconst 0, 1) := by decide +kernel
theorem dN_exchanged_11 : decode bN_exchanged 11 = .ok (.iconst 0, 1) := by decide +kernel
theorem dN_exchanged_12 : decode bN_exchanged 12 = .ok (.iconst 0, 1) := by decide +kernel
theorem dN_exchanged_13 : decode bN_exchanged 13 = .ok (.invokevirtual 32, 3) := by decide +kernel
theorem dN_exchanged_16 : decode bN_exchanged 16 = .ok (.iload_n 1, 1) := by decide +kernel
theorem dN_exchanged_17 : decode bN_exchanged 17 = .ok (.iconst 4, 1) := by decide +kernel
theorem dN_exchanged_18 : decode bN_exchanged 18 = .ok (.ishl, 1) := by decide +kernel
theorem dN_exchanged_19 : decode bN_exchanged 19 = .ok (.sipush 240, 3) := by decide +kernel
theorem dN_exchanged_22 : decode bN_exchanged 22 = .ok (.iand, 1) := by decide +kernel
theorem dN_exchanged_23 : decode bN_exchanged 23 = .ok (.iload_n 1, 1) := by decide +kernel
theorem dN_exchanged_24 : decode bN_exchanged 24 = .ok (.iconst 4, 1) := by decide +kernel
theorem dN_exchanged_25 : decode bN_exchanged 25 = .ok (.ishr, 1) := by decide +kernel
theorem dN_exchanged_26 : decode bN_exchanged 26 = .ok (.ior, 1) := by decide +kernel
theorem dN_exchanged_27 : decode bN_exchanged 27 = .ok (.ireturn, 1) := by decide +kernel
theorem dN_adjust_0 : decode bN_adjust 0 = .ok (.aload_n 0, 1) := by decide +kernel
theorem dN_adjust_1 : decode bN_adjust 1 = .ok (.getfield 9, 3) := by decide +kernel
theorem dN_adjust_4 : decode bN_adjust 4 = .ok (.bipush 7, 2) := by decide +kernel
theorem dN_adjust_6 : decode bN_adjust 6 = .ok (.iaload, 1) := by decide +kernel
theorem dN_adjust_7 : decode bN_adjust 7 = .ok (.istore_n 1, 1) := by decide +kernel
theorem dN_adjust_8 : decode bN_adjust 8 = .ok (.aload_n 0, 1) := by decide +kernel
theorem dN_adjust_9 : decode bN_adjust 9 = .ok (.getfield 128, 3) := by decide +kernel
theorem dN_adjust_12 : decode bN_adjust 12 = .ok (.ifCond .ne 17, 3) := by decide +kernel
theorem dN_adjust_15 : decode bN_adjust 15 = .ok (.aload_n 0, 1) := by decide +kernel
theorem dN_adjust_16 : decode bN_adjust 16 = .ok (.getfield 61, 3) := by decide +kernel
theorem dN_adjust_19 : decode bN_adjust 19 = .ok (.ifCond .ne 14, 3) := by decide +kernel
theorem dN_adjust_22 : decode bN_adjust 22 = .ok (.iload_n 1, 1) := by decide +kernel
theorem dN_adjust_23 : decode bN_adjust 23 = .ok (.sipush 153, 3) := by decide +kernel
theorem dN_adjust_26 : decode bN_adjust 26 = .ok (.if_icmp .le 7, 3) := by decide +kernel
theorem dN_adjust_29 : decode bN_adjust 29 = .ok (.iconst 1, 1) := by decide +kernel
theorem dN_adjust_30 : decode bN_adjust 30 = .ok (.goto 4, 3) := by decide +kernel
theorem dN_adjust_33 : decode bN_adjust 33 = .ok (.iconst 0, 1) := by decide +kernel
theorem dN_adjust_34 : decode bN_adjust 34 = .ok (.istore_n 2, 1) := by decide +kernel
theorem dN_adjust_35 : decode bN_adjust 35 = .ok (.iconst 0, 1) := by decide +kernel
theorem dN_adjust_36 : decode bN_adjust 36 = .ok (.istore_n 3, 1) := by decide +kernel
theorem dN_adjust_37 : decode bN_adjust 37 = .ok (.aload_n 0, 1) := by decide +kernel
theorem dN_adjust_38 : decode bN_adjust 38 = .ok (.getfield 64, 3) := by decide +kernel
theorem dN_adjust_41 : decode bN_adjust 41 = .ok (.ifCond .ne 19, 3) := by decide +kernel
theorem dN_adjust_44 : decode bN_adjust 44 = .ok (.aload_n 0, 1) := by decide +kernel
theorem dN_adjust_45 : decode bN_adjust 45 = .ok (.getfield 61, 3) := by decide +kernel
theorem dN_adjust_48 : decode bN_adjust 48 = .ok (.ifCond .ne 15, 3) := by decide +kernel
theorem dN_adjust_51 : decode bN_adjust 51 = .ok (.iload_n 1, 1) := by decide +kernel
theorem dN_adjust_52 : decode bN_adjust 52 = .ok (.bipush 15, 2) := by decide +kernel
theorem dN_adjust_54 : decode bN_adjust 54 = .ok (.iand, 1) := by decide +kernel
theorem dN_adjust_55 : decode bN_adjust 55 = .ok (.bipush 9, 2) := by decide +kernel
theorem dN_adjust_57 : decode bN_adjust 57 = .ok (.if_icmp .le 6, 3) := by decide +kernel
theorem dN_adjust_60 : decode bN_adjust 60 = .ok (.bipush 6, 2) := by decide +kernel
theorem dN_adjust_62 : decode bN_adjust 62 = .ok (.istore_n 3, 1) := by decide +kernel
theorem dN_adjust_63 : decode bN_adjust 63 = .ok (.iload_n 2, 1) := by decide +kernel
theorem dN_adjust_64 : decode bN_adjust 64 = .ok (.ifCond .eq 6, 3) := by decide +kernel
theorem dN_adjust_67 : decode bN_adjust 67 = .ok (.iinc 3 96, 3) := by decide +kernel
theorem dN_adjust_70 : decode bN_adjust 70 = .ok (.aload_n 0, 1) := by decide +kernel
theorem dN_adjust_71 : decode bN_adjust 71 = .ok (.getfield 9, 3) := by decide +kernel
theorem dN_adjust_74 : decode bN_adjust 74 = .ok (.bipush 7, 2) := by decide +kernel
theorem dN_adjust_76 : decode bN_adjust 76 = .ok (.aload_n 0, 1) := by decide +kernel
theorem dN_adjust_77 : decode bN_adjust 77 = .ok (.getfield 61, 3) := by decide +kernel
theorem dN_adjust_80 : decode bN_adjust 80 = .ok (.ifCond .eq 9, 3) := by decide +kernel
theorem dN_adjust_83 : decode bN_adjust 83 = .ok (.iload_n 1, 1) := by decide +kernel
theorem dN_adjust_84 : decode bN_adjust 84 = .ok (.iload_n 3, 1) := by decide +kernel
theorem dN_adjust_85 : decode bN_adjust 85 = .ok (.isub, 1) := by decide +kernel
theorem dN_adjust_86 : decode bN_adjust 86 = .ok (.goto 6, 3) := by decide +kernel
theorem dN_adjust_89 : decode bN_adjust 89 = .ok (.iload_n 1, 1) := by decide +kernel
theorem dN_adjust_90 : decode bN_adjust 90 = .ok (.iload_n 3, 1) := by decide +kernel
theorem dN_adjust_91 : decode bN_adjust 91 = .ok (.iadd, 1) := by decide +kernel
theorem dN_adjust_92 : decode bN_adjust 92 = .ok (.sipush 255, 3) := by decide +kernel
theorem dN_adjust_95 : decode bN_adjust 95 = .ok (.iand, 1) := by decide +kernel
theorem dN_adjust_96 : decode bN_adjust 96 = .ok (.iastore, 1) := by decide +kernel
theorem dN_adjust_97 : decode bN_adjust 97 = .ok (.aload_n 0, 1) := by decide +kernel
theorem dN_adjust_98 : decode bN_adjust 98 = .ok (.aload_n 0, 1) := by decide +kernel
theorem dN_adjust_99 : decode bN_adjust 99 = .ok (.getfield 9, 3) := by decide +kernel
theorem dN_adjust_102 : decode bN_adjust 102 = .ok (.bipush 7, 2) := by decide +kernel
theorem dN_adjust_104 : decode bN_adjust 104 = .ok (.iaload, 1) := by decide +kernel
theorem dN_adjust_105 : decode bN_adjust 105 = .ok (.ifCond .ne 7, 3) := by decide +kernel
theorem dN_adjust_108 : decode bN_adjust 108 = .ok (.iconst 1, 1) := by decide +kernel
theorem dN_adjust_109 : decode bN_adjust 109 = .ok (.goto 4, 3) := by decide +kernel
theorem dN_adjust_112 : decode bN_adjust 112 = .ok (.iconst 0, 1) := by decide +kernel
theorem dN_adjust_113 : decode bN_adjust 113 = .ok (.aload_n 0, 1) := by decide +kernel
theorem dN_adjust_114 : decode bN_adjust 114 = .ok (.getfield 61, 3) := by decide +kernel
theorem dN_adjust_117 : decode bN_adjust 117 = .ok (.iconst 0, 1) := by decide +kernel
theorem dN_adjust_118 : decode bN_adjust 118 = .ok (.iload_n 2, 1) := by decide +kernel
theorem dN_adjust_119 : decode bN_adjust 119 = .ok (.invokevirtual 32, 3) := by decide +kernel
theorem dN_adjust_122 : decode bN_adjust 122 = .ok (.return_, 1) := by decide +kernel
theorem dN_obeyOnBits_0 : decode bN_obeyOnBits 0 = .ok (.iload_n 1, 1) := by decide +kernel
theorem dN_obeyOnBits_1 : decode bN_obeyOnBits 1 = .ok (.bipush 7, 2) := by decide +kernel
theorem dN_obeyOnBits_3 : decode bN_obeyOnBits 3 = .ok (.iand, 1) := by decide +kernel
theorem dN_obeyOnBits_4 : decode bN_obeyOnBits 4 = .ok (.istore_n 2, 1) := by decide +kernel
theorem dN_obeyOnBits_5 : decode bN_obeyOnBits 5 = .ok (.iload_n 1, 1) := by decide +kernel
theorem dN_obeyOnBits_6 : decode bN_obeyOnBits 6 = .ok (.iconst 3, 1) := by decide +kernel
theorem dN_obeyOnBits_7 : decode bN_obeyOnBits 7 = .ok (.ishr, 1) := by decide +kernel
theorem dN_obeyOnBits_8 : decode bN_obeyOnBits 8 = .ok (.istore_n 3, 1) := by decide +kernel
theorem dN_obeyOnBits_9 : decode bN_obeyOnBits 9 = .ok (.iconst 1, 1) := by decide +kernel
theorem dN_obeyOnBits_10 : decode bN_obeyOnBits 10 = .ok (.iload_n 3, 1) := by decide +kernel
theorem dN_obeyOnBits_11 : decode bN_obeyOnBits 11 = .ok (.bipush 7, 2) := by decide +kernel
theorem dN_obeyOnBits_13 : decode bN_obeyOnBits 13 = .ok (.iand, 1) := by decide +kernel
theorem dN_obeyOnBits_14 : decode bN_obeyOnBits 14 = .ok (.ishl, 1) := by decide +kernel
theorem dN_obeyOnBits_15 : decode bN_obeyOnBits 15 = .ok (.istore 4, 2) := by decide +kernel
theorem dN_obeyOnBits_17 : decode bN_obeyOnBits 17 = .ok (.iload_n 3, 1) := by decide +kernel
theorem dN_obeyOnBits_18 : decode bN_obeyOnBits 18 = .ok (.bipush 7, 2) := by decide +kernel
theorem dN_obeyOnBits_20 : decode bN_obeyOnBits 20 = .ok (.if_icmp .ge 21, 3) := by decide +kernel
theorem dN_obeyOnBits_23 : decode bN_obeyOnBits 23 = .ok (.aload_n 0, 1) := by decide +kernel
theorem dN_obeyOnBits_24 : decode bN_obeyOnBits 24 = .ok (.iload_n 2, 1) := by decide +kernel
theorem dN_obeyOnBits_25 : decode bN_obeyOnBits 25 = .ok (.aload_n 0, 1) := by decide +kernel
theorem dN_obeyOnBits_26 : decode bN_obeyOnBits 26 = .ok (.iload_n 3, 1) := by decide +kernel
theorem dN_obeyOnBits_27 : decode bN_obeyOnBits 27 = .ok (.aload_n 0, 1) := by decide +kernel
theorem dN_obeyOnBits_28 : decode bN_obeyOnBits 28 = .ok (.iload_n 2, 1) := by decide +kernel
theorem dN_obeyOnBits_29 : decode bN_obeyOnBits 29 = .ok (.invokevirtual 74, 3) := by decide +kernel
theorem dN_obeyOnBits_32 : decode bN_obeyOnBits 32 = .ok (.invokevirtual 153, 3) := by decide +kernel
theorem dN_obeyOnBits_35 : decode bN_obeyOnBits 35 = .ok (.invokevirtual 107, 3) := by decide +kernel
theorem dN_obeyOnBits_38 : decode bN_obeyOnBits 38 = .ok (.goto 81, 3) := by decide +kernel
theorem dN_obeyOnBits_41 : decode bN_obeyOnBits 41 = .ok (.iload_n 3, 1) := by decide +kernel
theorem dN_obeyOnBits_42 : decode bN_obeyOnBits 42 = .ok (.bipush 24, 2) := by decide +kernel
theorem dN_obeyOnBits_44 : decode bN_obeyOnBits 44 = .ok (.if_icmp .lt 19, 3) := by decide +kernel
theorem dN_obeyOnBits_47 : decode bN_obeyOnBits 47 = .ok (.aload_n 0, 1) := by decide +kernel
theorem dN_obeyOnBits_48 : decode bN_obeyOnBits 48 = .ok (.iload_n 2, 1) := by decide +kernel
theorem dN_obeyOnBits_49 : decode bN_obeyOnBits 49 = .ok (.aload_n 0, 1) := by decide +kernel
theorem dN_obeyOnBits_50 : decode bN_obeyOnBits 50 = .ok (.iload_n 2, 1) := by decide +kernel
theorem dN_obeyOnBits_51 : decode bN_obeyOnBits 51 = .ok (.invokevirtual 74, 3) := by decide +kernel
theorem dN_obeyOnBits_54 : decode bN_obeyOnBits 54 = .ok (.iload 4, 2) := by decide +kernel
theorem dN_obeyOnBits_56 : decode bN_obeyOnBits 56 = .ok (.ior, 1) := by decide +kernel
theorem dN_obeyOnBits_57 : decode bN_obeyOnBits 57 = .ok (.invokevirtual 107, 3) := by decide +kernel
theorem dN_obeyOnBits_60 : decode bN_obeyOnBits 60 = .ok (.goto 59, 3) := by decide +kernel
theorem dN_obeyOnBits_63 : decode bN_obeyOnBits 63 = .ok (.iload_n 3, 1) := by decide +kernel
theorem dN_obeyOnBits_64 : decode bN_obeyOnBits 64 = .ok (.bipush 16, 2) := by decide +kernel
theorem dN_obeyOnBits_66 : decode bN_obeyOnBits 66 = .ok (.if_icmp .lt 21, 3) := by decide +kernel
theorem dN_obeyOnBits_69 : decode bN_obeyOnBits 69 = .ok (.aload_n 0, 1) := by decide +kernel
theorem dN_obeyOnBits_70 : decode bN_obeyOnBits 70 = .ok (.iload_n 2, 1) := by decide +kernel
theorem dN_obeyOnBits_71 : decode bN_obeyOnBits 71 = .ok (.aload_n 0, 1) := by decide +kernel
theorem dN_obeyOnBits_72 : decode bN_obeyOnBits 72 = .ok (.iload_n 2, 1) := by decide +kernel
theorem dN_obeyOnBits_73 : decode bN_obeyOnBits 73 = .ok (.invokevirtual 74, 3) := by decide +kernel
theorem dN_obeyOnBits_76 : decode bN_obeyOnBits 76 = .ok (.iload 4, 2) := by decide +kernel
theorem dN_obeyOnBits_78 : decode bN_obeyOnBits 78 = .ok (.iconst (-1), 1) := by decide +kernel
theorem dN_obeyOnBits_79 : decode bN_obeyOnBits 79 = .ok (.ixor, 1) := by decide +kernel
theorem dN_obeyOnBits_80 : decode bN_obeyOnBits 80 = .ok (.iand, 1) := by decide +kernel
theorem dN_obeyOnBits_81 : decode bN_obeyOnBits 81 = .ok (.invokevirtual 107, 3) := by decide +kernel
theorem dN_obeyOnBits_84 : decode bN_obeyOnBits 84 = .ok (.goto 35, 3) := by decide +kernel
theorem dN_obeyOnBits_87 : decode bN_obeyOnBits 87 = .ok (.iload_n 3, 1) := by decide +kernel
theorem dN_obeyOnBits_88 : decode bN_obeyOnBits 88 = .ok (.bipush 8, 2) := by decide +kernel
theorem dN_obeyOnBits_90 : decode bN_obeyOnBits 90 = .ok (.if_icmp .lt 29, 3) := by decide +kernel
theorem dN_obeyOnBits_93 : decode bN_obeyOnBits 93 = .ok (.aload_n 0, 1) := by decide +kernel
theorem dN_obeyOnBits_94 : decode bN_obeyOnBits 94 = .ok (.aload_n 0, 1) := by decide +kernel
theorem dN_obeyOnBits_95 : decode bN_obeyOnBits 95 = .ok (.iload_n 2, 1) := by decide +kernel
theorem dN_obeyOnBits_96 : decode bN_obeyOnBits 96 = .ok (.invokevirtual 74, 3) := by decide +kernel
theorem dN_obeyOnBits_99 : decode bN_obeyOnBits 99 = .ok (.iload 4, 2) := by decide +kernel
theorem dN_obeyOnBits_101 : decode bN_obeyOnBits 101 = .ok (.iand, 1) := by decide +kernel
theorem dN_obeyOnBits_102 : decode bN_obeyOnBits 102 = .ok (.ifCond .ne 7, 3) := by decide +kernel
theorem dN_obeyOnBits_105 : decode bN_obeyOnBits 105 = .ok (.iconst 1, 1) := by decide +kernel
theorem dN_obeyOnBits_106 : decode bN_obeyOnBits 106 = .ok (.goto 4, 3) := by decide +kernel
theorem dN_obeyOnBits_109 : decode bN_obeyOnBits 109 = .ok (.iconst 0, 1) := by decide +kernel
theorem dN_obeyOnBits_110 : decode bN_obeyOnBits 110 = .ok (.iconst 0, 1) := by decide +kernel
theorem dN_obeyOnBits_111 : decode bN_obeyOnBits 111 = .ok (.iconst 1, 1) := by decide +kernel
theorem dN_obeyOnBits_112 : decode bN_obeyOnBits 112 = .ok (.aload_n 0, 1) := by decide +kernel
theorem dN_obeyOnBits_113 : decode bN_obeyOnBits 113 = .ok (.getfield 128, 3) := by decide +kernel
theorem dN_obeyOnBits_116 : decode bN_obeyOnBits 116 = .ok (.invokevirtual 32, 3) := by decide +kernel
theorem dN_obeyOnBits_119 : decode bN_obeyOnBits 119 = .ok (.return_, 1) := by decide +kernel
theorem dN_shifted_0 : decode bN_shifted 0 = .ok (.iload_n 1, 1) := by decide +kernel
theorem dN_shifted_1 : decode bN_shifted 1 = .ok (.ifCond .eq 13, 3) := by decide +kernel
theorem dN_shifted_4 : decode bN_shifted 4 = .ok (.iload_n 1, 1) := by decide +kernel
theorem dN_shifted_5 : decode bN_shifted 5 = .ok (.iconst 2, 1) := by decide +kernel
theorem dN_shifted_6 : decode bN_shifted 6 = .ok (.if_icmp .eq 8, 3) := by decide +kernel
theorem dN_shifted_9 : decode bN_shifted 9 = .ok (.iload_n 1, 1) := by decide +kernel
theorem dN_shifted_10 : decode bN_shifted 10 = .ok (.iconst 4, 1) := by decide +kernel
theorem dN_shifted_11 : decode bN_shifted 11 = .ok (.if_icmp .ne 7, 3) := by decide +kernel
theorem dN_shifted_14 : decode bN_shifted 14 = .ok (.iconst 1, 1) := by decide +kernel
theorem dN_shifted_15 : decode bN_shifted 15 = .ok (.goto 4, 3) := by decide +kernel
theorem dN_shifted_18 : decode bN_shifted 18 = .ok (.iconst 0, 1) := by decide +kernel
theorem dN_shifted_19 : decode bN_shifted 19 = .ok (.istore_n 3, 1) := by decide +kernel
theorem dN_shifted_20 : decode bN_shifted 20 = .ok (.iload_n 3, 1) := by decide +kernel
theorem dN_shifted_21 : decode bN_shifted 21 = .ok (.ifCond .eq 10, 3) := by decide +kernel
theorem dN_shifted_24 : decode bN_shifted 24 = .ok (.iload_n 2, 1) := by decide +kernel
theorem dN_shifted_25 : decode bN_shifted 25 = .ok (.bipush 7, 2) := by decide +kernel
theorem dN_shifted_27 : decode bN_shifted 27 = .ok (.ishr, 1) := by decide +kernel
theorem dN_shifted_28 : decode bN_shifted 28 = .ok (.goto 6, 3) := by decide +kernel
theorem dN_shifted_31 : decode bN_shifted 31 = .ok (.iload_n 2, 1) := by decide +kernel
theorem dN_shifted_32 : decode bN_shifted 32 = .ok (.iconst 1, 1) := by decide +kernel
theorem dN_shifted_33 : decode bN_shifted 33 = .ok (.iand, 1) := by decide +kernel
theorem dN_shifted_34 : decode bN_shifted 34 = .ok (.istore 4, 2) := by decide +kernel
theorem dN_shifted_36 : decode bN_shifted 36 = .ok (.aload_n 0, 1) := by decide +kernel
theorem dN_shifted_37 : decode bN_shifted 37 = .ok (.iload_n 1, 1) := by decide +kernel
theorem dN_shifted_38 : decode bN_shifted 38 = .ok (.iload_n 2, 1) := by decide +kernel
theorem dN_shifted_39 : decode bN_shifted 39 = .ok (.iload 4, 2) := by decide +kernel
theorem dN_shifted_41 : decode bN_shifted 41 = .ok (.invokevirtual 156, 3) := by decide +kernel
theorem dN_shifted_44 : decode bN_shifted 44 = .ok (.istore 5, 2) := by decide +kernel
theorem dN_shifted_46 : decode bN_shifted 46 = .ok (.iload_n 3, 1) := by decide +kernel
theorem dN_shifted_47 : decode bN_shifted 47 = .ok (.ifCond .eq 16, 3) := by decide +kernel
theorem dN_shifted_50 : decode bN_shifted 50 = .ok (.iload_n 2, 1) := by decide +kernel
theorem dN_shifted_51 : decode bN_shifted 51 = .ok (.iconst 1, 1) := by decide +kernel
theorem dN_shifted_52 : decode bN_shifted 52 = .ok (.ishl, 1) := by decide +kernel
theorem dN_shifted_53 : decode bN_shifted 53 = .ok (.sipush 255, 3) := by decide +kernel
theorem dN_shifted_56 : decode bN_shifted 56 = .ok (.iand, 1) := by decide +kernel
theorem dN_shifted_57 : decode bN_shifted 57 = .ok (.iload 5, 2) := by decide +kernel
theorem dN_shifted_59 : decode bN_shifted 59 = .ok (.ior, 1) := by decide +kernel
theorem dN_shifted_60 : decode bN_shifted 60 = .ok (.goto 12, 3) := by decide +kernel
theorem dN_shifted_63 : decode bN_shifted 63 = .ok (.iload_n 2, 1) := by decide +kernel
theorem dN_shifted_64 : decode bN_shifted 64 = .ok (.iconst 1, 1) := by decide +kernel
theorem dN_shifted_65 : decode bN_shifted 65 = .ok (.ishr, 1) := by decide +kernel
theorem dN_shifted_66 : decode bN_shifted 66 = .ok (.iload 5, 2) := by decide +kernel
theorem dN_shifted_68 : decode bN_shifted 68 = .ok (.bipush 7, 2) := by decide +kernel
theorem dN_shifted_70 : decode bN_shifted 70 = .ok (.ishl, 1) := by decide +kernel
theorem dN_shifted_71 : decode bN_shifted 71 = .ok (.ior, 1) := by decide +kernel
theorem dN_shifted_72 : decode bN_shifted 72 = .ok (.istore 6, 2) := by decide +kernel
theorem dN_shifted_74 : decode bN_shifted 74 = .ok (.aload_n 0, 1) := by decide +kernel
theorem dN_shifted_75 : decode bN_shifted 75 = .ok (.iload 6, 2) := by decide +kernel
theorem dN_shifted_77 : decode bN_shifted 77 = .ok (.ifCond .ne 7, 3) := by decide +kernel
theorem dN_shifted_80 : decode bN_shifted 80 = .ok (.iconst 1, 1) := by decide +kernel
theorem dN_shifted_81 : decode bN_shifted 81 = .ok (.goto 4, 3) := by decide +kernel
theorem dN_shifted_84 : decode bN_shifted 84 = .ok (.iconst 0, 1) := by decide +kernel
theorem dN_shifted_85 : decode bN_shifted 85 = .ok (.iconst 0, 1) := by decide +kernel
theorem dN_shifted_86 : decode bN_shifted 86 = .ok (.iconst 0, 1) := by decide +kernel
theorem dN_shifted_87 : decode bN_shifted 87 = .ok (.iload 4, 2) := by decide +kernel
theorem dN_shifted_89 : decode bN_shifted 89 = .ok (.iconst 1, 1) := by decide +kernel
theorem dN_shifted_90 : decode bN_shifted 90 = .ok (.if_icmp .ne 7, 3) := by decide +kernel
theorem dN_shifted_93 : decode bN_shifted 93 = .ok (.iconst 1, 1) := by decide +kernel
theorem dN_shifted_94 : decode bN_shifted 94 = .ok (.goto 4, 3) := by decide +kernel
theorem dN_shifted_97 : decode bN_shifted 97 = .ok (.iconst 0, 1) := by decide +kernel
theorem dN_shifted_98 : decode bN_shifted 98 = .ok (.invokevirtual 32, 3) := by decide +kernel
theorem dN_shifted_101 : decode bN_shifted 101 = .ok (.iload 6, 2) := by decide +kernel
theorem dN_shifted_103 : decode bN_shifted 103 = .ok (.ireturn, 1) := by decide +kernel
theorem dN_comesIn_0 : decode bN_comesIn 0 = .ok (.iload_n 1, 1) := by decide +kernel
theorem dN_comesIn_1 : decode bN_comesIn 1 = .ok (.tableswitch 51 0 5 #[39, 39, 41, 41, 51, 46], 39) := by decide +kernel
theorem dN_comesIn_40 : decode bN_comesIn 40 = .ok (.iload_n 3, 1) := by decide +kernel
theorem dN_comesIn_41 : decode bN_comesIn 41 = .ok (.ireturn, 1) := by decide +kernel
theorem dN_comesIn_42 : decode bN_comesIn 42 = .ok (.aload_n 0, 1) := by decide +kernel
theorem dN_comesIn_43 : decode bN_comesIn 43 = .ok (.invokevirtual 67, 3) := by decide +kernel
theorem dN_comesIn_46 : decode bN_comesIn 46 = .ok (.ireturn, 1) := by decide +kernel
theorem dN_comesIn_47 : decode bN_comesIn 47 = .ok (.iload_n 2, 1) := by decide +kernel
theorem dN_comesIn_48 : decode bN_comesIn 48 = .ok (.bipush 7, 2) := by decide +kernel
theorem dN_comesIn_50 : decode bN_comesIn 50 = .ok (.ishr, 1) := by decide +kernel
theorem dN_comesIn_51 : decode bN_comesIn 51 = .ok (.ireturn, 1) := by decide +kernel
theorem dN_comesIn_52 : decode bN_comesIn 52 = .ok (.iconst 0, 1) := by decide +kernel
theorem dN_comesIn_53 : decode bN_comesIn 53 = .ok (.ireturn, 1) := by decide +kernel
theorem dN_send_0 : decode bN_send 0 = .ok (.aload_n 0, 1) := by decide +kernel
theorem dN_send_1 : decode bN_send 1 = .ok (.getfield 46, 3) := by decide +kernel
theorem dN_send_4 : decode bN_send 4 = .ok (.bipush 100, 2) := by decide +kernel
theorem dN_send_6 : decode bN_send 6 = .ok (.if_icmp .ge 13, 3) := by decide +kernel
theorem dN_send_9 : decode bN_send 9 = .ok (.aload_n 0, 1) := by decide +kernel
theorem dN_send_10 : decode bN_send 10 = .ok (.getfield 15, 3) := by decide +kernel
theorem dN_send_13 : decode bN_send 13 = .ok (.aload_n 0, 1) := by decide +kernel
theorem dN_send_14 : decode bN_send 14 = .ok (.getfield 46, 3) := by decide +kernel
theorem dN_send_17 : decode bN_send 17 = .ok (.iload_n 1, 1) := by decide +kernel
theorem dN_send_18 : decode bN_send 18 = .ok (.iastore, 1) := by decide +kernel
theorem dN_send_19 : decode bN_send 19 = .ok (.aload_n 0, 1) := by decide +kernel
theorem dN_send_20 : decode bN_send 20 = .ok (.dup, 1) := by decide +kernel
theorem dN_send_21 : decode bN_send 21 = .ok (.getfield 46, 3) := by decide +kernel
theorem dN_send_24 : decode bN_send 24 = .ok (.iconst 1, 1) := by decide +kernel
theorem dN_send_25 : decode bN_send 25 = .ok (.iadd, 1) := by decide +kernel
theorem dN_send_26 : decode bN_send 26 = .ok (.putfield 46, 3) := by decide +kernel
theorem dN_send_29 : decode bN_send 29 = .ok (.return_, 1) := by decide +kernel
theorem dN_endAs_0 : decode bN_endAs 0 = .ok (.aload_n 0, 1) := by decide +kernel
theorem dN_endAs_1 : decode bN_endAs 1 = .ok (.iload_n 1, 1) := by decide +kernel
theorem dN_endAs_2 : decode bN_endAs 2 = .ok (.putfield 43, 3) := by decide +kernel
theorem dN_endAs_5 : decode bN_endAs 5 = .ok (.aload_n 0, 1) := by decide +kernel
theorem dN_endAs_6 : decode bN_endAs 6 = .ok (.aload_n 0, 1) := by decide +kernel
theorem dN_endAs_7 : decode bN_endAs 7 = .ok (.getfield 29, 3) := by decide +kernel
theorem dN_endAs_10 : decode bN_endAs 10 = .ok (.iconst 1, 1) := by decide +kernel
theorem dN_endAs_11 : decode bN_endAs 11 = .ok (.isub, 1) := by decide +kernel
theorem dN_endAs_12 : decode bN_endAs 12 = .ok (.sipush 255, 3) := by decide +kernel
theorem dN_endAs_15 : decode bN_endAs 15 = .ok (.iand, 1) := by decide +kernel
theorem dN_endAs_16 : decode bN_endAs 16 = .ok (.putfield 29, 3) := by decide +kernel
theorem dN_endAs_19 : decode bN_endAs 19 = .ok (.return_, 1) := by decide +kernel
theorem dN_next_0 : decode bN_next 0 = .ok (.aload_n 0, 1) := by decide +kernel
theorem dN_next_1 : decode bN_next 1 = .ok (.getfield 18, 3) := by decide +kernel
theorem dN_next_4 : decode bN_next 4 = .ok (.aload_n 0, 1) := by decide +kernel
theorem dN_next_5 : decode bN_next 5 = .ok (.getfield 29, 3) := by decide +kernel
theorem dN_next_8 : decode bN_next 8 = .ok (.invokevirtual 160, 3) := by decide +kernel
theorem dN_next_11 : decode bN_next 11 = .ok (.istore_n 1, 1) := by decide +kernel
theorem dN_next_12 : decode bN_next 12 = .ok (.aload_n 0, 1) := by decide +kernel
theorem dN_next_13 : decode bN_next 13 = .ok (.aload_n 0, 1) := by decide +kernel
theorem dN_next_14 : decode bN_next 14 = .ok (.getfield 29, 3) := by decide +kernel
theorem dN_next_17 : decode bN_next 17 = .ok (.iconst 1, 1) := by decide +kernel
theorem dN_next_18 : decode bN_next 18 = .ok (.iadd, 1) := by decide +kernel
theorem dN_next_19 : decode bN_next 19 = .ok (.sipush 255, 3) := by decide +kernel
theorem dN_next_22 : decode bN_next 22 = .ok (.iand, 1) := by decide +kernel
theorem dN_next_23 : decode bN_next 23 = .ok (.putfield 29, 3) := by decide +kernel
theorem dN_next_26 : decode bN_next 26 = .ok (.iload_n 1, 1) := by decide +kernel
theorem dN_next_27 : decode bN_next 27 = .ok (.ireturn, 1) := by decide +kernel
theorem dN_push_0 : decode bN_push 0 = .ok (.aload_n 0, 1) := by decide +kernel
theorem dN_push_1 : decode bN_push 1 = .ok (.aload_n 0, 1) := by decide +kernel
theorem dN_push_2 : decode bN_push 2 = .ok (.getfield 25, 3) := by decide +kernel
theorem dN_push_5 : decode bN_push 5 = .ok (.iconst 1, 1) := by decide +kernel
theorem dN_push_6 : decode bN_push 6 = .ok (.isub, 1) := by decide +kernel
theorem dN_push_7 : decode bN_push 7 = .ok (.sipush 255, 3) := by decide +kernel
theorem dN_push_10 : decode bN_push 10 = .ok (.iand, 1) := by decide +kernel
theorem dN_push_11 : decode bN_push 11 = .ok (.putfield 25, 3) := by decide +kernel
theorem dN_push_14 : decode bN_push 14 = .ok (.aload_n 0, 1) := by decide +kernel
theorem dN_push_15 : decode bN_push 15 = .ok (.getfield 18, 3) := by decide +kernel
theorem dN_push_18 : decode bN_push 18 = .ok (.aload_n 0, 1) := by decide +kernel
theorem dN_push_19 : decode bN_push 19 = .ok (.getfield 25, 3) := by decide +kernel
theorem dN_push_22 : decode bN_push 22 = .ok (.iload_n 1, 1) := by decide +kernel
theorem dN_push_23 : decode bN_push 23 = .ok (.invokevirtual 163, 3) := by decide +kernel
theorem dN_push_26 : decode bN_push 26 = .ok (.return_, 1) := by decide +kernel
theorem dN_pull_0 : decode bN_pull 0 = .ok (.aload_n 0, 1) := by decide +kernel
theorem dN_pull_1 : decode bN_pull 1 = .ok (.getfield 18, 3) := by decide +kernel
theorem dN_pull_4 : decode bN_pull 4 = .ok (.aload_n 0, 1) := by decide +kernel
theorem dN_pull_5 : decode bN_pull 5 = .ok (.getfield 25, 3) := by decide +kernel
theorem dN_pull_8 : decode bN_pull 8 = .ok (.invokevirtual 160, 3) := by decide +kernel
theorem dN_pull_11 : decode bN_pull 11 = .ok (.istore_n 1, 1) := by decide +kernel
theorem dN_pull_12 : decode bN_pull 12 = .ok (.aload_n 0, 1) := by decide +kernel
theorem dN_pull_13 : decode bN_pull 13 = .ok (.aload_n 0, 1) := by decide +kernel
theorem dN_pull_14 : decode bN_pull 14 = .ok (.getfield 25, 3) := by decide +kernel
theorem dN_pull_17 : decode bN_pull 17 = .ok (.iconst 1, 1) := by decide +kernel
theorem dN_pull_18 : decode bN_pull 18 = .ok (.iadd, 1) := by decide +kernel
theorem dN_pull_19 : decode bN_pull 19 = .ok (.sipush 255, 3) := by decide +kernel
theorem dN_pull_22 : decode bN_pull 22 = .ok (.iand, 1) := by decide +kernel
theorem dN_pull_23 : decode bN_pull 23 = .ok (.putfield 25, 3) := by decide +kernel
theorem dN_pull_26 : decode bN_pull 26 = .ok (.iload_n 1, 1) := by decide +kernel
theorem dN_pull_27 : decode bN_pull 27 = .ok (.ireturn, 1) := by decide +kernel
theorem dN_get_0 : decode bN_get 0 = .ok (.iload_n 1, 1) := by decide +kernel
theorem dN_get_1 : decode bN_get 1 = .ok (.bipush 6, 2) := by decide +kernel
theorem dN_get_3 : decode bN_get 3 = .ok (.if_icmp .ne 19, 3) := by decide +kernel
theorem dN_get_6 : decode bN_get 6 = .ok (.aload_n 0, 1) := by decide +kernel
theorem dN_get_7 : decode bN_get 7 = .ok (.getfield 18, 3) := by decide +kernel
theorem dN_get_10 : decode bN_get 10 = .ok (.aload_n 0, 1) := by decide +kernel
theorem dN_get_11 : decode bN_get 11 = .ok (.getfield 9, 3) := by decide +kernel
theorem dN_get_14 : decode bN_get 14 = .ok (.iconst 5, 1) := by decide +kernel
theorem dN_get_15 : decode bN_get 15 = .ok (.iaload, 1) := by decide +kernel
theorem dN_get_16 : decode bN_get 16 = .ok (.invokevirtual 160, 3) := by decide +kernel
theorem dN_get_19 : decode bN_get 19 = .ok (.goto 9, 3) := by decide +kernel
theorem dN_get_22 : decode bN_get 22 = .ok (.aload_n 0, 1) := by decide +kernel
theorem dN_get_23 : decode bN_get 23 = .ok (.getfield 9, 3) := by decide +kernel
theorem dN_get_26 : decode bN_get 26 = .ok (.iload_n 1, 1) := by decide +kernel
theorem dN_get_27 : decode bN_get 27 = .ok (.iaload, 1) := by decide +kernel
theorem dN_get_28 : decode bN_get 28 = .ok (.ireturn, 1) := by decide +kernel
theorem dN_set_0 : decode bN_set 0 = .ok (.iload_n 1, 1) := by decide +kernel
theorem dN_set_1 : decode bN_set 1 = .ok (.bipush 6, 2) := by decide +kernel
theorem dN_set_3 : decode bN_set 3 = .ok (.if_icmp .ne 20, 3) := by decide +kernel
theorem dN_set_6 : decode bN_set 6 = .ok (.aload_n 0, 1) := by decide +kernel
theorem dN_set_7 : decode bN_set 7 = .ok (.getfield 18, 3) := by decide +kernel
theorem dN_set_10 : decode bN_set 10 = .ok (.aload_n 0, 1) := by decide +kernel
theorem dN_set_11 : decode bN_set 11 = .ok (.getfield 9, 3) := by decide +kernel
theorem dN_set_14 : decode bN_set 14 = .ok (.iconst 5, 1) := by decide +kernel
theorem dN_set_15 : decode bN_set 15 = .ok (.iaload, 1) := by decide +kernel
theorem dN_set_16 : decode bN_set 16 = .ok (.iload_n 2, 1) := by decide +kernel
theorem dN_set_17 : decode bN_set 17 = .ok (.invokevirtual 163, 3) := by decide +kernel
theorem dN_set_20 : decode bN_set 20 = .ok (.goto 10, 3) := by decide +kernel
theorem dN_set_23 : decode bN_set 23 = .ok (.aload_n 0, 1) := by decide +kernel
theorem dN_set_24 : decode bN_set 24 = .ok (.getfield 9, 3) := by decide +kernel
theorem dN_set_27 : decode bN_set 27 = .ok (.iload_n 1, 1) := by decide +kernel
theorem dN_set_28 : decode bN_set 28 = .ok (.iload_n 2, 1) := by decide +kernel
theorem dN_set_29 : decode bN_set 29 = .ok (.iastore, 1) := by decide +kernel
theorem dN_set_30 : decode bN_set 30 = .ok (.return_, 1) := by decide +kernel
theorem dN_carryBit_0 : decode bN_carryBit 0 = .ok (.aload_n 0, 1) := by decide +kernel
theorem dN_carryBit_1 : decode bN_carryBit 1 = .ok (.getfield 128, 3) := by decide +kernel
theorem dN_carryBit_4 : decode bN_carryBit 4 = .ok (.ifCond .eq 7, 3) := by decide +kernel
theorem dN_carryBit_7 : decode bN_carryBit 7 = .ok (.iconst 1, 1) := by decide +kernel
theorem dN_carryBit_8 : decode bN_carryBit 8 = .ok (.goto 4, 3) := by decide +kernel
theorem dN_carryBit_11 : decode bN_carryBit 11 = .ok (.iconst 0, 1) := by decide +kernel
theorem dN_carryBit_12 : decode bN_carryBit 12 = .ok (.ireturn, 1) := by decide +kernel
theorem dN_setFlags_0 : decode bN_setFlags 0 = .ok (.aload_n 0, 1) := by decide +kernel
theorem dN_setFlags_1 : decode bN_setFlags 1 = .ok (.iload_n 1, 1) := by decide +kernel
theorem dN_setFlags_2 : decode bN_setFlags 2 = .ok (.putfield 58, 3) := by decide +kernel
theorem dN_setFlags_5 : decode bN_setFlags 5 = .ok (.aload_n 0, 1) := by decide +kernel
theorem dN_setFlags_6 : decode bN_setFlags 6 = .ok (.iload_n 2, 1) := by decide +kernel
theorem dN_setFlags_7 : decode bN_setFlags 7 = .ok (.putfield 61, 3) := by decide +kernel
theorem dN_setFlags_10 : decode bN_setFlags 10 = .ok (.aload_n 0, 1) := by decide +kernel
theorem dN_setFlags_11 : decode bN_setFlags 11 = .ok (.iload_n 3, 1) := by decide +kernel
theorem dN_setFlags_12 : decode bN_setFlags 12 = .ok (.putfield 64, 3) := by decide +kernel
theorem dN_setFlags_15 : decode bN_setFlags 15 = .ok (.aload_n 0, 1) := by decide +kernel
theorem dN_setFlags_16 : decode bN_setFlags 16 = .ok (.iload 4, 2) := by decide +kernel
theorem dN_setFlags_18 : decode bN_setFlags 18 = .ok (.putfield 128, 3) := by decide +kernel
theorem dN_setFlags_21 : decode bN_setFlags 21 = .ok (.return_, 1) := by decide +kernel
theorem dM_init_0 : decode bM_init 0 = .ok (.aload_n 0, 1) := by decide +kernel
theorem dM_init_1 : decode bM_init 1 = .ok (.invokespecial 3, 3) := by decide +kernel
theorem dM_init_4 : decode bM_init 4 = .ok (.aload_n 0, 1) := by decide +kernel
theorem dM_init_5 : decode bM_init 5 = .ok (.sipush 128, 3) := by decide +kernel
theorem dM_init_8 : decode bM_init 8 = .ok (.newarray .int, 2) := by decide +kernel
theorem dM_init_10 : decode bM_init 10 = .ok (.putfield 9, 3) := by decide +kernel
theorem dM_init_13 : decode bM_init 13 = .ok (.aload_n 0, 1) := by decide +kernel
theorem dM_init_14 : decode bM_init 14 = .ok (.bipush 62, 2) := by decide +kernel
theorem dM_init_16 : decode bM_init 16 = .ok (.newarray .int, 2) := by decide +kernel
theorem dM_init_18 : decode bM_init 18 = .ok (.putfield 15, 3) := by decide +kernel
theorem dM_init_21 : decode bM_init 21 = .ok (.aload_n 0, 1) := by decide +kernel
theorem dM_init_22 : decode bM_init 22 = .ok (.aload_n 1, 1) := by decide +kernel
theorem dM_init_23 : decode bM_init 23 = .ok (.putfield 18, 3) := by decide +kernel
theorem dM_init_26 : decode bM_init 26 = .ok (.return_, 1) := by decide +kernel
theorem dM_begin_0 : decode bM_begin 0 = .ok (.iconst 0, 1) := by decide +kernel
theorem dM_begin_1 : decode bM_begin 1 = .ok (.istore_n 1, 1) := by decide +kernel
theorem dM_begin_2 : decode bM_begin 2 = .ok (.iload_n 1, 1) := by decide +kernel
theorem dM_begin_3 : decode bM_begin 3 = .ok (.aload_n 0, 1) := by decide +kernel
theorem dM_begin_4 : decode bM_begin 4 = .ok (.getfield 9, 3) := by decide +kernel
theorem dM_begin_7 : decode bM_begin 7 = .ok (.arraylength, 1) := by decide +kernel
theorem dM_begin_8 : decode bM_begin 8 = .ok (.if_icmp .ge 16, 3) := by decide +kernel
theorem dM_begin_11 : decode bM_begin 11 = .ok (.aload_n 0, 1) := by decide +kernel
theorem dM_begin_12 : decode bM_begin 12 = .ok (.getfield 9, 3) := by decide +kernel
theorem dM_begin_15 : decode bM_begin 15 = .ok (.iload_n 1, 1) := by decide +kernel
theorem dM_begin_16 : decode bM_begin 16 = .ok (.iconst 0, 1) := by decide +kernel
theorem dM_begin_17 : decode bM_begin 17 = .ok (.iastore, 1) := by decide +kernel
theorem dM_begin_18 : decode bM_begin 18 = .ok (.iinc 1 1, 3) := by decide +kernel
theorem dM_begin_21 : decode bM_begin 21 = .ok (.goto (-19), 3) := by decide +kernel
theorem dM_begin_24 : decode bM_begin 24 = .ok (.iconst 0, 1) := by decide +kernel
theorem dM_begin_25 : decode bM_begin 25 = .ok (.istore_n 1, 1) := by decide +kernel
theorem dM_begin_26 : decode bM_begin 26 = .ok (.iload_n 1, 1) := by decide +kernel
theorem dM_begin_27 : decode bM_begin 27 = .ok (.aload_n 0, 1) := by decide +kernel
theorem dM_begin_28 : decode bM_begin 28 = .ok (.getfield 15, 3) := by decide +kernel
theorem dM_begin_31 : decode bM_begin 31 = .ok (.arraylength, 1) := by decide +kernel
theorem dM_begin_32 : decode bM_begin 32 = .ok (.if_icmp .ge 16, 3) := by decide +kernel
theorem dM_begin_35 : decode bM_begin 35 = .ok (.aload_n 0, 1) := by decide +kernel
theorem dM_begin_36 : decode bM_begin 36 = .ok (.getfield 15, 3) := by decide +kernel
theorem dM_begin_39 : decode bM_begin 39 = .ok (.iload_n 1, 1) := by decide +kernel
theorem dM_begin_40 : decode bM_begin 40 = .ok (.iconst 0, 1) := by decide +kernel
theorem dM_begin_41 : decode bM_begin 41 = .ok (.iastore, 1) := by decide +kernel
theorem dM_begin_42 : decode bM_begin 42 = .ok (.iinc 1 1, 3) := by decide +kernel
theorem dM_begin_45 : decode bM_begin 45 = .ok (.goto (-19), 3) := by decide +kernel
theorem dM_begin_48 : decode bM_begin 48 = .ok (.aload_n 0, 1) := by decide +kernel
theorem dM_begin_49 : decode bM_begin 49 = .ok (.iconst 0, 1) := by decide +kernel
theorem dM_begin_50 : decode bM_begin 50 = .ok (.putfield 22, 3) := by decide +kernel
theorem dM_begin_53 : decode bM_begin 53 = .ok (.aload_n 0, 1) := by decide +kernel
theorem dM_begin_54 : decode bM_begin 54 = .ok (.iconst 1, 1) := by decide +kernel
theorem dM_begin_55 : decode bM_begin 55 = .ok (.putfield 26, 3) := by decide +kernel
theorem dM_begin_58 : decode bM_begin 58 = .ok (.aload_n 0, 1) := by decide +kernel
theorem dM_begin_59 : decode bM_begin 59 = .ok (.iconst 0, 1) := by decide +kernel
theorem dM_begin_60 : decode bM_begin 60 = .ok (.putfield 30, 3) := by decide +kernel
theorem dM_begin_63 : decode bM_begin 63 = .ok (.aload_n 0, 1) := by decide +kernel
theorem dM_begin_64 : decode bM_begin 64 = .ok (.iconst 0, 1) := by decide +kernel
theorem dM_begin_65 : decode bM_begin 65 = .ok (.putfield 33, 3) := by decide +kernel
theorem dM_begin_68 : decode bM_begin 68 = .ok (.aload_n 0, 1) := by decide +kernel
theorem dM_begin_69 : decode bM_begin 69 = .ok (.iconst 0, 1) := by decide +kernel
theorem dM_begin_70 : decode bM_begin 70 = .ok (.putfield 36, 3) := by decide +kernel
theorem dM_begin_73 : decode bM_begin 73 = .ok (.aload_n 0, 1) := by decide +kernel
theorem dM_begin_74 : decode bM_begin 74 = .ok (.iconst 0, 1) := by decide +kernel
theorem dM_begin_75 : decode bM_begin 75 = .ok (.putfield 39, 3) := by decide +kernel
theorem dM_begin_78 : decode bM_begin 78 = .ok (.return_, 1) := by decide +kernel
theorem dM_switches_0 : decode bM_switches 0 = .ok (.aload_n 0, 1) := by decide +kernel
theorem dM_switches_1 : decode bM_switches 1 = .ok (.getfield 22, 3) := by decide +kernel
theorem dM_switches_4 : decode bM_switches 4 = .ok (.ifCond .eq 8, 3) := by decide +kernel
theorem dM_switches_7 : decode bM_switches 7 = .ok (.bipush 16, 2) := by decide +kernel
theorem dM_switches_9 : decode bM_switches 9 = .ok (.goto 4, 3) := by decide +kernel
theorem dM_switches_12 : decode bM_switches 12 = .ok (.iconst 0, 1) := by decide +kernel
theorem dM_switches_13 : decode bM_switches 13 = .ok (.iconst 4, 1) := by decide +kernel
theorem dM_switches_14 : decode bM_switches 14 = .ok (.aload_n 0, 1) := by decide +kernel
theorem dM_switches_15 : decode bM_switches 15 = .ok (.getfield 26, 3) := by decide +kernel
theorem dM_switches_18 : decode bM_switches 18 = .ok (.imul, 1) := by decide +kernel
theorem dM_switches_19 : decode bM_switches 19 = .ok (.iadd, 1) := by decide +kernel
theorem dM_switches_20 : decode bM_switches 20 = .ok (.iconst 2, 1) := by decide +kernel
theorem dM_switches_21 : decode bM_switches 21 = .ok (.aload_n 0, 1) := by decide +kernel
theorem dM_switches_22 : decode bM_switches 22 = .ok (.getfield 30, 3) := by decide +kernel
theorem dM_switches_25 : decode bM_switches 25 = .ok (.imul, 1) := by decide +kernel
theorem dM_switches_26 : decode bM_switches 26 = .ok (.iadd, 1) := by decide +kernel
theorem dM_switches_27 : decode bM_switches 27 = .ok (.aload_n 0, 1) := by decide +kernel
theorem dM_switches_28 : decode bM_switches 28 = .ok (.getfield 33, 3) := by decide +kernel
theorem dM_switches_31 : decode bM_switches 31 = .ok (.iadd, 1) := by decide +kernel
theorem dM_switches_32 : decode bM_switches 32 = .ok (.ireturn, 1) := by decide +kernel
theorem dM_askingLine_0 : decode bM_askingLine 0 = .ok (.iconst 0, 1) := by decide +kernel
theorem dM_askingLine_1 : decode bM_askingLine 1 = .ok (.istore_n 1, 1) := by decide +kernel
theorem dM_askingLine_2 : decode bM_askingLine 2 = .ok (.iload_n 1, 1) := by decide +kernel
theorem dM_askingLine_3 : decode bM_askingLine 3 = .ok (.iconst 4, 1) := by decide +kernel
theorem dM_askingLine_4 : decode bM_askingLine 4 = .ok (.if_icmp .ge 27, 3) := by decide +kernel
theorem dM_askingLine_7 : decode bM_askingLine 7 = .ok (.aload_n 0, 1) := by decide +kernel
theorem dM_askingLine_8 : decode bM_askingLine 8 = .ok (.getfield 39, 3) := by decide +kernel
theorem dM_askingLine_11 : decode bM_askingLine 11 = .ok (.aload_n 0, 1) := by decide +kernel
theorem dM_askingLine_12 : decode bM_askingLine 12 = .ok (.getfield 36, 3) := by decide +kernel
theorem dM_askingLine_15 : decode bM_askingLine 15 = .ok (.iand, 1) := by decide +kernel
theorem dM_askingLine_16 : decode bM_askingLine 16 = .ok (.iconst 1, 1) := by decide +kernel
theorem dM_askingLine_17 : decode bM_askingLine 17 = .ok (.iload_n 1, 1) := by decide +kernel
theorem dM_askingLine_18 : decode bM_askingLine 18 = .ok (.ishl, 1) := by decide +kernel
theorem dM_askingLine_19 : decode bM_askingLine 19 = .ok (.iand, 1) := by decide +kernel
theorem dM_askingLine_20 : decode bM_askingLine 20 = .ok (.ifCond .eq 5, 3) := by decide +kernel
theorem dM_askingLine_23 : decode bM_askingLine 23 = .ok (.iload_n 1, 1) := by decide +kernel
theorem dM_askingLine_24 : decode bM_askingLine 24 = .ok (.ireturn, 1) := by decide +kernel
theorem dM_askingLine_25 : decode bM_askingLine 25 = .ok (.iinc 1 1, 3) := by decide +kernel
theorem dM_askingLine_28 : decode bM_askingLine 28 = .ok (.goto (-26), 3) := by decide +kernel
theorem dM_askingLine_31 : decode bM_askingLine 31 = .ok (.iconst (-1), 1) := by decide +kernel
theorem dM_askingLine_32 : decode bM_askingLine 32 = .ok (.ireturn, 1) := by decide +kernel
theorem dM_read_0 : decode bM_read 0 = .ok (.iload_n 1, 1) := by decide +kernel
theorem dM_read_1 : decode bM_read 1 = .ok (.bipush 64, 2) := by decide +kernel
theorem dM_read_3 : decode bM_read 3 = .ok (.if_icmp .ge 30, 3) := by decide +kernel
theorem dM_read_6 : decode bM_read 6 = .ok (.aload_n 0, 1) := by decide +kernel
theorem dM_read_7 : decode bM_read 7 = .ok (.getfield 18, 3) := by decide +kernel
theorem dM_read_10 : decode bM_read 10 = .ok (.aload_n 0, 1) := by decide +kernel
theorem dM_read_11 : decode bM_read 11 = .ok (.getfield 33, 3) := by decide +kernel
theorem dM_read_14 : decode bM_read 14 = .ok (.iconst 1, 1) := by decide +kernel
theorem dM_read_15 : decode bM_read 15 = .ok (.if_icmp .ne 12, 3) := by decide +kernel
theorem dM_read_18 : decode bM_read 18 = .ok (.iconst 4, 1) := by decide +kernel
theorem dM_read_19 : decode bM_read 19 = .ok (.aload_n 0, 1) := by decide +kernel
theorem dM_read_20 : decode bM_read 20 = .ok (.getfield 30, 3) := by decide +kernel
theorem dM_read_23 : decode bM_read 23 = .ok (.imul, 1) := by decide +kernel
theorem dM_read_24 : decode bM_read 24 = .ok (.goto 4, 3) := by decide +kernel
theorem dM_read_27 : decode bM_read 27 = .ok (.iconst 0, 1) := by decide +kernel
theorem dM_read_28 : decode bM_read 28 = .ok (.iload_n 1, 1) := by decide +kernel
theorem dM_read_29 : decode bM_read 29 = .ok (.invokevirtual 42, 3) := by decide +kernel
theorem dM_read_32 : decode bM_read 32 = .ok (.ireturn, 1) := by decide +kernel
theorem dM_read_33 : decode bM_read 33 = .ok (.iload_n 1, 1) := by decide +kernel
theorem dM_read_34 : decode bM_read 34 = .ok (.sipush 128, 3) := by decide +kernel
theorem dM_read_37 : decode bM_read 37 = .ok (.if_icmp .ge 26, 3) := by decide +kernel
theorem dM_read_40 : decode bM_read 40 = .ok (.aload_n 0, 1) := by decide +kernel
theorem dM_read_41 : decode bM_read 41 = .ok (.getfield 18, 3) := by decide +kernel
theorem dM_read_44 : decode bM_read 44 = .ok (.iconst 4, 1) := by decide +kernel
theorem dM_read_45 : decode bM_read 45 = .ok (.aload_n 0, 1) := by decide +kernel
theorem dM_read_46 : decode bM_read 46 = .ok (.getfield 30, 3) := by decide +kernel
theorem dM_read_49 : decode bM_read 49 = .ok (.imul, 1) := by decide +kernel
theorem dM_read_50 : decode bM_read 50 = .ok (.aload_n 0, 1) := by decide +kernel
theorem dM_read_51 : decode bM_read 51 = .ok (.getfield 26, 3) := by decide +kernel
theorem dM_read_54 : decode bM_read 54 = .ok (.iadd, 1) := by decide +kernel
theorem dM_read_55 : decode bM_read 55 = .ok (.iload_n 1, 1) := by decide +kernel
theorem dM_read_56 : decode bM_read 56 = .ok (.bipush 64, 2) := by decide +kernel
theorem dM_read_58 : decode bM_read 58 = .ok (.isub, 1) := by decide +kernel
theorem dM_read_59 : decode bM_read 59 = .ok (.invokevirtual 42, 3) := by decide +kernel
theorem dM_read_62 : decode bM_read 62 = .ok (.ireturn, 1) := by decide +kernel
theorem dM_read_63 : decode bM_read 63 = .ok (.iload_n 1, 1) := by decide +kernel
theorem dM_read_64 : decode bM_read 64 = .ok (.sipush 192, 3) := by decide +kernel
theorem dM_read_67 : decode bM_read 67 = .ok (.if_icmp .ge 27, 3) := by decide +kernel
theorem dM_read_70 : decode bM_read 70 = .ok (.aload_n 0, 1) := by decide +kernel
theorem dM_read_71 : decode bM_read 71 = .ok (.getfield 22, 3) := by decide +kernel
theorem dM_read_74 : decode bM_read 74 = .ok (.ifCond .eq 16, 3) := by decide +kernel
theorem dM_read_77 : decode bM_read 77 = .ok (.aload_n 0, 1) := by decide +kernel
theorem dM_read_78 : decode bM_read 78 = .ok (.getfield 9, 3) := by decide +kernel
theorem dM_read_81 : decode bM_read 81 = .ok (.aload_n 0, 1) := by decide +kernel
theorem dM_read_82 : decode bM_read 82 = .ok (.iload_n 1, 1) := by decide +kernel
theorem dM_read_83 : decode bM_read 83 = .ok (.invokevirtual 48, 3) := by decide +kernel
theorem dM_read_86 : decode bM_read 86 = .ok (.iaload, 1) := by decide +kernel
theorem dM_read_87 : decode bM_read 87 = .ok (.goto 6, 3) := by decide +kernel
theorem dM_read_90 : decode bM_read 90 = .ok (.sipush 255, 3) := by decide +kernel
theorem dM_read_93 : decode bM_read 93 = .ok (.ireturn, 1) := by decide +kernel
theorem dM_read_94 : decode bM_read 94 = .ok (.iload_n 1, 1) := by decide +kernel
theorem dM_read_95 : decode bM_read 95 = .ok (.sipush 254, 3) := by decide +kernel
theorem dM_read_98 : decode bM_read 98 = .ok (.if_icmp .ge 14, 3) := by decide +kernel
theorem dM_read_101 : decode bM_read 101 = .ok (.aload_n 0, 1) := by decide +kernel
theorem dM_read_102 : decode bM_read 102 = .ok (.getfield 15, 3) := by decide +kernel
theorem dM_read_105 : decode bM_read 105 = .ok (.iload_n 1, 1) := by decide +kernel
theorem dM_read_106 : decode bM_read 106 = .ok (.sipush 192, 3) := by decide +kernel
theorem dM_read_109 : decode bM_read 109 = .ok (.isub, 1) := by decide +kernel
theorem dM_read_110 : decode bM_read 110 = .ok (.iaload, 1) := by decide +kernel
theorem dM_read_111 : decode bM_read 111 = .ok (.ireturn, 1) := by decide +kernel
theorem dM_read_112 : decode bM_read 112 = .ok (.iload_n 1, 1) := by decide +kernel
theorem dM_read_113 : decode bM_read 113 = .ok (.sipush 254, 3) := by decide +kernel
theorem dM_read_116 : decode bM_read 116 = .ok (.if_icmp .ne 10, 3) := by decide +kernel
theorem dM_read_119 : decode bM_read 119 = .ok (.aload_n 0, 1) := by decide +kernel
theorem dM_read_120 : decode bM_read 120 = .ok (.getfield 36, 3) := by decide +kernel
theorem dM_read_123 : decode bM_read 123 = .ok (.goto 7, 3) := by decide +kernel
theorem dM_read_126 : decode bM_read 126 = .ok (.aload_n 0, 1) := by decide +kernel
theorem dM_read_127 : decode bM_read 127 = .ok (.getfield 39, 3) := by decide +kernel
theorem dM_read_130 : decode bM_read 130 = .ok (.ireturn, 1) := by decide +kernel
theorem dM_write_0 : decode bM_write 0 = .ok (.iload_n 1, 1) := by decide +kernel
theorem dM_write_1 : decode bM_write 1 = .ok (.sipush 128, 3) := by decide +kernel
theorem dM_write_4 : decode bM_write 4 = .ok (.if_icmp .ge 15, 3) := by decide +kernel
theorem dM_write_7 : decode bM_write 7 = .ok (.aload_n 0, 1) := by decide +kernel
theorem dM_write_8 : decode bM_write 8 = .ok (.iload_n 1, 1) := by decide +kernel
theorem dM_write_9 : decode bM_write 9 = .ok (.bipush 32, 2) := by decide +kernel
theorem dM_write_11 : decode bM_write 11 = .ok (.idiv, 1) := by decide +kernel
theorem dM_write_12 : decode bM_write 12 = .ok (.iload_n 2, 1) := by decide +kernel
theorem dM_write_13 : decode bM_write 13 = .ok (.invokevirtual 52, 3) := by decide +kernel
theorem dM_write_16 : decode bM_write 16 = .ok (.goto 78, 3) := by decide +kernel
theorem dM_write_19 : decode bM_write 19 = .ok (.iload_n 1, 1) := by decide +kernel
theorem dM_write_20 : decode bM_write 20 = .ok (.sipush 192, 3) := by decide +kernel
theorem dM_write_23 : decode bM_write 23 = .ok (.if_icmp .ge 24, 3) := by decide +kernel
theorem dM_write_26 : decode bM_write 26 = .ok (.aload_n 0, 1) := by decide +kernel
theorem dM_write_27 : decode bM_write 27 = .ok (.getfield 22, 3) := by decide +kernel
theorem dM_write_30 : decode bM_write 30 = .ok (.ifCond .eq 64, 3) := by decide +kernel
theorem dM_write_33 : decode bM_write 33 = .ok (.aload_n 0, 1) := by decide +kernel
theorem dM_write_34 : decode bM_write 34 = .ok (.getfield 9, 3) := by decide +kernel
theorem dM_write_37 : decode bM_write 37 = .ok (.aload_n 0, 1) := by decide +kernel
theorem dM_write_38 : decode bM_write 38 = .ok (.iload_n 1, 1) := by decide +kernel
theorem dM_write_39 : decode bM_write 39 = .ok (.invokevirtual 48, 3) := by decide +kernel
theorem dM_write_42 : decode bM_write 42 = .ok (.iload_n 2, 1) := by decide +kernel
theorem dM_write_43 : decode bM_write 43 = .ok (.iastore, 1) := by decide +kernel
theorem dM_write_44 : decode bM_write 44 = .ok (.goto 50, 3) := by decide +kernel
theorem dM_write_47 : decode bM_write 47 = .ok (.iload_n 1, 1) := by decide +kernel
theorem dM_write_48 : decode bM_write 48 = .ok (.sipush 254, 3) := by decide +kernel
theorem dM_write_51 : decode bM_write 51 = .ok (.if_icmp .ge 17, 3) := by decide +kernel
theorem dM_write_54 : decode bM_write 54 = .ok (.aload_n 0, 1) := by decide +kernel
theorem dM_write_55 : decode bM_write 55 = .ok (.getfield 15, 3) := by decide +kernel
theorem dM_write_58 : decode bM_write 58 = .ok (.iload_n 1, 1) := by decide +kernel
theorem dM_write_59 : decode bM_write 59 = .ok (.sipush 192, 3) := by decide +kernel
theorem dM_write_62 : decode bM_write 62 = .ok (.isub, 1) := by decide +kernel
theorem dM_write_63 : decode bM_write 63 = .ok (.iload_n 2, 1) := by decide +kernel
theorem dM_write_64 : decode bM_write 64 = .ok (.iastore, 1) := by decide +kernel
theorem dM_write_65 : decode bM_write 65 = .ok (.goto 29, 3) := by decide +kernel
theorem dM_write_68 : decode bM_write 68 = .ok (.iload_n 1, 1) := by decide +kernel
theorem dM_write_69 : decode bM_write 69 = .ok (.sipush 254, 3) := by decide +kernel
theorem dM_write_72 : decode bM_write 72 = .ok (.if_icmp .ne 14, 3) := by decide +kernel
theorem dM_write_75 : decode bM_write 75 = .ok (.aload_n 0, 1) := by decide +kernel
theorem dM_write_76 : decode bM_write 76 = .ok (.iload_n 2, 1) := by decide +kernel
theorem dM_write_77 : decode bM_write 77 = .ok (.bipush 15, 2) := by decide +kernel
theorem dM_write_79 : decode bM_write 79 = .ok (.iand, 1) := by decide +kernel
theorem dM_write_80 : decode bM_write 80 = .ok (.putfield 36, 3) := by decide +kernel
theorem dM_write_83 : decode bM_write 83 = .ok (.goto 11, 3) := by decide +kernel
theorem dM_write_86 : decode bM_write 86 = .ok (.aload_n 0, 1) := by decide +kernel
theorem dM_write_87 : decode bM_write 87 = .ok (.iload_n 2, 1) := by decide +kernel
theorem dM_write_88 : decode bM_write 88 = .ok (.bipush 15, 2) := by decide +kernel
theorem dM_write_90 : decode bM_write 90 = .ok (.iand, 1) := by decide +kernel
theorem dM_write_91 : decode bM_write 91 = .ok (.putfield 39, 3) := by decide +kernel
theorem dM_write_94 : decode bM_write 94 = .ok (.return_, 1) := by decide +kernel
theorem dM_ramPlace_0 : decode bM_ramPlace 0 = .ok (.aload_n 0, 1) := by decide +kernel
theorem dM_ramPlace_1 : decode bM_ramPlace 1 = .ok (.getfield 33, 3) := by decide +kernel
theorem dM_ramPlace_4 : decode bM_ramPlace 4 = .ok (.iconst 1, 1) := by decide +kernel
theorem dM_ramPlace_5 : decode bM_ramPlace 5 = .ok (.if_icmp .ne 13, 3) := by decide +kernel
theorem dM_ramPlace_8 : decode bM_ramPlace 8 = .ok (.aload_n 0, 1) := by decide +kernel
theorem dM_ramPlace_9 : decode bM_ramPlace 9 = .ok (.getfield 30, 3) := by decide +kernel
theorem dM_ramPlace_12 : decode bM_ramPlace 12 = .ok (.bipush 64, 2) := by decide +kernel
theorem dM_ramPlace_14 : decode bM_ramPlace 14 = .ok (.imul, 1) := by decide +kernel
theorem dM_ramPlace_15 : decode bM_ramPlace 15 = .ok (.goto 4, 3) := by decide +kernel
theorem dM_ramPlace_18 : decode bM_ramPlace 18 = .ok (.iconst 0, 1) := by decide +kernel
theorem dM_ramPlace_19 : decode bM_ramPlace 19 = .ok (.iload_n 1, 1) := by decide +kernel
theorem dM_ramPlace_20 : decode bM_ramPlace 20 = .ok (.iadd, 1) := by decide +kernel
theorem dM_ramPlace_21 : decode bM_ramPlace 21 = .ok (.sipush 128, 3) := by decide +kernel
theorem dM_ramPlace_24 : decode bM_ramPlace 24 = .ok (.isub, 1) := by decide +kernel
theorem dM_ramPlace_25 : decode bM_ramPlace 25 = .ok (.ireturn, 1) := by decide +kernel
theorem dM_turnSwitch_0 : decode bM_turnSwitch 0 = .ok (.iload_n 1, 1) := by decide +kernel
theorem dM_turnSwitch_1 : decode bM_turnSwitch 1 = .ok (.tableswitch 78 0 2 #[27, 48, 68], 27) := by decide +kernel
theorem dM_turnSwitch_28 : decode bM_turnSwitch 28 = .ok (.aload_n 0, 1) := by decide +kernel
theorem dM_turnSwitch_29 : decode bM_turnSwitch 29 = .ok (.iload_n 2, 1) := by decide +kernel
theorem dM_turnSwitch_30 : decode bM_turnSwitch 30 = .ok (.bipush 15, 2) := by decide +kernel
theorem dM_turnSwitch_32 : decode bM_turnSwitch 32 = .ok (.iand, 1) := by decide +kernel
theorem dM_turnSwitch_33 : decode bM_turnSwitch 33 = .ok (.bipush 10, 2) := by decide +kernel
theorem dM_turnSwitch_35 : decode bM_turnSwitch 35 = .ok (.if_icmp .ne 7, 3) := by decide +kernel
theorem dM_turnSwitch_38 : decode bM_turnSwitch 38 = .ok (.iconst 1, 1) := by decide +kernel
theorem dM_turnSwitch_39 : decode bM_turnSwitch 39 = .ok (.goto 4, 3) := by decide +kernel
theorem dM_turnSwitch_42 : decode bM_turnSwitch 42 = .ok (.iconst 0, 1) := by decide +kernel
theorem dM_turnSwitch_43 : decode bM_turnSwitch 43 = .ok (.putfield 22, 3) := by decide +kernel
theorem dM_turnSwitch_46 : decode bM_turnSwitch 46 = .ok (.goto 40, 3) := by decide +kernel
theorem dM_turnSwitch_49 : decode bM_turnSwitch 49 = .ok (.aload_n 0, 1) := by decide +kernel
theorem dM_turnSwitch_50 : decode bM_turnSwitch 50 = .ok (.iload_n 2, 1) := by decide +kernel
theorem dM_turnSwitch_51 : decode bM_turnSwitch 51 = .ok (.iconst 3, 1) := by decide +kernel
theorem dM_turnSwitch_52 : decode bM_turnSwitch 52 = .ok (.iand, 1) := by decide +kernel
theorem dM_turnSwitch_53 : decode bM_turnSwitch 53 = .ok (.ifCond .ne 7, 3) := by decide +kernel
theorem dM_turnSwitch_56 : decode bM_turnSwitch 56 = .ok (.iconst 1, 1) := by decide +kernel
theorem dM_turnSwitch_57 : decode bM_turnSwitch 57 = .ok (.goto 6, 3) := by decide +kernel
theorem dM_turnSwitch_60 : decode bM_turnSwitch 60 = .ok (.iload_n 2, 1) := by decide +kernel
theorem dM_turnSwitch_61 : decode bM_turnSwitch 61 = .ok (.iconst 3, 1) := by decide +kernel
theorem dM_turnSwitch_62 : decode bM_turnSwitch 62 = .ok (.iand, 1) := by decide +kernel
theorem dM_turnSwitch_63 : decode bM_turnSwitch 63 = .ok (.putfield 26, 3) := by decide +kernel
theorem dM_turnSwitch_66 : decode bM_turnSwitch 66 = .ok (.goto 20, 3) := by decide +kernel
theorem dM_turnSwitch_69 : decode bM_turnSwitch 69 = .ok (.aload_n 0, 1) := by decide +kernel
theorem dM_turnSwitch_70 : decode bM_turnSwitch 70 = .ok (.iload_n 2, 1) := by decide +kernel
theorem dM_turnSwitch_71 : decode bM_turnSwitch 71 = .ok (.iconst 1, 1) := by decide +kernel
theorem dM_turnSwitch_72 : decode bM_turnSwitch 72 = .ok (.iand, 1) := by decide +kernel
theorem dM_turnSwitch_73 : decode bM_turnSwitch 73 = .ok (.putfield 30, 3) := by decide +kernel
theorem dM_turnSwitch_76 : decode bM_turnSwitch 76 = .ok (.goto 10, 3) := by decide +kernel
theorem dM_turnSwitch_79 : decode bM_turnSwitch 79 = .ok (.aload_n 0, 1) := by decide +kernel
theorem dM_turnSwitch_80 : decode bM_turnSwitch 80 = .ok (.iload_n 2, 1) := by decide +kernel
theorem dM_turnSwitch_81 : decode bM_turnSwitch 81 = .ok (.iconst 1, 1) := by decide +kernel
theorem dM_turnSwitch_82 : decode bM_turnSwitch 82 = .ok (.iand, 1) := by decide +kernel
theorem dM_turnSwitch_83 : decode bM_turnSwitch 83 = .ok (.putfield 33, 3) := by decide +kernel
theorem dM_turnSwitch_86 : decode bM_turnSwitch 86 = .ok (.return_, 1) := by decide +kernel
theorem dP_init_0 : decode bP_init 0 = .ok (.aload_n 0, 1) := by decide +kernel
theorem dP_init_1 : decode bP_init 1 = .ok (.invokespecial 3, 3) := by decide +kernel
theorem dP_init_4 : decode bP_init 4 = .ok (.aload_n 0, 1) := by decide +kernel
theorem dP_init_5 : decode bP_init 5 = .ok (.bipush 10, 2) := by decide +kernel
theorem dP_init_7 : decode bP_init 7 = .ok (.newarray .int, 2) := by decide +kernel
theorem dP_init_9 : decode bP_init 9 = .ok (.putfield 9, 3) := by decide +kernel
theorem dP_init_12 : decode bP_init 12 = .ok (.aload_n 0, 1) := by decide +kernel
theorem dP_init_13 : decode bP_init 13 = .ok (.bipush 10, 2) := by decide +kernel
theorem dP_init_15 : decode bP_init 15 = .ok (.newarray .int, 2) := by decide +kernel
theorem dP_init_17 : decode bP_init 17 = .ok (.putfield 15, 3) := by decide +kernel
theorem dP_init_20 : decode bP_init 20 = .ok (.aload_n 0, 1) := by decide +kernel
theorem dP_init_21 : decode bP_init 21 = .ok (.bipush 8, 2) := by decide +kernel
theorem dP_init_23 : decode bP_init 23 = .ok (.newarray .int, 2) := by decide +kernel
theorem dP_init_25 : decode bP_init 25 = .ok (.putfield 18, 3) := by decide +kernel
theorem dP_init_28 : decode bP_init 28 = .ok (.return_, 1) := by decide +kernel
theorem dP_pack_0 : decode bP_pack 0 = .ok (.aload_n 0, 1) := by decide +kernel
theorem dP_pack_1 : decode bP_pack 1 = .ok (.aload_n 1, 1) := by decide +kernel
theorem dP_pack_2 : decode bP_pack 2 = .ok (.getfield 21, 3) := by decide +kernel
theorem dP_pack_5 : decode bP_pack 5 = .ok (.putfield 27, 3) := by decide +kernel
theorem dP_pack_8 : decode bP_pack 8 = .ok (.iconst 0, 1) := by decide +kernel
theorem dP_pack_9 : decode bP_pack 9 = .ok (.istore_n 3, 1) := by decide +kernel
theorem dP_pack_10 : decode bP_pack 10 = .ok (.iload_n 3, 1) := by decide +kernel
theorem dP_pack_11 : decode bP_pack 11 = .ok (.bipush 8, 2) := by decide +kernel
theorem dP_pack_13 : decode bP_pack 13 = .ok (.if_icmp .ge 25, 3) := by decide +kernel
theorem dP_pack_16 : decode bP_pack 16 = .ok (.aload_n 0, 1) := by decide +kernel
theorem dP_pack_17 : decode bP_pack 17 = .ok (.getfield 18, 3) := by decide +kernel
theorem dP_pack_20 : decode bP_pack 20 = .ok (.iload_n 3, 1) := by decide +kernel
theorem dP_pack_21 : decode bP_pack 21 = .ok (.iload_n 3, 1) := by decide +kernel
theorem dP_pack_22 : decode bP_pack 22 = .ok (.ifCond .ne 8, 3) := by decide +kernel
theorem dP_pack_25 : decode bP_pack 25 = .ok (.bipush 32, 2) := by decide +kernel
theorem dP_pack_27 : decode bP_pack 27 = .ok (.goto 4, 3) := by decide +kernel
theorem dP_pack_30 : decode bP_pack 30 = .ok (.iconst 0, 1) := by decide +kernel
theorem dP_pack_31 : decode bP_pack 31 = .ok (.iastore, 1) := by decide +kernel
theorem dP_pack_32 : decode bP_pack 32 = .ok (.iinc 3 1, 3) := by decide +kernel
theorem dP_pack_35 : decode bP_pack 35 = .ok (.goto (-25), 3) := by decide +kernel
theorem dP_pack_38 : decode bP_pack 38 = .ok (.aload_n 0, 1) := by decide +kernel
theorem dP_pack_39 : decode bP_pack 39 = .ok (.aload_n 1, 1) := by decide +kernel
theorem dP_pack_40 : decode bP_pack 40 = .ok (.iload_n 2, 1) := by decide +kernel
theorem dP_pack_41 : decode bP_pack 41 = .ok (.invokevirtual 28, 3) := by decide +kernel
theorem dP_pack_44 : decode bP_pack 44 = .ok (.ifCond .eq 16, 3) := by decide +kernel
theorem dP_pack_47 : decode bP_pack 47 = .ok (.aload_n 0, 1) := by decide +kernel
theorem dP_pack_48 : decode bP_pack 48 = .ok (.aload_n 1, 1) := by decide +kernel
theorem dP_pack_49 : decode bP_pack 49 = .ok (.iload_n 2, 1) := by decide +kernel
theorem dP_pack_50 : decode bP_pack 50 = .ok (.invokevirtual 32, 3) := by decide +kernel
theorem dP_pack_53 : decode bP_pack 53 = .ok (.ifCond .eq 7, 3) := by decide +kernel
theorem dP_pack_56 : decode bP_pack 56 = .ok (.iconst 1, 1) := by decide +kernel
theorem dP_pack_57 : decode bP_pack 57 = .ok (.goto 4, 3) := by decide +kernel
theorem dP_pack_60 : decode bP_pack 60 = .ok (.iconst 0, 1) := by decide +kernel
theorem dP_pack_61 : decode bP_pack 61 = .ok (.ireturn, 1) := by decide +kernel
theorem dP_addressOf_0 : decode bP_addressOf 0 = .ok (.aload_n 0, 1) := by decide +kernel
theorem dP_addressOf_1 : decode bP_addressOf 1 = .ok (.getfield 9, 3) := by decide +kernel
theorem dP_addressOf_4 : decode bP_addressOf 4 = .ok (.iload_n 1, 1) := by decide +kernel
theorem dP_addressOf_5 : decode bP_addressOf 5 = .ok (.iaload, 1) := by decide +kernel
theorem dP_addressOf_6 : decode bP_addressOf 6 = .ok (.ifCond .ne 12, 3) := by decide +kernel
theorem dP_addressOf_9 : decode bP_addressOf 9 = .ok (.aload_n 0, 1) := by decide +kernel
theorem dP_addressOf_10 : decode bP_addressOf 10 = .ok (.getfield 15, 3) := by decide +kernel
theorem dP_addressOf_13 : decode bP_addressOf 13 = .ok (.iload_n 1, 1) := by decide +kernel
theorem dP_addressOf_14 : decode bP_addressOf 14 = .ok (.iaload, 1) := by decide +kernel
theorem dP_addressOf_15 : decode bP_addressOf 15 = .ok (.goto 12, 3) := by decide +kernel
theorem dP_addressOf_18 : decode bP_addressOf 18 = .ok (.bipush 64, 2) := by decide +kernel
theorem dP_addressOf_20 : decode bP_addressOf 20 = .ok (.aload_n 0, 1) := by decide +kernel
theorem dP_addressOf_21 : decode bP_addressOf 21 = .ok (.getfield 15, 3) := by decide +kernel
theorem dP_addressOf_24 : decode bP_addressOf 24 = .ok (.iload_n 1, 1) := by decide +kernel
theorem dP_addressOf_25 : decode bP_addressOf 25 = .ok (.iaload, 1) := by decide +kernel
theorem dP_addressOf_26 : decode bP_addressOf 26 = .ok (.iadd, 1) := by decide +kernel
theorem dP_addressOf_27 : decode bP_addressOf 27 = .ok (.ireturn, 1) := by decide +kernel
theorem dP_packPinned_0 : decode bP_packPinned 0 = .ok (.iconst 0, 1) := by decide +kernel
theorem dP_packPinned_1 : decode bP_packPinned 1 = .ok (.istore_n 3, 1) := by decide +kernel
theorem dP_packPinned_2 : decode bP_packPinned 2 = .ok (.iload_n 3, 1) := by decide +kernel
theorem dP_packPinned_3 : decode bP_packPinned 3 = .ok (.aload_n 0, 1) := by decide +kernel
theorem dP_packPinned_4 : decode bP_packPinned 4 = .ok (.getfield 27, 3) := by decide +kernel
theorem dP_packPinned_7 : decode bP_packPinned 7 = .ok (.if_icmp .ge 62, 3) := by decide +kernel
theorem dP_packPinned_10 : decode bP_packPinned 10 = .ok (.aload_n 1, 1) := by decide +kernel
theorem dP_packPinned_11 : decode bP_packPinned 11 = .ok (.getfield 35, 3) := by decide +kernel
theorem dP_packPinned_14 : decode bP_packPinned 14 = .ok (.iload_n 3, 1) := by decide +kernel
theorem dP_packPinned_15 : decode bP_packPinned 15 = .ok (.iaload, 1) := by decide +kernel
theorem dP_packPinned_16 : decode bP_packPinned 16 = .ok (.istore 4, 2) := by decide +kernel
theorem dP_packPinned_18 : decode bP_packPinned 18 = .ok (.iload 4, 2) := by decide +kernel
theorem dP_packPinned_20 : decode bP_packPinned 20 = .ok (.iconst (-1), 1) := by decide +kernel
theorem dP_packPinned_21 : decode bP_packPinned 21 = .ok (.if_icmp .ne 6, 3) := by decide +kernel
theorem dP_packPinned_24 : decode bP_packPinned 24 = .ok (.goto 39, 3) := by decide +kernel
theorem dP_packPinned_27 : decode bP_packPinned 27 = .ok (.iload 4, 2) := by decide +kernel
theorem dP_packPinned_29 : decode bP_packPinned 29 = .ok (.iload_n 2, 1) := by decide +kernel
theorem dP_packPinned_30 : decode bP_packPinned 30 = .ok (.if_icmp .ge 18, 3) := by decide +kernel
theorem dP_packPinned_33 : decode bP_packPinned 33 = .ok (.aload_n 0, 1) := by decide +kernel
theorem dP_packPinned_34 : decode bP_packPinned 34 = .ok (.iload 4, 2) := by decide +kernel
theorem dP_packPinned_36 : decode bP_packPinned 36 = .ok (.aload_n 1, 1) := by decide +kernel
theorem dP_packPinned_37 : decode bP_packPinned 37 = .ok (.getfield 36, 3) := by decide +kernel
theorem dP_packPinned_40 : decode bP_packPinned 40 = .ok (.iload_n 3, 1) := by decide +kernel
theorem dP_packPinned_41 : decode bP_packPinned 41 = .ok (.iaload, 1) := by decide +kernel
theorem dP_packPinned_42 : decode bP_packPinned 42 = .ok (.invokevirtual 39, 3) := by decide +kernel
theorem dP_packPinned_45 : decode bP_packPinned 45 = .ok (.ifCond .ne 5, 3) := by decide +kernel
theorem dP_packPinned_48 : decode bP_packPinned 48 = .ok (.iconst 0, 1) := by decide +kernel
theorem dP_packPinned_49 : decode bP_packPinned 49 = .ok (.ireturn, 1) := by decide +kernel
theorem dP_packPinned_50 : decode bP_packPinned 50 = .ok (.aload_n 0, 1) := by decide +kernel
theorem dP_packPinned_51 : decode bP_packPinned 51 = .ok (.iload_n 3, 1) := by decide +kernel
theorem dP_packPinned_52 : decode bP_packPinned 52 = .ok (.iload 4, 2) := by decide +kernel
theorem dP_packPinned_54 : decode bP_packPinned 54 = .ok (.aload_n 1, 1) := by decide +kernel
theorem dP_packPinned_55 : decode bP_packPinned 55 = .ok (.getfield 36, 3) := by decide +kernel
theorem dP_packPinned_58 : decode bP_packPinned 58 = .ok (.iload_n 3, 1) := by decide +kernel
theorem dP_packPinned_59 : decode bP_packPinned 59 = .ok (.iaload, 1) := by decide +kernel
theorem dP_packPinned_60 : decode bP_packPinned 60 = .ok (.invokevirtual 43, 3) := by decide +kernel
theorem dP_packPinned_63 : decode bP_packPinned 63 = .ok (.iinc 3 1, 3) := by decide +kernel
theorem dP_packPinned_66 : decode bP_packPinned 66 = .ok (.goto (-64), 3) := by decide +kernel
theorem dP_packPinned_69 : decode bP_packPinned 69 = .ok (.iconst 1, 1) := by decide +kernel
theorem dP_packPinned_70 : decode bP_packPinned 70 = .ok (.ireturn, 1) := by decide +kernel
theorem dP_packFloating_0 : decode bP_packFloating 0 = .ok (.bipush 48, 2) := by decide +kernel
theorem dP_packFloating_2 : decode bP_packFloating 2 = .ok (.istore_n 3, 1) := by decide +kernel
theorem dP_packFloating_3 : decode bP_packFloating 3 = .ok (.iload_n 3, 1) := by decide +kernel
theorem dP_packFloating_4 : decode bP_packFloating 4 = .ok (.ifCond .lt 74, 3) := by decide +kernel
theorem dP_packFloating_7 : decode bP_packFloating 7 = .ok (.iconst 0, 1) := by decide +kernel
theorem dP_packFloating_8 : decode bP_packFloating 8 = .ok (.istore 4, 2) := by decide +kernel
theorem dP_packFloating_10 : decode bP_packFloating 10 = .ok (.iload 4, 2) := by decide +kernel
theorem dP_packFloating_12 : decode bP_packFloating 12 = .ok (.aload_n 0, 1) := by decide +kernel
theorem dP_packFloating_13 : decode bP_packFloating 13 = .ok (.getfield 27, 3) := by decide +kernel
theorem dP_packFloating_16 : decode bP_packFloating 16 = .ok (.if_icmp .ge 56, 3) := by decide +kernel
theorem dP_packFloating_19 : decode bP_packFloating 19 = .ok (.aload_n 1, 1) := by decide +kernel
theorem dP_packFloating_20 : decode bP_packFloating 20 = .ok (.getfield 35, 3) := by decide +kernel
theorem dP_packFloating_23 : decode bP_packFloating 23 = .ok (.iload 4, 2) := by decide +kernel
theorem dP_packFloating_25 : decode bP_packFloating 25 = .ok (.iaload, 1) := by decide +kernel
theorem dP_packFloating_26 : decode bP_packFloating 26 = .ok (.iconst (-1), 1) := by decide +kernel
theorem dP_packFloating_27 : decode bP_packFloating 27 = .ok (.if_icmp .ne 18, 3) := by decide +kernel
theorem dP_packFloating_30 : decode bP_packFloating 30 = .ok (.aload_n 1, 1) := by decide +kernel
theorem dP_packFloating_31 : decode bP_packFloating 31 = .ok (.getfield 36, 3) := by decide +kernel
theorem dP_packFloating_34 : decode bP_packFloating 34 = .ok (.iload 4, 2) := by decide +kernel
theorem dP_packFloating_36 : decode bP_packFloating 36 = .ok (.iaload, 1) := by decide +kernel
theorem dP_packFloating_37 : decode bP_packFloating 37 = .ok (.iload_n 3, 1) := by decide +kernel
theorem dP_packFloating_38 : decode bP_packFloating 38 = .ok (.if_icmp .ne 7, 3) := by decide +kernel
theorem dP_packFloating_41 : decode bP_packFloating 41 = .ok (.iconst 1, 1) := by decide +kernel
theorem dP_packFloating_42 : decode bP_packFloating 42 = .ok (.goto 4, 3) := by decide +kernel
theorem dP_packFloating_45 : decode bP_packFloating 45 = .ok (.iconst 0, 1) := by decide +kernel
theorem dP_packFloating_46 : decode bP_packFloating 46 = .ok (.istore 5, 2) := by decide +kernel
theorem dP_packFloating_48 : decode bP_packFloating 48 = .ok (.iload 5, 2) := by decide +kernel
theorem dP_packFloating_50 : decode bP_packFloating 50 = .ok (.ifCond .eq 16, 3) := by decide +kernel
theorem dP_packFloating_53 : decode bP_packFloating 53 = .ok (.aload_n 0, 1) := by decide +kernel
theorem dP_packFloating_54 : decode bP_packFloating 54 = .ok (.iload 4, 2) := by decide +kernel
theorem dP_packFloating_56 : decode bP_packFloating 56 = .ok (.iload_n 3, 1) := by decide +kernel
theorem dP_packFloating_57 : decode bP_packFloating 57 = .ok (.iload_n 2, 1) := by decide +kernel
theorem dP_packFloating_58 : decode bP_packFloating 58 = .ok (.invokevirtual 47, 3) := by decide +kernel
theorem dP_packFloating_61 : decode bP_packFloating 61 = .ok (.ifCond .ne 5, 3) := by decide +kernel
theorem dP_packFloating_64 : decode bP_packFloating 64 = .ok (.iconst 0, 1) := by decide +kernel
theorem dP_packFloating_65 : decode bP_packFloating 65 = .ok (.ireturn, 1) := by decide +kernel
theorem dP_packFloating_66 : decode bP_packFloating 66 = .ok (.iinc 4 1, 3) := by decide +kernel
theorem dP_packFloating_69 : decode bP_packFloating 69 = .ok (.goto (-59), 3) := by decide +kernel
theorem dP_packFloating_72 : decode bP_packFloating 72 = .ok (.iinc 3 (-1), 3) := by decide +kernel
theorem dP_packFloating_75 : decode bP_packFloating 75 = .ok (.goto (-72), 3) := by decide +kernel
theorem dP_packFloating_78 : decode bP_packFloating 78 = .ok (.iconst 1, 1) := by decide +kernel
theorem dP_packFloating_79 : decode bP_packFloating 79 = .ok (.ireturn, 1) := by decide +kernel
theorem dP_packLowest_0 : decode bP_packLowest 0 = .ok (.iconst 0, 1) := by decide +kernel
theorem dP_packLowest_1 : decode bP_packLowest 1 = .ok (.istore 4, 2) := by decide +kernel
theorem dP_packLowest_3 : decode bP_packLowest 3 = .ok (.iload 4, 2) := by decide +kernel
theorem dP_packLowest_5 : decode bP_packLowest 5 = .ok (.iload_n 3, 1) := by decide +kernel
theorem dP_packLowest_6 : decode bP_packLowest 6 = .ok (.if_icmp .ge 29, 3) := by decide +kernel
theorem dP_packLowest_9 : decode bP_packLowest 9 = .ok (.aload_n 0, 1) := by decide +kernel
theorem dP_packLowest_10 : decode bP_packLowest 10 = .ok (.iload 4, 2) := by decide +kernel
theorem dP_packLowest_12 : decode bP_packLowest 12 = .ok (.iload_n 2, 1) := by decide +kernel
theorem dP_packLowest_13 : decode bP_packLowest 13 = .ok (.invokevirtual 39, 3) := by decide +kernel
theorem dP_packLowest_16 : decode bP_packLowest 16 = .ok (.ifCond .eq 13, 3) := by decide +kernel
theorem dP_packLowest_19 : decode bP_packLowest 19 = .ok (.aload_n 0, 1) := by decide +kernel
theorem dP_packLowest_20 : decode bP_packLowest 20 = .ok (.iload_n 1, 1) := by decide +kernel
theorem dP_packLowest_21 : decode bP_packLowest 21 = .ok (.iload 4, 2) := by decide +kernel
theorem dP_packLowest_23 : decode bP_packLowest 23 = .ok (.iload_n 2, 1) := by decide +kernel
theorem dP_packLowest_24 : decode bP_packLowest 24 = .ok (.invokevirtual 43, 3) := by decide +kernel
theorem dP_packLowest_27 : decode bP_packLowest 27 = .ok (.iconst 1, 1) := by decide +kernel
theorem dP_packLowest_28 : decode bP_packLowest 28 = .ok (.ireturn, 1) := by decide +kernel
theorem dP_packLowest_29 : decode bP_packLowest 29 = .ok (.iinc 4 1, 3) := by decide +kernel
theorem dP_packLowest_32 : decode bP_packLowest 32 = .ok (.goto (-29), 3) := by decide +kernel
theorem dP_packLowest_35 : decode bP_packLowest 35 = .ok (.iconst 0, 1) := by decide +kernel
theorem dP_packLowest_36 : decode bP_packLowest 36 = .ok (.ireturn, 1) := by decide +kernel
theorem dP_fits_0 : decode bP_fits 0 = .ok (.aload_n 0, 1) := by decide +kernel
theorem dP_fits_1 : decode bP_fits 1 = .ok (.getfield 18, 3) := by decide +kernel
theorem dP_fits_4 : decode bP_fits 4 = .ok (.iload_n 1, 1) := by decide +kernel
theorem dP_fits_5 : decode bP_fits 5 = .ok (.iaload, 1) := by decide +kernel
theorem dP_fits_6 : decode bP_fits 6 = .ok (.iload_n 2, 1) := by decide +kernel
theorem dP_fits_7 : decode bP_fits 7 = .ok (.iadd, 1) := by decide +kernel
theorem dP_fits_8 : decode bP_fits 8 = .ok (.bipush 64, 2) := by decide +kernel
theorem dP_fits_10 : decode bP_fits 10 = .ok (.if_icmp .gt 7, 3) := by decide +kernel
theorem dP_fits_13 : decode bP_fits 13 = .ok (.iconst 1, 1) := by decide +kernel
theorem dP_fits_14 : decode bP_fits 14 = .ok (.goto 4, 3) := by decide +kernel
theorem dP_fits_17 : decode bP_fits 17 = .ok (.iconst 0, 1) := by decide +kernel
theorem dP_fits_18 : decode bP_fits 18 = .ok (.ireturn, 1) := by decide +kernel
theorem dP_put_0 : decode bP_put 0 = .ok (.aload_n 0, 1) := by decide +kernel
theorem dP_put_1 : decode bP_put 1 = .ok (.getfield 9, 3) := by decide +kernel
theorem dP_put_4 : decode bP_put 4 = .ok (.iload_n 1, 1) := by decide +kernel
theorem dP_put_5 : decode bP_put 5 = .ok (.iload_n 2, 1) := by decide +kernel
theorem dP_put_6 : decode bP_put 6 = .ok (.iastore, 1) := by decide +kernel
theorem dP_put_7 : decode bP_put 7 = .ok (.aload_n 0, 1) := by decide +kernel
theorem dP_put_8 : decode bP_put 8 = .ok (.getfield 15, 3) := by decide +kernel
theorem dP_put_11 : decode bP_put 11 = .ok (.iload_n 1, 1) := by decide +kernel
theorem dP_put_12 : decode bP_put 12 = .ok (.aload_n 0, 1) := by decide +kernel
theorem dP_put_13 : decode bP_put 13 = .ok (.getfield 18, 3) := by decide +kernel
theorem dP_put_16 : decode bP_put 16 = .ok (.iload_n 2, 1) := by decide +kernel
theorem dP_put_17 : decode bP_put 17 = .ok (.iaload, 1) := by decide +kernel
theorem dP_put_18 : decode bP_put 18 = .ok (.iastore, 1) := by decide +kernel
theorem dP_put_19 : decode bP_put 19 = .ok (.aload_n 0, 1) := by decide +kernel
theorem dP_put_20 : decode bP_put 20 = .ok (.getfield 18, 3) := by decide +kernel
theorem dP_put_23 : decode bP_put 23 = .ok (.iload_n 2, 1) := by decide +kernel
theorem dP_put_24 : decode bP_put 24 = .ok (.dup2, 1) := by decide +kernel
theorem dP_put_25 : decode bP_put 25 = .ok (.iaload, 1) := by decide +kernel
theorem dP_put_26 : decode bP_put 26 = .ok (.iload_n 3, 1) := by decide +kernel
theorem dP_put_27 : decode bP_put 27 = .ok (.iadd, 1) := by decide +kernel
theorem dP_put_28 : decode bP_put 28 = .ok (.iastore, 1) := by decide +kernel
theorem dP_put_29 : decode bP_put 29 = .ok (.return_, 1) := by decide +kernel
theorem dS_init_0 : decode bS_init 0 = .ok (.aload_n 0, 1) := by decide +kernel
theorem dS_init_1 : decode bS_init 1 = .ok (.invokespecial 3, 3) := by decide +kernel
theorem dS_init_4 : decode bS_init 4 = .ok (.aload_n 0, 1) := by decide +kernel
theorem dS_init_5 : decode bS_init 5 = .ok (.bipush 10, 2) := by decide +kernel
theorem dS_init_7 : decode bS_init 7 = .ok (.newarray .int, 2) := by decide +kernel
theorem dS_init_9 : decode bS_init 9 = .ok (.putfield 9, 3) := by decide +kernel
theorem dS_init_12 : decode bS_init 12 = .ok (.aload_n 0, 1) := by decide +kernel
theorem dS_init_13 : decode bS_init 13 = .ok (.bipush 10, 2) := by decide +kernel
theorem dS_init_15 : decode bS_init 15 = .ok (.newarray .int, 2) := by decide +kernel
theorem dS_init_17 : decode bS_init 17 = .ok (.putfield 15, 3) := by decide +kernel
theorem dS_init_20 : decode bS_init 20 = .ok (.aload_n 0, 1) := by decide +kernel
theorem dS_init_21 : decode bS_init 21 = .ok (.sipush 480, 3) := by decide +kernel
theorem dS_init_24 : decode bS_init 24 = .ok (.newarray .int, 2) := by decide +kernel
theorem dS_init_26 : decode bS_init 26 = .ok (.putfield 18, 3) := by decide +kernel
theorem dS_init_29 : decode bS_init 29 = .ok (.aload_n 0, 1) := by decide +kernel
theorem dS_init_30 : decode bS_init 30 = .ok (.sipush 480, 3) := by decide +kernel
theorem dS_init_33 : decode bS_init 33 = .ok (.newarray .int, 2) := by decide +kernel
theorem dS_init_35 : decode bS_init 35 = .ok (.putfield 21, 3) := by decide +kernel
theorem dS_init_38 : decode bS_init 38 = .ok (.return_, 1) := by decide +kernel
theorem dS_open_0 : decode bS_open 0 = .ok (.aload_n 0, 1) := by decide +kernel
theorem dS_open_1 : decode bS_open 1 = .ok (.getfield 24, 3) := by decide +kernel
theorem dS_open_4 : decode bS_open 4 = .ok (.istore_n 2, 1) := by decide +kernel
theorem dS_open_5 : decode bS_open 5 = .ok (.aload_n 0, 1) := by decide +kernel
theorem dS_open_6 : decode bS_open 6 = .ok (.getfield 9, 3) := by decide +kernel
theorem dS_open_9 : decode bS_open 9 = .ok (.iload_n 2, 1) := by decide +kernel
theorem dS_open_10 : decode bS_open 10 = .ok (.iload_n 1, 1) := by decide +kernel
theorem dS_open_11 : decode bS_open 11 = .ok (.iastore, 1) := by decide +kernel
theorem dS_open_12 : decode bS_open 12 = .ok (.aload_n 0, 1) := by decide +kernel
theorem dS_open_13 : decode bS_open 13 = .ok (.getfield 15, 3) := by decide +kernel
theorem dS_open_16 : decode bS_open 16 = .ok (.iload_n 2, 1) := by decide +kernel
theorem dS_open_17 : decode bS_open 17 = .ok (.iconst 0, 1) := by decide +kernel
theorem dS_open_18 : decode bS_open 18 = .ok (.iastore, 1) := by decide +kernel
theorem dS_open_19 : decode bS_open 19 = .ok (.aload_n 0, 1) := by decide +kernel
theorem dS_open_20 : decode bS_open 20 = .ok (.iload_n 2, 1) := by decide +kernel
theorem dS_open_21 : decode bS_open 21 = .ok (.iconst 1, 1) := by decide +kernel
theorem dS_open_22 : decode bS_open 22 = .ok (.iadd, 1) := by decide +kernel
theorem dS_open_23 : decode bS_open 23 = .ok (.putfield 24, 3) := by decide +kernel
theorem dS_open_26 : decode bS_open 26 = .ok (.iload_n 2, 1) := by decide +kernel
theorem dS_open_27 : decode bS_open 27 = .ok (.ireturn, 1) := by decide +kernel
theorem dS_canTake_0 : decode bS_canTake 0 = .ok (.aload_n 0, 1) := by decide +kernel
theorem dS_canTake_1 : decode bS_canTake 1 = .ok (.getfield 24, 3) := by decide +kernel
theorem dS_canTake_4 : decode bS_canTake 4 = .ok (.ifCond .le 25, 3) := by decide +kernel
theorem dS_canTake_7 : decode bS_canTake 7 = .ok (.aload_n 0, 1) := by decide +kernel
theorem dS_canTake_8 : decode bS_canTake 8 = .ok (.getfield 15, 3) := by decide +kernel
theorem dS_canTake_11 : decode bS_canTake 11 = .ok (.aload_n 0, 1) := by decide +kernel
theorem dS_canTake_12 : decode bS_canTake 12 = .ok (.getfield 24, 3) := by decide +kernel
theorem dS_canTake_15 : decode bS_canTake 15 = .ok (.iconst 1, 1) := by decide +kernel
theorem dS_canTake_16 : decode bS_canTake 16 = .ok (.isub, 1) := by decide +kernel
theorem dS_canTake_17 : decode bS_canTake 17 = .ok (.iaload, 1) := by decide +kernel
theorem dS_canTake_18 : decode bS_canTake 18 = .ok (.iload_n 1, 1) := by decide +kernel
theorem dS_canTake_19 : decode bS_canTake 19 = .ok (.iadd, 1) := by decide +kernel
theorem dS_canTake_20 : decode bS_canTake 20 = .ok (.bipush 48, 2) := by decide +kernel
theorem dS_canTake_22 : decode bS_canTake 22 = .ok (.if_icmp .gt 7, 3) := by decide +kernel
theorem dS_canTake_25 : decode bS_canTake 25 = .ok (.iconst 1, 1) := by decide +kernel
theorem dS_canTake_26 : decode bS_canTake 26 = .ok (.goto 4, 3) := by decide +kernel
theorem dS_canTake_29 : decode bS_canTake 29 = .ok (.iconst 0, 1) := by decide +kernel
theorem dS_canTake_30 : decode bS_canTake 30 = .ok (.ireturn, 1) := by decide +kernel
theorem dS_append_0 : decode bS_append 0 = .ok (.aload_n 0, 1) := by decide +kernel
theorem dS_append_1 : decode bS_append 1 = .ok (.getfield 24, 3) := by decide +kernel
theorem dS_append_4 : decode bS_append 4 = .ok (.iconst 1, 1) := by decide +kernel
theorem dS_append_5 : decode bS_append 5 = .ok (.isub, 1) := by decide +kernel
theorem dS_append_6 : decode bS_append 6 = .ok (.istore_n 3, 1) := by decide +kernel
theorem dS_append_7 : decode bS_append 7 = .ok (.iload_n 3, 1) := by decide +kernel
theorem dS_append_8 : decode bS_append 8 = .ok (.bipush 48, 2) := by decide +kernel
theorem dS_append_10 : decode bS_append 10 = .ok (.imul, 1) := by decide +kernel
theorem dS_append_11 : decode bS_append 11 = .ok (.aload_n 0, 1) := by decide +kernel
theorem dS_append_12 : decode bS_append 12 = .ok (.getfield 15, 3) := by decide +kernel
theorem dS_append_15 : decode bS_append 15 = .ok (.iload_n 3, 1) := by decide +kernel
theorem dS_append_16 : decode bS_append 16 = .ok (.iaload, 1) := by decide +kernel
theorem dS_append_17 : decode bS_append 17 = .ok (.iadd, 1) := by decide +kernel
theorem dS_append_18 : decode bS_append 18 = .ok (.istore 4, 2) := by decide +kernel
theorem dS_append_20 : decode bS_append 20 = .ok (.aload_n 0, 1) := by decide +kernel
theorem dS_append_21 : decode bS_append 21 = .ok (.getfield 18, 3) := by decide +kernel
theorem dS_append_24 : decode bS_append 24 = .ok (.iload 4, 2) := by decide +kernel
theorem dS_append_26 : decode bS_append 26 = .ok (.iload_n 1, 1) := by decide +kernel
theorem dS_append_27 : decode bS_append 27 = .ok (.iastore, 1) := by decide +kernel
theorem dS_append_28 : decode bS_append 28 = .ok (.aload_n 0, 1) := by decide +kernel
theorem dS_append_29 : decode bS_append 29 = .ok (.getfield 21, 3) := by decide +kernel
theorem dS_append_32 : decode bS_append 32 = .ok (.iload 4, 2) := by decide +kernel
theorem dS_append_34 : decode bS_append 34 = .ok (.iload_n 2, 1) := by decide +kernel
theorem dS_append_35 : decode bS_append 35 = .ok (.iastore, 1) := by decide +kernel
theorem dS_append_36 : decode bS_append 36 = .ok (.aload_n 0, 1) := by decide +kernel
theorem dS_append_37 : decode bS_append 37 = .ok (.getfield 15, 3) := by decide +kernel
theorem dS_append_40 : decode bS_append 40 = .ok (.iload_n 3, 1) := by decide +kernel
theorem dS_append_41 : decode bS_append 41 = .ok (.dup2, 1) := by decide +kernel
theorem dS_append_42 : decode bS_append 42 = .ok (.iaload, 1) := by decide +kernel
theorem dS_append_43 : decode bS_append 43 = .ok (.iconst 1, 1) := by decide +kernel
theorem dS_append_44 : decode bS_append 44 = .ok (.iadd, 1) := by decide +kernel
theorem dS_append_45 : decode bS_append 45 = .ok (.iastore, 1) := by decide +kernel
theorem dS_append_46 : decode bS_append 46 = .ok (.return_, 1) := by decide +kernel
theorem dS_lacksOne_0 : decode bS_lacksOne 0 = .ok (.iconst 0, 1) := by decide +kernel
theorem dS_lacksOne_1 : decode bS_lacksOne 1 = .ok (.istore_n 1, 1) := by decide +kernel
theorem dS_lacksOne_2 : decode bS_lacksOne 2 = .ok (.iload_n 1, 1) := by decide +kernel
theorem dS_lacksOne_3 : decode bS_lacksOne 3 = .ok (.aload_n 0, 1) := by decide +kernel
theorem dS_lacksOne_4 : decode bS_lacksOne 4 = .ok (.getfield 24, 3) := by decide +kernel
theorem dS_lacksOne_7 : decode bS_lacksOne 7 = .ok (.if_icmp .ge 58, 3) := by decide +kernel
theorem dS_lacksOne_10 : decode bS_lacksOne 10 = .ok (.iconst 0, 1) := by decide +kernel
theorem dS_lacksOne_11 : decode bS_lacksOne 11 = .ok (.istore_n 2, 1) := by decide +kernel
theorem dS_lacksOne_12 : decode bS_lacksOne 12 = .ok (.iload_n 2, 1) := by decide +kernel
theorem dS_lacksOne_13 : decode bS_lacksOne 13 = .ok (.aload_n 0, 1) := by decide +kernel
theorem dS_lacksOne_14 : decode bS_lacksOne 14 = .ok (.getfield 15, 3) := by decide +kernel
theorem dS_lacksOne_17 : decode bS_lacksOne 17 = .ok (.iload_n 1, 1) := by decide +kernel
theorem dS_lacksOne_18 : decode bS_lacksOne 18 = .ok (.iaload, 1) := by decide +kernel
theorem dS_lacksOne_19 : decode bS_lacksOne 19 = .ok (.if_icmp .ge 40, 3) := by decide +kernel
theorem dS_lacksOne_22 : decode bS_lacksOne 22 = .ok (.iload_n 1, 1) := by decide +kernel
theorem dS_lacksOne_23 : decode bS_lacksOne 23 = .ok (.bipush 48, 2) := by decide +kernel
theorem dS_lacksOne_25 : decode bS_lacksOne 25 = .ok (.imul, 1) := by decide +kernel
theorem dS_lacksOne_26 : decode bS_lacksOne 26 = .ok (.iload_n 2, 1) := by decide +kernel
theorem dS_lacksOne_27 : decode bS_lacksOne 27 = .ok (.iadd, 1) := by decide +kernel
theorem dS_lacksOne_28 : decode bS_lacksOne 28 = .ok (.istore_n 3, 1) := by decide +kernel
theorem dS_lacksOne_29 : decode bS_lacksOne 29 = .ok (.aload_n 0, 1) := by decide +kernel
theorem dS_lacksOne_30 : decode bS_lacksOne 30 = .ok (.getfield 18, 3) := by decide +kernel
theorem dS_lacksOne_33 : decode bS_lacksOne 33 = .ok (.iload_n 3, 1) := by decide +kernel
theorem dS_lacksOne_34 : decode bS_lacksOne 34 = .ok (.iaload, 1) := by decide +kernel
theorem dS_lacksOne_35 : decode bS_lacksOne 35 = .ok (.ifCond .eq 18, 3) := by decide +kernel
theorem dS_lacksOne_38 : decode bS_lacksOne 38 = .ok (.aload_n 0, 1) := by decide +kernel
theorem dS_lacksOne_39 : decode bS_lacksOne 39 = .ok (.getfield 21, 3) := by decide +kernel
theorem dS_lacksOne_42 : decode bS_lacksOne 42 = .ok (.iload_n 3, 1) := by decide +kernel
theorem dS_lacksOne_43 : decode bS_lacksOne 43 = .ok (.iaload, 1) := by decide +kernel
theorem dS_lacksOne_44 : decode bS_lacksOne 44 = .ok (.aload_n 0, 1) := by decide +kernel
theorem dS_lacksOne_45 : decode bS_lacksOne 45 = .ok (.getfield 24, 3) := by decide +kernel
theorem dS_lacksOne_48 : decode bS_lacksOne 48 = .ok (.if_icmp .lt 5, 3) := by decide +kernel
theorem dS_lacksOne_51 : decode bS_lacksOne 51 = .ok (.iconst 1, 1) := by decide +kernel
theorem dS_lacksOne_52 : decode bS_lacksOne 52 = .ok (.ireturn, 1) := by decide +kernel
theorem dS_lacksOne_53 : decode bS_lacksOne 53 = .ok (.iinc 2 1, 3) := by decide +kernel
theorem dS_lacksOne_56 : decode bS_lacksOne 56 = .ok (.goto (-44), 3) := by decide +kernel
theorem dS_lacksOne_59 : decode bS_lacksOne 59 = .ok (.iinc 1 1, 3) := by decide +kernel
theorem dS_lacksOne_62 : decode bS_lacksOne 62 = .ok (.goto (-60), 3) := by decide +kernel
theorem dS_lacksOne_65 : decode bS_lacksOne 65 = .ok (.iconst 0, 1) := by decide +kernel
theorem dS_lacksOne_66 : decode bS_lacksOne 66 = .ok (.ireturn, 1) := by decide +kernel
theorem dS_total_0 : decode bS_total 0 = .ok (.iconst 0, 1) := by decide +kernel
theorem dS_total_1 : decode bS_total 1 = .ok (.istore_n 1, 1) := by decide +kernel
theorem dS_total_2 : decode bS_total 2 = .ok (.iconst 0, 1) := by decide +kernel
theorem dS_total_3 : decode bS_total 3 = .ok (.istore_n 2, 1) := by decide +kernel
theorem dS_total_4 : decode bS_total 4 = .ok (.iload_n 2, 1) := by decide +kernel
theorem dS_total_5 : decode bS_total 5 = .ok (.aload_n 0, 1) := by decide +kernel
theorem dS_total_6 : decode bS_total 6 = .ok (.getfield 24, 3) := by decide +kernel
theorem dS_total_9 : decode bS_total 9 = .ok (.if_icmp .ge 18, 3) := by decide +kernel
theorem dS_total_12 : decode bS_total 12 = .ok (.iload_n 1, 1) := by decide +kernel
theorem dS_total_13 : decode bS_total 13 = .ok (.aload_n 0, 1) := by decide +kernel
theorem dS_total_14 : decode bS_total 14 = .ok (.getfield 15, 3) := by decide +kernel
theorem dS_total_17 : decode bS_total 17 = .ok (.iload_n 2, 1) := by decide +kernel
theorem dS_total_18 : decode bS_total 18 = .ok (.iaload, 1) := by decide +kernel
theorem dS_total_19 : decode bS_total 19 = .ok (.iadd, 1) := by decide +kernel
theorem dS_total_20 : decode bS_total 20 = .ok (.istore_n 1, 1) := by decide +kernel
theorem dS_total_21 : decode bS_total 21 = .ok (.iinc 2 1, 3) := by decide +kernel
theorem dS_total_24 : decode bS_total 24 = .ok (.goto (-20), 3) := by decide +kernel
theorem dS_total_27 : decode bS_total 27 = .ok (.iload_n 1, 1) := by decide +kernel
theorem dS_total_28 : decode bS_total 28 = .ok (.ireturn, 1) := by decide +kernel
theorem dL_section_0 : decode bL_section 0 = .ok (.aload_n 2, 1) := by decide +kernel
theorem dL_section_1 : decode bL_section 1 = .ok (.iconst 0, 1) := by decide +kernel
theorem dL_section_2 : decode bL_section 2 = .ok (.aload_n 0, 1) := by decide +kernel
theorem dL_section_3 : decode bL_section 3 = .ok (.iload_n 1, 1) := by decide +kernel
theorem dL_section_4 : decode bL_section 4 = .ok (.invokevirtual 7, 3) := by decide +kernel
theorem dL_section_7 : decode bL_section 7 = .ok (.i2l, 1) := by decide +kernel
theorem dL_section_8 : decode bL_section 8 = .ok (.lastore, 1) := by decide +kernel
theorem dL_section_9 : decode bL_section 9 = .ok (.goto 9, 3) := by decide +kernel
theorem dL_section_12 : decode bL_section 12 = .ok (.astore_n 3, 1) := by decide +kernel
theorem dL_section_13 : decode bL_section 13 = .ok (.iconst 1, 1) := by decide +kernel
theorem dL_section_14 : decode bL_section 14 = .ok (.ireturn, 1) := by decide +kernel
theorem dL_section_15 : decode bL_section 15 = .ok (.astore_n 3, 1) := by decide +kernel
theorem dL_section_16 : decode bL_section 16 = .ok (.iconst 2, 1) := by decide +kernel
theorem dL_section_17 : decode bL_section 17 = .ok (.ireturn, 1) := by decide +kernel
theorem dL_section_18 : decode bL_section 18 = .ok (.iconst 0, 1) := by decide +kernel
theorem dL_section_19 : decode bL_section 19 = .ok (.ireturn, 1) := by decide +kernel
theorem dL_bytes_0 : decode bL_bytes 0 = .ok (.aload_n 0, 1) := by decide +kernel
theorem dL_bytes_1 : decode bL_bytes 1 = .ok (.iload_n 1, 1) := by decide +kernel
theorem dL_bytes_2 : decode bL_bytes 2 = .ok (.iload_n 2, 1) := by decide +kernel
theorem dL_bytes_3 : decode bL_bytes 3 = .ok (.invokevirtual 17, 3) := by decide +kernel
theorem dL_bytes_6 : decode bL_bytes 6 = .ok (.goto 9, 3) := by decide +kernel
theorem dL_bytes_9 : decode bL_bytes 9 = .ok (.astore_n 3, 1) := by decide +kernel
theorem dL_bytes_10 : decode bL_bytes 10 = .ok (.iconst 1, 1) := by decide +kernel
theorem dL_bytes_11 : decode bL_bytes 11 = .ok (.ireturn, 1) := by decide +kernel
theorem dL_bytes_12 : decode bL_bytes 12 = .ok (.astore_n 3, 1) := by decide +kernel
theorem dL_bytes_13 : decode bL_bytes 13 = .ok (.iconst 2, 1) := by decide +kernel
theorem dL_bytes_14 : decode bL_bytes 14 = .ok (.ireturn, 1) := by decide +kernel
theorem dL_bytes_15 : decode bL_bytes 15 = .ok (.iconst 0, 1) := by decide +kernel
theorem dL_bytes_16 : decode bL_bytes 16 = .ok (.ireturn, 1) := by decide +kernel
theorem dL_mended_0 : decode bL_mended 0 = .ok (.aload_n 0, 1) := by decide +kernel
theorem dL_mended_1 : decode bL_mended 1 = .ok (.iload_n 1, 1) := by decide +kernel
theorem dL_mended_2 : decode bL_mended 2 = .ok (.iload_n 2, 1) := by decide +kernel
theorem dL_mended_3 : decode bL_mended 3 = .ok (.invokevirtual 21, 3) := by decide +kernel
theorem dL_mended_6 : decode bL_mended 6 = .ok (.goto 9, 3) := by decide +kernel
theorem dL_mended_9 : decode bL_mended 9 = .ok (.astore_n 3, 1) := by decide +kernel
theorem dL_mended_10 : decode bL_mended 10 = .ok (.iconst 1, 1) := by decide +kernel
theorem dL_mended_11 : decode bL_mended 11 = .ok (.ireturn, 1) := by decide +kernel
theorem dL_mended_12 : decode bL_mended 12 = .ok (.astore_n 3, 1) := by decide +kernel
theorem dL_mended_13 : decode bL_mended 13 = .ok (.iconst 2, 1) := by decide +kernel
theorem dL_mended_14 : decode bL_mended 14 = .ok (.ireturn, 1) := by decide +kernel
theorem dL_mended_15 : decode bL_mended 15 = .ok (.iconst 0, 1) := by decide +kernel
theorem dL_mended_16 : decode bL_mended 16 = .ok (.ireturn, 1) := by decide +kernel
theorem dL_link_0 : decode bL_link 0 = .ok (.aload_n 2, 1) := by decide +kernel
theorem dL_link_1 : decode bL_link 1 = .ok (.iconst 0, 1) := by decide +kernel
theorem dL_link_2 : decode bL_link 2 = .ok (.aload_n 0, 1) := by decide +kernel
theorem dL_link_3 : decode bL_link 3 = .ok (.iload_n 1, 1) := by decide +kernel
theorem dL_link_4 : decode bL_link 4 = .ok (.invokevirtual 24, 3) := by decide +kernel
theorem dL_link_7 : decode bL_link 7 = .ok (.i2l, 1) := by decide +kernel
theorem dL_link_8 : decode bL_link 8 = .ok (.lastore, 1) := by decide +kernel
theorem dL_link_9 : decode bL_link 9 = .ok (.goto 12, 3) := by decide +kernel
theorem dL_link_12 : decode bL_link 12 = .ok (.astore_n 3, 1) := by decide +kernel
theorem dL_link_13 : decode bL_link 13 = .ok (.iconst 1, 1) := by decide +kernel
theorem dL_link_14 : decode bL_link 14 = .ok (.ireturn, 1) := by decide +kernel
theorem dL_link_15 : decode bL_link 15 = .ok (.astore_n 3, 1) := by decide +kernel
theorem dL_link_16 : decode bL_link 16 = .ok (.iconst 2, 1) := by decide +kernel
theorem dL_link_17 : decode bL_link 17 = .ok (.ireturn, 1) := by decide +kernel
theorem dL_link_18 : decode bL_link 18 = .ok (.astore_n 3, 1) := by decide +kernel
theorem dL_link_19 : decode bL_link 19 = .ok (.iconst 3, 1) := by decide +kernel
theorem dL_link_20 : decode bL_link 20 = .ok (.ireturn, 1) := by decide +kernel
theorem dL_link_21 : decode bL_link 21 = .ok (.iconst 0, 1) := by decide +kernel
theorem dL_link_22 : decode bL_link 22 = .ok (.ireturn, 1) := by decide +kernel
theorem dL_packed_0 : decode bL_packed 0 = .ok (.aload_n 3, 1) := by decide +kernel
theorem dL_packed_1 : decode bL_packed 1 = .ok (.iconst 0, 1) := by decide +kernel
theorem dL_packed_2 : decode bL_packed 2 = .ok (.aload_n 0, 1) := by decide +kernel
theorem dL_packed_3 : decode bL_packed 3 = .ok (.iload_n 1, 1) := by decide +kernel
theorem dL_packed_4 : decode bL_packed 4 = .ok (.iload_n 2, 1) := by decide +kernel
theorem dL_packed_5 : decode bL_packed 5 = .ok (.invokevirtual 29, 3) := by decide +kernel
theorem dL_packed_8 : decode bL_packed 8 = .ok (.i2l, 1) := by decide +kernel
theorem dL_packed_9 : decode bL_packed 9 = .ok (.lastore, 1) := by decide +kernel
theorem dL_packed_10 : decode bL_packed 10 = .ok (.goto 7, 3) := by decide +kernel
theorem dL_packed_13 : decode bL_packed 13 = .ok (.astore 4, 2) := by decide +kernel
theorem dL_packed_15 : decode bL_packed 15 = .ok (.iconst 1, 1) := by decide +kernel
theorem dL_packed_16 : decode bL_packed 16 = .ok (.ireturn, 1) := by decide +kernel
theorem dL_packed_17 : decode bL_packed 17 = .ok (.iconst 0, 1) := by decide +kernel
theorem dL_packed_18 : decode bL_packed 18 = .ok (.ireturn, 1) := by decide +kernel
theorem dL_image_0 : decode bL_image 0 = .ok (.aload_n 2, 1) := by decide +kernel
theorem dL_image_1 : decode bL_image 1 = .ok (.iconst 0, 1) := by decide +kernel
theorem dL_image_2 : decode bL_image 2 = .ok (.aload_n 0, 1) := by decide +kernel
theorem dL_image_3 : decode bL_image 3 = .ok (.iload_n 1, 1) := by decide +kernel
theorem dL_image_4 : decode bL_image 4 = .ok (.invokevirtual 33, 3) := by decide +kernel
theorem dL_image_7 : decode bL_image 7 = .ok (.i2l, 1) := by decide +kernel
theorem dL_image_8 : decode bL_image 8 = .ok (.lastore, 1) := by decide +kernel
theorem dL_image_9 : decode bL_image 9 = .ok (.goto 6, 3) := by decide +kernel
theorem dL_image_12 : decode bL_image 12 = .ok (.astore_n 3, 1) := by decide +kernel
theorem dL_image_13 : decode bL_image 13 = .ok (.iconst 1, 1) := by decide +kernel
theorem dL_image_14 : decode bL_image 14 = .ok (.ireturn, 1) := by decide +kernel
theorem dL_image_15 : decode bL_image 15 = .ok (.iconst 0, 1) := by decide +kernel
theorem dL_image_16 : decode bL_image 16 = .ok (.ireturn, 1) := by decide +kernel
theorem dL_spoil_0 : decode bL_spoil 0 = .ok (.aload_n 0, 1) := by decide +kernel
theorem dL_spoil_1 : decode bL_spoil 1 = .ok (.iload_n 1, 1) := by decide +kernel
theorem dL_spoil_2 : decode bL_spoil 2 = .ok (.iload_n 2, 1) := by decide +kernel
theorem dL_spoil_3 : decode bL_spoil 3 = .ok (.invokevirtual 36, 3) := by decide +kernel
theorem dL_spoil_6 : decode bL_spoil 6 = .ok (.goto 6, 3) := by decide +kernel
theorem dL_spoil_9 : decode bL_spoil 9 = .ok (.astore_n 3, 1) := by decide +kernel
theorem dL_spoil_10 : decode bL_spoil 10 = .ok (.iconst 1, 1) := by decide +kernel
theorem dL_spoil_11 : decode bL_spoil 11 = .ok (.ireturn, 1) := by decide +kernel
theorem dL_spoil_12 : decode bL_spoil 12 = .ok (.iconst 0, 1) := by decide +kernel
theorem dL_spoil_13 : decode bL_spoil 13 = .ok (.ireturn, 1) := by decide +kernel
theorem dL_valid_0 : decode bL_valid 0 = .ok (.aload_n 1, 1) := by decide +kernel
theorem dL_valid_1 : decode bL_valid 1 = .ok (.iconst 0, 1) := by decide +kernel
theorem dL_valid_2 : decode bL_valid 2 = .ok (.aload_n 0, 1) := by decide +kernel
theorem dL_valid_3 : decode bL_valid 3 = .ok (.invokevirtual 39, 3) := by decide +kernel
theorem dL_valid_6 : decode bL_valid 6 = .ok (.i2l, 1) := by decide +kernel
theorem dL_valid_7 : decode bL_valid 7 = .ok (.lastore, 1) := by decide +kernel
theorem dL_valid_8 : decode bL_valid 8 = .ok (.goto 6, 3) := by decide +kernel
theorem dL_valid_11 : decode bL_valid 11 = .ok (.astore_n 2, 1) := by decide +kernel
theorem dL_valid_12 : decode bL_valid 12 = .ok (.iconst 1, 1) := by decide +kernel
theorem dL_valid_13 : decode bL_valid 13 = .ok (.ireturn, 1) := by decide +kernel
theorem dL_valid_14 : decode bL_valid 14 = .ok (.iconst 0, 1) := by decide +kernel
theorem dL_valid_15 : decode bL_valid 15 = .ok (.ireturn, 1) := by decide +kernel
theorem dL_raise_0 : decode bL_raise 0 = .ok (.aload_n 0, 1) := by decide +kernel
theorem dL_raise_1 : decode bL_raise 1 = .ok (.iload_n 1, 1) := by decide +kernel
theorem dL_raise_2 : decode bL_raise 2 = .ok (.invokevirtual 43, 3) := by decide +kernel
theorem dL_raise_5 : decode bL_raise 5 = .ok (.goto 6, 3) := by decide +kernel
theorem dL_raise_8 : decode bL_raise 8 = .ok (.astore_n 2, 1) := by decide +kernel
theorem dL_raise_9 : decode bL_raise 9 = .ok (.iconst 1, 1) := by decide +kernel
theorem dL_raise_10 : decode bL_raise 10 = .ok (.ireturn, 1) := by decide +kernel
theorem dL_raise_11 : decode bL_raise 11 = .ok (.iconst 0, 1) := by decide +kernel
theorem dL_raise_12 : decode bL_raise 12 = .ok (.ireturn, 1) := by decide +kernel
theorem dL_run_0 : decode bL_run 0 = .ok (.aload_n 2, 1) := by decide +kernel
theorem dL_run_1 : decode bL_run 1 = .ok (.iconst 0, 1) := by decide +kernel
theorem dL_run_2 : decode bL_run 2 = .ok (.aload_n 0, 1) := by decide +kernel
theorem dL_run_3 : decode bL_run 3 = .ok (.iload_n 1, 1) := by decide +kernel
theorem dL_run_4 : decode bL_run 4 = .ok (.invokevirtual 47, 3) := by decide +kernel
theorem dL_run_7 : decode bL_run 7 = .ok (.i2l, 1) := by decide +kernel
theorem dL_run_8 : decode bL_run 8 = .ok (.lastore, 1) := by decide +kernel
theorem dL_run_9 : decode bL_run 9 = .ok (.goto 6, 3) := by decide +kernel
theorem dL_run_12 : decode bL_run 12 = .ok (.astore_n 3, 1) := by decide +kernel
theorem dL_run_13 : decode bL_run 13 = .ok (.iconst 1, 1) := by decide +kernel
theorem dL_run_14 : decode bL_run 14 = .ok (.ireturn, 1) := by decide +kernel
theorem dL_run_15 : decode bL_run 15 = .ok (.iconst 0, 1) := by decide +kernel
theorem dL_run_16 : decode bL_run 16 = .ok (.ireturn, 1) := by decide +kernel
theorem dL_register_0 : decode bL_register 0 = .ok (.aload_n 2, 1) := by decide +kernel
theorem dL_register_1 : decode bL_register 1 = .ok (.iconst 0, 1) := by decide +kernel
theorem dL_register_2 : decode bL_register 2 = .ok (.aload_n 0, 1) := by decide +kernel
theorem dL_register_3 : decode bL_register 3 = .ok (.iload_n 1, 1) := by decide +kernel
theorem dL_register_4 : decode bL_register 4 = .ok (.invokevirtual 50, 3) := by decide +kernel
theorem dL_register_7 : decode bL_register 7 = .ok (.i2l, 1) := by decide +kernel
theorem dL_register_8 : decode bL_register 8 = .ok (.lastore, 1) := by decide +kernel
theorem dL_register_9 : decode bL_register 9 = .ok (.goto 6, 3) := by decide +kernel
theorem dL_register_12 : decode bL_register 12 = .ok (.astore_n 3, 1) := by decide +kernel
theorem dL_register_13 : decode bL_register 13 = .ok (.iconst 1, 1) := by decide +kernel
theorem dL_register_14 : decode bL_register 14 = .ok (.ireturn, 1) := by decide +kernel
theorem dL_register_15 : decode bL_register 15 = .ok (.iconst 0, 1) := by decide +kernel
theorem dL_register_16 : decode bL_register 16 = .ok (.ireturn, 1) := by decide +kernel
theorem dL_peek_0 : decode bL_peek 0 = .ok (.aload_n 2, 1) := by decide +kernel
theorem dL_peek_1 : decode bL_peek 1 = .ok (.iconst 0, 1) := by decide +kernel
theorem dL_peek_2 : decode bL_peek 2 = .ok (.aload_n 0, 1) := by decide +kernel
theorem dL_peek_3 : decode bL_peek 3 = .ok (.iload_n 1, 1) := by decide +kernel
theorem dL_peek_4 : decode bL_peek 4 = .ok (.invokevirtual 53, 3) := by decide +kernel
theorem dL_peek_7 : decode bL_peek 7 = .ok (.i2l, 1) := by decide +kernel
theorem dL_peek_8 : decode bL_peek 8 = .ok (.lastore, 1) := by decide +kernel
theorem dL_peek_9 : decode bL_peek 9 = .ok (.goto 6, 3) := by decide +kernel
theorem dL_peek_12 : decode bL_peek 12 = .ok (.astore_n 3, 1) := by decide +kernel
theorem dL_peek_13 : decode bL_peek 13 = .ok (.iconst 1, 1) := by decide +kernel
theorem dL_peek_14 : decode bL_peek 14 = .ok (.ireturn, 1) := by decide +kernel
theorem dL_peek_15 : decode bL_peek 15 = .ok (.iconst 0, 1) := by decide +kernel
theorem dL_peek_16 : decode bL_peek 16 = .ok (.ireturn, 1) := by decide +kernel
theorem dL_byteSent_0 : decode bL_byteSent 0 = .ok (.aload_n 2, 1) := by decide +kernel
theorem dL_byteSent_1 : decode bL_byteSent 1 = .ok (.iconst 0, 1) := by decide +kernel
theorem dL_byteSent_2 : decode bL_byteSent 2 = .ok (.aload_n 0, 1) := by decide +kernel
theorem dL_byteSent_3 : decode bL_byteSent 3 = .ok (.iload_n 1, 1) := by decide +kernel
theorem dL_byteSent_4 : decode bL_byteSent 4 = .ok (.invokevirtual 56, 3) := by decide +kernel
theorem dL_byteSent_7 : decode bL_byteSent 7 = .ok (.i2l, 1) := by decide +kernel
theorem dL_byteSent_8 : decode bL_byteSent 8 = .ok (.lastore, 1) := by decide +kernel
theorem dL_byteSent_9 : decode bL_byteSent 9 = .ok (.goto 6, 3) := by decide +kernel
theorem dL_byteSent_12 : decode bL_byteSent 12 = .ok (.astore_n 3, 1) := by decide +kernel
theorem dL_byteSent_13 : decode bL_byteSent 13 = .ok (.iconst 1, 1) := by decide +kernel
theorem dL_byteSent_14 : decode bL_byteSent 14 = .ok (.ireturn, 1) := by decide +kernel
theorem dL_byteSent_15 : decode bL_byteSent 15 = .ok (.iconst 0, 1) := by decide +kernel
theorem dL_byteSent_16 : decode bL_byteSent 16 = .ok (.ireturn, 1) := by decide +kernel
end
section
/-! ===== BEGIN words of one list among another's, by their places ===== -/
theorem goodIn_r {big : List Cond} (ws : List Cond) (ps : List Nat) (hp : ws = ps.filterMap (fun i => big[i]?)) (h : ws.all goodWord = true) : GoodIn big ws := by
  intro w hw
  have h1 := List.all_eq_true.mp h w hw
  rw [hp] at hw
  obtain ⟨i, -, hi⟩ := List.mem_filterMap.mp hw
  have hm : w ∈ big := by first | exact List.mem_of_getElem? hi | exact List.getElem?_mem hi
  exact ⟨hm, good_of_word h1⟩
theorem goodIn_app {big a b : List Cond} (ha : GoodIn big a) (hb : GoodIn big b) : GoodIn big (a ++ b) := fun w h => (List.mem_append.mp h).elim (ha w) (hb w)
theorem goodIn_ca {big a b : List Cond} {c : Cond} (ha : GoodIn big (c :: a)) (hb : GoodIn big b) : GoodIn big (c :: (a ++ b)) := fun w h => (List.mem_cons.mp h).elim (fun e => ha w (List.mem_cons.mpr (Or.inl e))) (fun h => (List.mem_append.mp h).elim (fun h => ha w (List.mem_cons.mpr (Or.inr h))) (hb w))
theorem goodIn_sub {big ws : List Cond} (hm : ∀ w ∈ ws, w ∈ big) (h : ws.all goodWord = true) : GoodIn big ws := fun w hw => ⟨hm w hw, good_of_word (List.all_eq_true.mp h w hw)⟩
/-! ===== END ===== -/

/-! ===== BEGIN exceptions that leave a method, and their catching by the caller (launches without stack traces) ===== -/
section VXA
/-! The laws vx_back, vx_callV, vx_callS, vx_callSW, vx_throw0, vx_throwS follow proofs of the library, with one case more: JvmDerived/Free/Laws.lean (Back.of_free), Shelf42/LK1.lean (callV, callS), Shelf/KitTraced.lean (throwNew0V, throwNewS). -/
/-- where a method has thrown q: the class by its name, the cell, what was written, the world -/
def vx_T (XC : String → State → State → Prop) (st : State) (q : Addr) (t : State) (mc ms : Nat) (free : Addr → Prop) : Prop :=
  ∃ (E : String) (ce : Cell) (L : List Loc), XC E st t ∧ t.heap[q]? = some ce ∧ ce.vm = .none ∧ st.vm.findClass E = some ce.cls ∧ st.WarmedH t.vm ∧ st.sameButNew ({ t with vm := st.vm } : State) L mc ms ∧ ∀ z ∈ L, free z.base
def vx_Q (Qc : Array Value → State → Outcome → State → Prop) (XC : String → State → State → Prop) (mc ms : Nat) (free : Addr → Prop) : Array Value → State → Outcome → State → Prop := fun a st o t =>
  (Qc a st o t ∧ ∃ L, FrameEnd st o t L mc ms ∧ ∀ q ∈ L, free q.base) ∨ ∃ q, o = .threw q ∧ vx_T XC st q t mc ms free
/-- a callee that returns or throws -/
def vx_Met (l : Launch) (y : MethodName) (ws : List Cond) (rm : Room) (Pc : Array Value → State → Prop) (Qc : Array Value → State → Outcome → State → Prop) (XC : String → State → State → Prop) (mc ms : Nat) (free : Addr → Prop) : Prop :=
  MetFree l y (headSpec ws rm) Pc (fun _ _ _ _ _ => True) (vx_Q Qc XC mc ms free)
def vx_Post (XC : String → State → State → Prop) (mc ms : Nat) (free : Addr → Prop) : Pt → Array Value → Addr → Pt → Prop := fun A a q B =>
  ∃ (g : JFrame) (mk : MethodId) (t : State) (L : List Loc) (E : String) (ce : Cell), B.U.heap = t.heap ∧ B.U.vm = t.vm ∧ XC E (A.U.calling g mk a) t ∧ t.heap[q]? = some ce ∧ ce.vm = .none ∧ A.U.vm.findClass E = some ce.cls ∧ B.locs = A.locs ++ L ∧ (∀ z ∈ L, free z.base) ∧ B.cells = A.cells + mc ∧ B.slots = A.slots + ms
def vx_Back (l : Launch) (R : Room) (p : Program) (e : Env) (below : List Frame) (s : State) (sargs : Array Value) (y : MethodName) (len W9 : Nat)
    (Pre : Pt → Array Value → Prop) (Post : Pt → Array Value → Option Value → Pt → Prop) (PostX : Pt → Array Value → Addr → Pt → Prop) : Prop :=
  ∀ (m : MethodId) (meth : Method) (c : Code) (A : Pt) (g : JFrame) (ig : Instr) (mk : MethodId) (a : Array Value),
    Stand p l e R s m sargs below meth c A.U A.locs A.cells A.slots → g.method = m → g.locals.size = c.maxLocals → decode c.code g.pc = .ok (ig, len) →
    2 * g.monitorRoom + (g.stack.map fun v => v.category).sum ≤ W9 → A.U.methodNamed? y = some mk → Pre A a →
    (∃ (v : Option Value) (B : Pt), Stand p l e R s m sargs below meth c B.U B.locs B.cells B.slots ∧ Post A a v B ∧
      Steps p.tables e below (doInvoke e (A.U.setTop g) [] mk a).1 (B.U.setTop { g with pc := g.pc + len, stack := v.toList ++ g.stack })) ∨
    (∃ (q : Addr) (B : Pt), Stand p l e R s m sargs below meth c B.U B.locs B.cells B.slots ∧ PostX A a q B ∧
      Steps p.tables e below (doInvoke e (A.U.setTop g) [] mk a).1 ((B.U.setTop g).pushFrame (.throwing q)))
section Payer
variable {l : Launch} {R : Room} {p : Program} {e : Env} {below : List Frame} {s : State} {sargs : Array Value} {y : MethodName} {len W9 : Nat}
theorem vx_back {ws : List Cond} {rm : Room} {Pc : Array Value → State → Prop} {Qc : Array Value → State → Outcome → State → Prop} {XC : String → State → State → Prop} {mc ms : Nat} {free : Addr → Prop} {bytes : ByteArray} {maxL : Nat} {ret : Option FieldType}
    (hM : vx_Met l y ws rm Pc Qc XC mc ms free) (hblind : FrameBlind Pc) (hrc : rm.cells = mc) (hrs : rm.slots = ms)
    (hframes : rm.frames + 1 ≤ R.frames) (hlocals : W9 + (maxL + 11) + rm.locals ≤ R.locals)
    (hws : ∀ w ∈ ws, ∀ a' U, s.WarmedH U.vm → w.before a' U = true) (hcode : Cond.code y bytes maxL ret ∈ ws) (hinit : ∀ a' U, s.WarmedH U.vm → (Cond.initialized y.cls).before a' U = true) :
    vx_Back l R p e below s sargs y len W9 (PreOf R mc ms Pc) (PostOf Qc mc ms free) (vx_Post XC mc ms free) := by
  intro m meth c A g ig mk a X hg hsize hdg hW hn hp
  have h1 : (headSpec ws rm).pre.before a A.U = true := atoms_intro fun w hw => hws w hw _ _ X.warmed
  have h2 : (Cond.code y bytes maxL ret).before a A.U = true := hws _ hcode _ _ X.warmed
  have h3 : (Cond.initialized y.cls).before a A.U = true := hinit _ _ X.warmed
  have h4 : A.cells + (headSpec ws rm).room.cells ≤ R.cells := by rw [show (headSpec ws rm).room.cells = mc from hrc]; exact hp.1
  have h5 : A.slots + (headSpec ws rm).room.slots ≤ R.slots := by rw [show (headSpec ws rm).room.slots = ms from hrs]; exact hp.2.1
  have hPc : Pc a (A.U.calling g mk a) := hblind _ _ _ _ hp.2.2
  obtain ⟨U, Ls, c0, s0⟩ := A
  dsimp only [Pt.U, Pt.locs, Pt.cells, Pt.slots] at h1 h2 h3 h4 h5 X hn hPc ⊢
  obtain ⟨methY, cY, hmY, hcY, -, hlY, -, -, -, -⟩ := Cond.code_spec hn h2
  obtain ⟨kY, hkY, -⟩ := className_of_methodNamed hn
  have hinitY : kY.init = .initialized := Cond.initialized_spec (findClass_of_methodNamed hn) hkY h3
  have h : At U g.method c below := by rw [hg]; exact X.here
  have hlocals9 : W9 + (maxL + 11) + (headSpec ws rm).room.locals ≤ R.locals := hlocals
  have happ : (headSpec ws rm).appliesLoose y e.platform (U.calling g mk a) = true :=
    Spec.appliesLoose_calling (g := g) h hdg hn hkY hinitY
      (X.room_calling (g := g) (R' := (headSpec ws rm).room) hsize hmY hcY hframes (by rw [hlY]; omega) h4 h5) h1
  obtain ⟨mid, hmid⟩ := h.above
  have hfr : (U.setTop g).frames = (.java g :: mid) ++ below := by rw [State.frames_setTop' g h.top, hmid]; rfl
  obtain ⟨o, s₂, hsteps, -, hend, hq⟩ := Steps.callFree hM p X.admits X.cas X.clock (acts := []) hfr happ hPc trivial
  have hq' : vx_Q Qc XC mc ms free a (U.calling g mk a) o s₂ := hq
  rw [State.frames_setTop' g h.top] at hend
  obtain ⟨g₀, hg0⟩ := Option.isSome_iff_exists.mp h.top
  obtain ⟨r, hr⟩ := State.topJava?_eq_some.mp hg0
  have hr' : (({ U with heap := s₂.heap, slotsUsed := s₂.slotsUsed } : State).setVm s₂.vm).frames = .java g₀ :: r := hr
  rcases hq' with ⟨hqc, L, hfe, hL⟩ | ⟨q, rfl, E, ce, L, hx, hce, hcv, hcl, hW₂, hsm, hL⟩
  · obtain ⟨⟨v, rfl⟩, hW₂, e2, q2, q3, q4, q5, q6⟩ := id hfe
    have e3 : s₂ = ({ (U.calling g mk a).setFrames s₂.frames with heap := s₂.heap, slotsUsed := s₂.slotsUsed } : State).setVm s₂.vm := by
      have : s₂ = ({ s₂ with vm := (U.calling g mk a).vm } : State).setVm s₂.vm := rfl
      rw [e2] at this
      exact this
    obtain ⟨c₂, i₂, len₂, hc₂, hd₂, hf₂⟩ := hend
    have hW' : U.WarmedH s₂.vm := hW₂
    have hcc : c₂ = c := by
      have h1 : s₂.code? g.method = U.code? g.method := by
        rw [State.code?_eq, State.code?_eq, hW'.alike.method?]
      exact Option.some.inj (hc₂.symm.trans (h1.trans h.code))
    subst hcc
    have hlen : len₂ = len := by rw [hdg] at hd₂; cases hd₂; rfl
    subst hlen
    have hs₂ : s₂ = (({ U with heap := s₂.heap, slotsUsed := s₂.slotsUsed } : State).setVm s₂.vm).setTop { g with pc := g.pc + len₂, stack := v.toList ++ g.stack } := by
      refine e3.trans ?_
      rw [hf₂, State.calling_eq h.top, State.setFrames_setFrames, State.setTop_of_frames _ hr', hr]
      rfl
    have hsame : U.sameButNew ({ U with heap := s₂.heap, slotsUsed := s₂.slotsUsed } : State) L mc ms := by
      refine ⟨?_, q2, q3, q4, q5, q6⟩
      obtain ⟨t, ht, -⟩ := State.frames_cons hr
      show ({ U with heap := s₂.heap, slotsUsed := s₂.slotsUsed } : State) = { U.setFrames U.frames with heap := s₂.heap, slotsUsed := s₂.slotsUsed }
      rw [State.setFrames_self ht]
    subst hg
    refine Or.inl ⟨v, ⟨(({ U with heap := s₂.heap, slotsUsed := s₂.slotsUsed } : State).setVm s₂.vm), Ls ++ L, c0 + mc, s0 + ms⟩,
      ⟨X.admits, X.cas, X.clock, X.frames, X.room, X.hears, X.method, X.code, (X.here.setHeapUsed s₂.heap s₂.slotsUsed).setVm hW'.alike, X.tail, State.WarmedH.trans X.warmed hW', X.limits, X.bytes, X.same.trans (hsame.setVm s.vm)⟩,
      ⟨g, mk, s₂, L, rfl, rfl, hqc, rfl, hL, rfl, rfl⟩, ?_⟩
    show Steps p.tables e below _ ((({ U with heap := s₂.heap, slotsUsed := s₂.slotsUsed } : State).setVm s₂.vm).setTop { g with pc := g.pc + len₂, stack := v.toList ++ g.stack })
    rw [← hs₂]
    exact hsteps
  · obtain ⟨e2, q2, q3, q4, q5, q6⟩ := id hsm
    have e3 : s₂ = ({ (U.calling g mk a).setFrames s₂.frames with heap := s₂.heap, slotsUsed := s₂.slotsUsed } : State).setVm s₂.vm := by
      have : s₂ = ({ s₂ with vm := (U.calling g mk a).vm } : State).setVm s₂.vm := rfl
      rw [e2] at this
      exact this
    have hf₂ : s₂.frames = .throwing q :: .java g :: U.frames.tail := hend
    have hW' : U.WarmedH s₂.vm := hW₂
    have hs₂ : s₂ = ((({ U with heap := s₂.heap, slotsUsed := s₂.slotsUsed } : State).setVm s₂.vm).setTop g).pushFrame (.throwing q) := by
      refine e3.trans ?_
      rw [hf₂, State.calling_eq h.top, State.setFrames_setFrames, State.pushFrame, State.frames_setTop _ hr', State.setTop_of_frames _ hr', State.setFrames_setFrames, hr]
      rfl
    have hsame : U.sameButNew ({ U with heap := s₂.heap, slotsUsed := s₂.slotsUsed } : State) L mc ms := by
      refine ⟨?_, q2, q3, q4, q5, q6⟩
      obtain ⟨t, ht, -⟩ := State.frames_cons hr
      show ({ U with heap := s₂.heap, slotsUsed := s₂.slotsUsed } : State) = { U.setFrames U.frames with heap := s₂.heap, slotsUsed := s₂.slotsUsed }
      rw [State.setFrames_self ht]
    subst hg
    refine Or.inr ⟨q, ⟨(({ U with heap := s₂.heap, slotsUsed := s₂.slotsUsed } : State).setVm s₂.vm), Ls ++ L, c0 + mc, s0 + ms⟩,
      ⟨X.admits, X.cas, X.clock, X.frames, X.room, X.hears, X.method, X.code, (X.here.setHeapUsed s₂.heap s₂.slotsUsed).setVm hW'.alike, X.tail, State.WarmedH.trans X.warmed hW', X.limits, X.bytes, X.same.trans (hsame.setVm s.vm)⟩,
      ⟨g, mk, s₂, L, E, ce, rfl, rfl, hx, hce, hcv, hcl, rfl, hL, rfl, rfl⟩, ?_⟩
    show Steps p.tables e below _ (((({ U with heap := s₂.heap, slotsUsed := s₂.slotsUsed } : State).setVm s₂.vm).setTop g).pushFrame (.throwing q))
    rw [← hs₂]
    exact hsteps
end Payer
section Calls
variable {p : Program} {l : Launch} {e : Env} {R : Room} {s : State} {m : MethodId} {args : Array Value} {below : List Frame} {meth : Method} {c : Code} {T : State} {locs : List Loc} {cells slots : Nat}
theorem vx_callV (X : Stand p l e R s m args below meth c T locs cells slots) (hexec : p.tables.exec = Jvm.exec) {own C : String} {index : Nat} {y : MethodName} {bytes : ByteArray} {maxL : Nat} {ret : Option FieldType}
    (hown : s.vm.findClass own = some m.cls) (hlink : (Cond.methodLink own index y).before args s = true) (hinst : (Cond.instanceMethod y).before args s = true) (hsel : (Cond.selects C y y).before args s = true)
    (hcode : (Cond.code y bytes maxL ret).before args s = true) (hy : y.cls ≠ "java/lang/invoke/MethodHandle" ∧ y.cls ≠ "java/lang/invoke/VarHandle")
    {W9 : Nat} {Pre : Pt → Array Value → Prop} {Post : Pt → Array Value → Option Value → Pt → Prop} {PostX : Pt → Array Value → Addr → Pt → Prop} (hK : vx_Back l R p e below s args y 3 W9 Pre Post PostX)
    {b : Addr} {cellB : Cell} (hcell : T.heap[b]? = some cellB) (hobj : cellB.vm.isStatics = false) (hcls : s.vm.findClass C = some cellB.cls)
    {g : JFrame} (hg : g.method = m) (hsize : g.locals.size = c.maxLocals) {argsL rest : List Value} (hlen : ∀ sig, parseMethodDescriptor y.desc = some sig → argsL.length = sig.parameters.length)
    (hstack : g.stack = argsL.reverse ++ .ref b :: rest) (hW : 2 * g.monitorRoom + (rest.map fun v => v.category).sum ≤ W9) (hdg : decode c.code g.pc = .ok (.invokevirtual index, 3))
    (hpre : ∀ vm₁, s.WarmedH vm₁ → Pre ⟨T.setVm vm₁, locs, cells, slots⟩ (Value.ref b :: argsL).toArray) :
    (∃ (v : Option Value) (vm₁ : Vm) (B : Pt), s.WarmedH vm₁ ∧ Stand p l e R s m args below meth c B.U B.locs B.cells B.slots ∧ Post ⟨T.setVm vm₁, locs, cells, slots⟩ (Value.ref b :: argsL).toArray v B ∧
      ∀ target, Steps p.tables e below (B.U.setTop { g with pc := g.pc + 3, stack := v.toList ++ rest }) target → Steps p.tables e below (T.setTop g) target) ∨
    (∃ (q : Addr) (vm₁ : Vm) (B : Pt), s.WarmedH vm₁ ∧ Stand p l e R s m args below meth c B.U B.locs B.cells B.slots ∧ PostX ⟨T.setVm vm₁, locs, cells, slots⟩ (Value.ref b :: argsL).toArray q B ∧
      Steps p.tables e below (T.setTop g) ((B.U.setTop { g with stack := rest }).pushFrame (.throwing q))) := by
  obtain ⟨mk, methM, hnamed, hmethM, hstM, habM⟩ := Cond.instanceMethod_spec hinst
  obtain ⟨methM', cM, hmethM', -, -, -, -, -, -, hsigM⟩ := Cond.code_spec hnamed hcode
  cases hmethM.symm.trans hmethM'
  obtain ⟨c2, r2, m2, q1, q2, q3, q4, kP, hkP, hkPi⟩ := Cond.selects_spec hsel
  cases hcls.symm.trans q1
  cases (State.methodFound?_of_named hnamed hy).symm.trans q2
  cases hnamed.symm.trans q3
  have hselP : selectMethod e.platform s.vm cellB.cls mk = .method mk := by rw [Launch.admits_selectMethod X.admits]; exact q4
  obtain ⟨vm₁, X₁, hstep₁⟩ := X.invokevirtual hexec hown hlink hnamed hmethM hstM hkP hkPi hy (a := b) (cell := cellB) hcell
    (fun z h => by rw [h] at hobj; cases hobj) hselP hmethM habM hkP hkPi (g := g) hg (argsL := argsL) (rest := rest) (hlen _ hsigM) hstack hdg
  rcases hK m meth c ⟨T.setVm vm₁, locs, cells, slots⟩ { g with stack := rest } (.invokevirtual index) mk (Value.ref b :: argsL).toArray X₁ hg hsize hdg hW (X₁.named hnamed) (hpre vm₁ X₁.warmed) with ⟨v, B, X', hpost, hsteps⟩ | ⟨q, B, X', hpost, hsteps⟩
  · exact Or.inl ⟨v, vm₁, B, X₁.warmed, X', hpost, fun target h => hstep₁ _ fun acts => by rw [doInvoke_state]; exact hsteps.trans h⟩
  · exact Or.inr ⟨q, vm₁, B, X₁.warmed, X', hpost, hstep₁ _ fun acts => by rw [doInvoke_state]; exact hsteps⟩
theorem vx_callS (X : Stand p l e R s m args below meth c T locs cells slots) (hexec : p.tables.exec = Jvm.exec) {own : String} {index : Nat} {y : MethodName} {bytes : ByteArray} {maxL : Nat} {ret : Option FieldType}
    (hown : s.vm.findClass own = some m.cls) (hlink : (Cond.methodLink own index y).before args s = true) (hstat : (Cond.static y).before args s = true) (hinit : (Cond.initialized y.cls).before args s = true)
    (hcode : (Cond.code y bytes maxL ret).before args s = true) (hy : y.cls ≠ "java/lang/invoke/MethodHandle" ∧ y.cls ≠ "java/lang/invoke/VarHandle")
    {W9 : Nat} {Pre : Pt → Array Value → Prop} {Post : Pt → Array Value → Option Value → Pt → Prop} {PostX : Pt → Array Value → Addr → Pt → Prop} (hK : vx_Back l R p e below s args y 3 W9 Pre Post PostX)
    {g : JFrame} (hg : g.method = m) (hsize : g.locals.size = c.maxLocals) {argsL rest : List Value} (hlen : ∀ sig, parseMethodDescriptor y.desc = some sig → argsL.length = sig.parameters.length)
    (hstack : g.stack = argsL.reverse ++ rest) (hW : 2 * g.monitorRoom + (rest.map fun v => v.category).sum ≤ W9) (hdg : decode c.code g.pc = .ok (.invokestatic index, 3))
    (hpre : ∀ vm₁, s.WarmedH vm₁ → Pre ⟨T.setVm vm₁, locs, cells, slots⟩ argsL.toArray) :
    (∃ (v : Option Value) (vm₁ : Vm) (B : Pt), s.WarmedH vm₁ ∧ Stand p l e R s m args below meth c B.U B.locs B.cells B.slots ∧ Post ⟨T.setVm vm₁, locs, cells, slots⟩ argsL.toArray v B ∧
      ∀ target, Steps p.tables e below (B.U.setTop { g with pc := g.pc + 3, stack := v.toList ++ rest }) target → Steps p.tables e below (T.setTop g) target) ∨
    (∃ (q : Addr) (vm₁ : Vm) (B : Pt), s.WarmedH vm₁ ∧ Stand p l e R s m args below meth c B.U B.locs B.cells B.slots ∧ PostX ⟨T.setVm vm₁, locs, cells, slots⟩ argsL.toArray q B ∧
      Steps p.tables e below (T.setTop g) ((B.U.setTop { g with stack := rest }).pushFrame (.throwing q))) := by
  obtain ⟨mk, hnamed⟩ := Cond.code_named hcode
  obtain ⟨methM, cM, hmethM, -, -, -, -, -, -, hsigM⟩ := Cond.code_spec hnamed hcode
  have hstatic : methM.isStatic = true := Cond.static_spec hnamed hmethM hstat
  obtain ⟨kP, hkP, -⟩ := className_of_methodNamed hnamed
  have hinitP : kP.init = .initialized := Cond.initialized_spec (findClass_of_methodNamed hnamed) hkP hinit
  obtain ⟨vm₁, X₁, hstep₁⟩ := X.invokestatic hexec hown hlink hnamed hmethM hstatic hkP hinitP hy (g := g) hg (argsL := argsL) (rest := rest) (hlen _ hsigM) hstack hdg
  rcases hK m meth c ⟨T.setVm vm₁, locs, cells, slots⟩ { g with stack := rest } (.invokestatic index) mk argsL.toArray X₁ hg hsize hdg hW (X₁.named hnamed) (hpre vm₁ X₁.warmed) with ⟨v, B, X', hpost, hsteps⟩ | ⟨q, B, X', hpost, hsteps⟩
  · exact Or.inl ⟨v, vm₁, B, X₁.warmed, X', hpost, fun target h => hstep₁ _ fun acts => by rw [doInvoke_state]; exact hsteps.trans h⟩
  · exact Or.inr ⟨q, vm₁, B, X₁.warmed, X', hpost, hstep₁ _ fun acts => by rw [doInvoke_state]; exact hsteps⟩
end Calls
theorem vx_cls {s : State} {T : State} {vm₁ : Vm} {E : String} {k : ClassId} (hW : s.WarmedH vm₁) (h : (T.setVm vm₁).vm.findClass E = some k) : s.vm.findClass E = some k := by
  have h1 : vm₁.findClass E = some k := h
  rw [hW.alike.findClass] at h1
  exact h1
/-- the method's frame g, with q thrown over it -/
def vx_W (p : Program) (l : Launch) (e : Env) (R : Room) (s : State) (m : MethodId) (args : Array Value) (below : List Frame) (meth : Method) (c : Code) (H : Heap) (locs : List Loc) (cells slots : Nat) (Q : State → Prop) (g : JFrame) (q : Addr) : Prop :=
  ∀ T : State, T.heap = H → Stand p l e R s m args below meth c T locs cells slots → ∃ t, Steps p.tables e below ((T.setTop g).pushFrame (.throwing q)) t ∧ Q t
def vx_Run (p : Program) (l : Launch) (e : Env) (R : Room) (s : State) (m : MethodId) (args : Array Value) (below : List Frame) (meth : Method) (c : Code) (H : Heap) (locs : List Loc) (cells slots mc ms : Nat) (g : JFrame) (rest : List Value) (Qa : State → Outcome → State → Prop) (XC : String → State → State → Prop) (free : Addr → Prop) : Prop :=
  ∀ T : State, T.heap = H → Stand p l e R s m args below meth c T locs cells slots →
    (∃ (v : Option Value) (st₀ t T' : State) (L : List Loc), st₀.heap = H ∧ Stand p l e R s m args below meth c T' (locs ++ L) (cells + mc) (slots + ms) ∧ (∀ q ∈ L, free q.base) ∧ T'.heap = t.heap ∧ T'.vm = t.vm ∧ Qa st₀ (.returned v) t ∧
      Goes p e below T g T' { g with pc := g.pc + 3, stack := v.toList ++ rest }) ∨
    (∃ (q : Addr) (st₀ t T' : State) (L : List Loc) (E : String) (ce : Cell), st₀.heap = H ∧ Stand p l e R s m args below meth c T' (locs ++ L) (cells + mc) (slots + ms) ∧ (∀ z ∈ L, free z.base) ∧ T'.heap = t.heap ∧ T'.vm = t.vm ∧ XC E st₀ t ∧ t.heap[q]? = some ce ∧ ce.vm = .none ∧ s.vm.findClass E = some ce.cls ∧
      Steps p.tables e below (T.setTop g) ((T'.setTop { g with stack := rest }).pushFrame (.throwing q)))
def vx_X {S : Type} (px : S → Prop) (B : String → S → State → Prop) (A : Nat → Prop) : String → State → State → Prop := fun E st t => ∃ u : S, px u ∧ B E u t ∧ va_F A st t
section Runs
variable {p : Program} {l : Launch} {e : Env} {R : Room} {s : State} {m : MethodId} {args : Array Value} {below : List Frame} {meth : Method} {c : Code} {H : Heap} {locs : List Loc} {cells slots : Nat}
variable {y : MethodName} {bytes cc : ByteArray} {maxL nL mc ms n index : Nat} {ret : Option FieldType} {ws : List Cond} {rm : Room} {Pc : Array Value → State → Prop} {Qc : Array Value → State → Outcome → State → Prop} {XC : String → State → State → Prop} {free : Addr → Prop} {Ts : List Cond} {own C : String} {b : Addr} {As rest : List Value} {g : JFrame}
theorem vx_callBack (cb : CallB R s args own index y bytes maxL ret ws rm mc ms n) (hM : vx_Met l y ws rm Pc Qc XC mc ms free) (hbl : FrameBlind Pc) : vx_Back l R p e below s args y 3 8 (PreOf R mc ms Pc) (PostOf Qc mc ms free) (vx_Post XC mc ms free) := by
  obtain ⟨hrc, hrs, hfr, hlo, hws, hcw, -, hini, -⟩ := cb
  exact vx_back (bytes := bytes) (maxL := maxL) (ret := ret) hM hbl hrc hrs hfr hlo hws hcw (fun a' U hW => word_at hW (Or.inl (by first | rfl | simp [Cond.onTables, Cond.keeps, Cond.steady])) hini)
theorem vx_runV (S : CallFix p m c cc nL s args Ts own) (hM : vx_Met l y ws rm Pc Qc XC mc ms free) (cw : CallW R s args own C index y bytes maxL ret ws rm mc ms n) (hp : PreV s H C b Pc As)
    (hg : g.method = m) (hn : As.length = n) (hsize : g.locals.size = nL) (hstack : g.stack = As.reverse ++ .ref b :: rest) (hW : 2 * g.monitorRoom + (rest.map fun v => v.category).sum ≤ 8) (hdg : decode cc g.pc = .ok (.invokevirtual index, 3)) (hf : cells + mc ≤ R.cells ∧ slots + ms ≤ R.slots) :
    vx_Run p l e R s m args below meth c H locs cells slots mc ms g rest (Qc (Value.ref b :: As).toArray) XC free := by
  have hK : vx_Back l R p e below s args y 3 8 (PreOf R mc ms Pc) (PostOf Qc mc ms free) (vx_Post XC mc ms free) := vx_callBack cw.1 hM hp.1
  obtain ⟨⟨-, -, -, -, -, -, hcode, -, hy, hlen, hl⟩, hin, hse⟩ := cw
  obtain ⟨hx, hb, hml, ho, -⟩ := S
  obtain ⟨-, ⟨cellB, hcB, hoB, hclB⟩, hPc⟩ := hp
  intro T hT X
  rcases vx_callV X hx (C := C) (bytes := bytes) (maxL := maxL) (ret := ret) ho hl hin hse hcode hy hK (by rw [hT]; exact hcB) hoB hclB hg (hsize.trans hml.symm) (argsL := As) (rest := rest) (fun sig h => hn.trans (hlen sig h)) hstack hW (by rw [hb]; exact hdg)
    (fun vm₁ hW₁ => ⟨hf.1, hf.2, hPc (T.setVm vm₁) hT hW₁⟩) with ⟨v, vm₁, ⟨U', l2, c2, s2⟩, hW₁, X', ⟨g', mk, t, L, e1, e2, hq, h1, hL, h2, h3⟩, st⟩ | ⟨q, vm₁, ⟨U', l2, c2, s2⟩, hW₁, X', ⟨g', mk, t, L, E, ce, e1, e2, hq, hce, hcv, hcl, h1, hL, h2, h3⟩, st⟩
  · dsimp only [Pt.U, Pt.locs, Pt.cells, Pt.slots] at X' e1 e2 h1 h2 h3 st
    subst h1; subst h2; subst h3
    exact Or.inl ⟨v, (T.setVm vm₁).calling g' mk (Value.ref b :: As).toArray, t, U', L, hT, X', hL, e1, e2, hq, st⟩
  · dsimp only [Pt.U, Pt.locs, Pt.cells, Pt.slots] at X' e1 e2 h1 h2 h3 st hcl
    subst h1; subst h2; subst h3
    exact Or.inr ⟨q, (T.setVm vm₁).calling g' mk (Value.ref b :: As).toArray, t, U', L, E, ce, hT, X', hL, e1, e2, hq, hce, hcv, vx_cls hW₁ hcl, st⟩
theorem vx_runS (S : CallFix p m c cc nL s args Ts own) (hM : vx_Met l y ws rm Pc Qc XC mc ms free) (cw : CallB R s args own index y bytes maxL ret ws rm mc ms n ∧ (Cond.static y).before args s = true) (hp : PreS s H Pc As)
    (hg : g.method = m) (hn : As.length = n) (hsize : g.locals.size = nL) (hstack : g.stack = As.reverse ++ rest) (hW : 2 * g.monitorRoom + (rest.map fun v => v.category).sum ≤ 8) (hdg : decode cc g.pc = .ok (.invokestatic index, 3)) (hf : cells + mc ≤ R.cells ∧ slots + ms ≤ R.slots) :
    vx_Run p l e R s m args below meth c H locs cells slots mc ms g rest (Qc As.toArray) XC free := by
  have hK : vx_Back l R p e below s args y 3 8 (PreOf R mc ms Pc) (PostOf Qc mc ms free) (vx_Post XC mc ms free) := vx_callBack cw.1 hM hp.1
  obtain ⟨⟨-, -, -, -, -, -, hcode, hini, hy, hlen, hl⟩, hstt⟩ := cw
  obtain ⟨hx, hb, hml, ho, -⟩ := S
  intro T hT X
  rcases vx_callS X hx (bytes := bytes) (maxL := maxL) (ret := ret) ho hl hstt hini hcode hy hK hg (hsize.trans hml.symm) (argsL := As) (rest := rest) (fun sig h => hn.trans (hlen sig h)) hstack hW (by rw [hb]; exact hdg)
    (fun vm₁ hW₁ => ⟨hf.1, hf.2, hp.2 (T.setVm vm₁) hT hW₁⟩) with ⟨v, vm₁, ⟨U', l2, c2, s2⟩, hW₁, X', ⟨g', mk, t, L, e1, e2, hq, h1, hL, h2, h3⟩, st⟩ | ⟨q, vm₁, ⟨U', l2, c2, s2⟩, hW₁, X', ⟨g', mk, t, L, E, ce, e1, e2, hq, hce, hcv, hcl, h1, hL, h2, h3⟩, st⟩
  · dsimp only [Pt.U, Pt.locs, Pt.cells, Pt.slots] at X' e1 e2 h1 h2 h3 st
    subst h1; subst h2; subst h3
    exact Or.inl ⟨v, (T.setVm vm₁).calling g' mk As.toArray, t, U', L, hT, X', hL, e1, e2, hq, st⟩
  · dsimp only [Pt.U, Pt.locs, Pt.cells, Pt.slots] at X' e1 e2 h1 h2 h3 st hcl
    subst h1; subst h2; subst h3
    exact Or.inr ⟨q, (T.setVm vm₁).calling g' mk As.toArray, t, U', L, E, ce, hT, X', hL, e1, e2, hq, hce, hcv, vx_cls hW₁ hcl, st⟩
end Runs
section Rows
variable {p : Program} {l : Launch} {e : Env} {R : Room} {s : State} {m : MethodId} {args : Array Value} {below : List Frame} {meth : Method} {c : Code} {H : Heap} {locs : List Loc} {cells slots : Nat} {Q : State → Prop}
variable {mc ms : Nat} {free : Addr → Prop} {A0 A1 : Nat → Prop} {H0 : Heap} {a : Array Value} {pc : Nat} {ls : Array Slot} {st0 rest : List Value}
theorem vx_keep {st₀ t T' : State} {L : List Loc} (h0 : st₀.heap = H) (e1 : T'.heap = t.heap) (hS : va_S A0 H0 H locs) (hA : ∀ q, q < H.size → A1 q → A0 q) (hf : ∀ q, free q → A0 q) (hL : ∀ q ∈ L, free q.base) (hF : va_F A1 st₀ t) :
    H.size ≤ T'.heap.size ∧ (∀ q : Nat, q < H.size → ¬ A1 q → T'.heap[q]? = H[q]?) ∧ va_S A0 H0 T'.heap (locs ++ L) := by
  obtain ⟨hz, hk⟩ := hF
  rw [h0] at hz hk
  exact ⟨by rw [e1]; exact hz, fun q h1 h2 => by rw [e1]; exact hk q h1 h2,
    ⟨Nat.le_trans hS.1 (by rw [e1]; exact hz), fun q h1 h2 => by rw [e1, hk q (Nat.lt_of_lt_of_le h1 hS.1) (fun z => h2 (hA q (Nat.lt_of_lt_of_le h1 hS.1) z))]; exact hS.2.1 q h1 h2, fun q hq => by
      rcases List.mem_append.mp hq with h | h
      · exact hS.2.2 q h
      · exact hf _ (hL q h)⟩⟩
theorem vx_calli {S SX : Type} {post : Int32 → S → Prop} {px : SX → Prop} {B : S → State → Prop} {BX : String → SX → State → Prop} {AX : Nat → Prop} (hr : vx_Run p l e R s m args below meth c H locs cells slots mc ms (F0 m pc ls st0) rest (va_Qi post B A1 a) (vx_X px BX AX) free) (hS : va_S A0 H0 H locs) (hA : ∀ q, q < H.size → A1 q → A0 q) (hf : ∀ q, free q → A0 q) (hAX : ∀ q, q < H.size → AX q → A0 q)
    (kx : ∀ (E : String) (ce : Cell) (q9 : Addr) (u : SX) (t : State) (H1 : Heap) (locs1 : List Loc), t.heap = H1 → s.vm.Alike t.vm → px u → BX E u t → H.size ≤ H1.size → (∀ q : Nat, q < H.size → ¬ AX q → H1[q]? = H[q]?) → va_S A0 H0 H1 locs1 → H1[q9]? = some ce → ce.vm = .none → s.vm.findClass E = some ce.cls → vx_W p l e R s m args below meth c H1 locs1 (cells + mc) (slots + ms) Q (F0 m pc ls rest) q9)
    (kk : ∀ (r : Int32) (u : S) (t : State) (H1 : Heap) (locs1 : List Loc), t.heap = H1 → s.vm.Alike t.vm → post r u → B u t → H.size ≤ H1.size → (∀ q : Nat, q < H.size → ¬ A1 q → H1[q]? = H[q]?) → va_S A0 H0 H1 locs1 → W p l e R s m args below meth c H1 locs1 (cells + mc) (slots + ms) Q (F0 m (pc + 3) ls (.int r :: rest))) : W p l e R s m args below meth c H locs cells slots Q (F0 m pc ls st0) := by
  intro T hT X
  rcases hr T hT X with ⟨v, st₀, t, T', L, h0, X', hL, e1, e2, ⟨⟨r, u, hv, hp, hb⟩, hF⟩, st⟩ | ⟨q, st₀, t, T', L, E, ce, h0, X', hL, e1, e2, ⟨u, hp, hb, hF⟩, hce, hcv, hcl, st⟩
  · cases hv
    obtain ⟨k1, k2, k3⟩ := vx_keep h0 e1 hS hA hf hL hF
    obtain ⟨t2, a1, b1⟩ := kk r u t T'.heap (locs ++ L) e1.symm (by rw [← e2]; exact X'.warmed.alike) hp hb k1 k2 k3 T' rfl X'
    exact ⟨t2, st t2 a1, b1⟩
  · obtain ⟨k1, k2, k3⟩ := vx_keep h0 e1 hS hAX hf hL hF
    obtain ⟨t2, a1, b1⟩ := kx E ce q u t T'.heap (locs ++ L) e1.symm (by rw [← e2]; exact X'.warmed.alike) hp hb k1 k2 k3 (by rw [e1]; exact hce) hcv hcl T' rfl X'
    exact ⟨t2, st.trans a1, b1⟩
theorem vx_calll {S SX : Type} {post : Int64 → S → Prop} {px : SX → Prop} {B : S → State → Prop} {BX : String → SX → State → Prop} {AX : Nat → Prop} (hr : vx_Run p l e R s m args below meth c H locs cells slots mc ms (F0 m pc ls st0) rest (va_Ql post B A1 a) (vx_X px BX AX) free) (hS : va_S A0 H0 H locs) (hA : ∀ q, q < H.size → A1 q → A0 q) (hf : ∀ q, free q → A0 q) (hAX : ∀ q, q < H.size → AX q → A0 q)
    (kx : ∀ (E : String) (ce : Cell) (q9 : Addr) (u : SX) (t : State) (H1 : Heap) (locs1 : List Loc), t.heap = H1 → s.vm.Alike t.vm → px u → BX E u t → H.size ≤ H1.size → (∀ q : Nat, q < H.size → ¬ AX q → H1[q]? = H[q]?) → va_S A0 H0 H1 locs1 → H1[q9]? = some ce → ce.vm = .none → s.vm.findClass E = some ce.cls → vx_W p l e R s m args below meth c H1 locs1 (cells + mc) (slots + ms) Q (F0 m pc ls rest) q9)
    (kk : ∀ (r : Int64) (u : S) (t : State) (H1 : Heap) (locs1 : List Loc), t.heap = H1 → s.vm.Alike t.vm → post r u → B u t → H.size ≤ H1.size → (∀ q : Nat, q < H.size → ¬ A1 q → H1[q]? = H[q]?) → va_S A0 H0 H1 locs1 → W p l e R s m args below meth c H1 locs1 (cells + mc) (slots + ms) Q (F0 m (pc + 3) ls (.long r :: rest))) : W p l e R s m args below meth c H locs cells slots Q (F0 m pc ls st0) := by
  intro T hT X
  rcases hr T hT X with ⟨v, st₀, t, T', L, h0, X', hL, e1, e2, ⟨⟨r, u, hv, hp, hb⟩, hF⟩, st⟩ | ⟨q, st₀, t, T', L, E, ce, h0, X', hL, e1, e2, ⟨u, hp, hb, hF⟩, hce, hcv, hcl, st⟩
  · cases hv
    obtain ⟨k1, k2, k3⟩ := vx_keep h0 e1 hS hA hf hL hF
    obtain ⟨t2, a1, b1⟩ := kk r u t T'.heap (locs ++ L) e1.symm (by rw [← e2]; exact X'.warmed.alike) hp hb k1 k2 k3 T' rfl X'
    exact ⟨t2, st t2 a1, b1⟩
  · obtain ⟨k1, k2, k3⟩ := vx_keep h0 e1 hS hAX hf hL hF
    obtain ⟨t2, a1, b1⟩ := kx E ce q u t T'.heap (locs ++ L) e1.symm (by rw [← e2]; exact X'.warmed.alike) hp hb k1 k2 k3 (by rw [e1]; exact hce) hcv hcl T' rfl X'
    exact ⟨t2, st.trans a1, b1⟩
theorem vx_callf {S SX : Type} {post : UInt32 → S → Prop} {px : SX → Prop} {B : S → State → Prop} {BX : String → SX → State → Prop} {AX : Nat → Prop} (hr : vx_Run p l e R s m args below meth c H locs cells slots mc ms (F0 m pc ls st0) rest (va_Qf post B A1 a) (vx_X px BX AX) free) (hS : va_S A0 H0 H locs) (hA : ∀ q, q < H.size → A1 q → A0 q) (hf : ∀ q, free q → A0 q) (hAX : ∀ q, q < H.size → AX q → A0 q)
    (kx : ∀ (E : String) (ce : Cell) (q9 : Addr) (u : SX) (t : State) (H1 : Heap) (locs1 : List Loc), t.heap = H1 → s.vm.Alike t.vm → px u → BX E u t → H.size ≤ H1.size → (∀ q : Nat, q < H.size → ¬ AX q → H1[q]? = H[q]?) → va_S A0 H0 H1 locs1 → H1[q9]? = some ce → ce.vm = .none → s.vm.findClass E = some ce.cls → vx_W p l e R s m args below meth c H1 locs1 (cells + mc) (slots + ms) Q (F0 m pc ls rest) q9)
    (kk : ∀ (r : UInt32) (u : S) (t : State) (H1 : Heap) (locs1 : List Loc), t.heap = H1 → s.vm.Alike t.vm → post r u → B u t → H.size ≤ H1.size → (∀ q : Nat, q < H.size → ¬ A1 q → H1[q]? = H[q]?) → va_S A0 H0 H1 locs1 → W p l e R s m args below meth c H1 locs1 (cells + mc) (slots + ms) Q (F0 m (pc + 3) ls (.float r :: rest))) : W p l e R s m args below meth c H locs cells slots Q (F0 m pc ls st0) := by
  intro T hT X
  rcases hr T hT X with ⟨v, st₀, t, T', L, h0, X', hL, e1, e2, ⟨⟨r, u, hv, hp, hb⟩, hF⟩, st⟩ | ⟨q, st₀, t, T', L, E, ce, h0, X', hL, e1, e2, ⟨u, hp, hb, hF⟩, hce, hcv, hcl, st⟩
  · cases hv
    obtain ⟨k1, k2, k3⟩ := vx_keep h0 e1 hS hA hf hL hF
    obtain ⟨t2, a1, b1⟩ := kk r u t T'.heap (locs ++ L) e1.symm (by rw [← e2]; exact X'.warmed.alike) hp hb k1 k2 k3 T' rfl X'
    exact ⟨t2, st t2 a1, b1⟩
  · obtain ⟨k1, k2, k3⟩ := vx_keep h0 e1 hS hAX hf hL hF
    obtain ⟨t2, a1, b1⟩ := kx E ce q u t T'.heap (locs ++ L) e1.symm (by rw [← e2]; exact X'.warmed.alike) hp hb k1 k2 k3 (by rw [e1]; exact hce) hcv hcl T' rfl X'
    exact ⟨t2, st.trans a1, b1⟩
theorem vx_calld {S SX : Type} {post : UInt64 → S → Prop} {px : SX → Prop} {B : S → State → Prop} {BX : String → SX → State → Prop} {AX : Nat → Prop} (hr : vx_Run p l e R s m args below meth c H locs cells slots mc ms (F0 m pc ls st0) rest (va_Qd post B A1 a) (vx_X px BX AX) free) (hS : va_S A0 H0 H locs) (hA : ∀ q, q < H.size → A1 q → A0 q) (hf : ∀ q, free q → A0 q) (hAX : ∀ q, q < H.size → AX q → A0 q)
    (kx : ∀ (E : String) (ce : Cell) (q9 : Addr) (u : SX) (t : State) (H1 : Heap) (locs1 : List Loc), t.heap = H1 → s.vm.Alike t.vm → px u → BX E u t → H.size ≤ H1.size → (∀ q : Nat, q < H.size → ¬ AX q → H1[q]? = H[q]?) → va_S A0 H0 H1 locs1 → H1[q9]? = some ce → ce.vm = .none → s.vm.findClass E = some ce.cls → vx_W p l e R s m args below meth c H1 locs1 (cells + mc) (slots + ms) Q (F0 m pc ls rest) q9)
    (kk : ∀ (r : UInt64) (u : S) (t : State) (H1 : Heap) (locs1 : List Loc), t.heap = H1 → s.vm.Alike t.vm → post r u → B u t → H.size ≤ H1.size → (∀ q : Nat, q < H.size → ¬ A1 q → H1[q]? = H[q]?) → va_S A0 H0 H1 locs1 → W p l e R s m args below meth c H1 locs1 (cells + mc) (slots + ms) Q (F0 m (pc + 3) ls (.double r :: rest))) : W p l e R s m args below meth c H locs cells slots Q (F0 m pc ls st0) := by
  intro T hT X
  rcases hr T hT X with ⟨v, st₀, t, T', L, h0, X', hL, e1, e2, ⟨⟨r, u, hv, hp, hb⟩, hF⟩, st⟩ | ⟨q, st₀, t, T', L, E, ce, h0, X', hL, e1, e2, ⟨u, hp, hb, hF⟩, hce, hcv, hcl, st⟩
  · cases hv
    obtain ⟨k1, k2, k3⟩ := vx_keep h0 e1 hS hA hf hL hF
    obtain ⟨t2, a1, b1⟩ := kk r u t T'.heap (locs ++ L) e1.symm (by rw [← e2]; exact X'.warmed.alike) hp hb k1 k2 k3 T' rfl X'
    exact ⟨t2, st t2 a1, b1⟩
  · obtain ⟨k1, k2, k3⟩ := vx_keep h0 e1 hS hAX hf hL hF
    obtain ⟨t2, a1, b1⟩ := kx E ce q u t T'.heap (locs ++ L) e1.symm (by rw [← e2]; exact X'.warmed.alike) hp hb k1 k2 k3 (by rw [e1]; exact hce) hcv hcl T' rfl X'
    exact ⟨t2, st.trans a1, b1⟩
theorem vx_callv {S SX : Type} {post : S → Prop} {px : SX → Prop} {B : S → State → Prop} {BX : String → SX → State → Prop} {AX : Nat → Prop} (hr : vx_Run p l e R s m args below meth c H locs cells slots mc ms (F0 m pc ls st0) rest (va_Qv post B A1 a) (vx_X px BX AX) free) (hS : va_S A0 H0 H locs) (hA : ∀ q, q < H.size → A1 q → A0 q) (hf : ∀ q, free q → A0 q) (hAX : ∀ q, q < H.size → AX q → A0 q)
    (kx : ∀ (E : String) (ce : Cell) (q9 : Addr) (u : SX) (t : State) (H1 : Heap) (locs1 : List Loc), t.heap = H1 → s.vm.Alike t.vm → px u → BX E u t → H.size ≤ H1.size → (∀ q : Nat, q < H.size → ¬ AX q → H1[q]? = H[q]?) → va_S A0 H0 H1 locs1 → H1[q9]? = some ce → ce.vm = .none → s.vm.findClass E = some ce.cls → vx_W p l e R s m args below meth c H1 locs1 (cells + mc) (slots + ms) Q (F0 m pc ls rest) q9)
    (kk : ∀ (u : S) (t : State) (H1 : Heap) (locs1 : List Loc), t.heap = H1 → s.vm.Alike t.vm → post u → B u t → H.size ≤ H1.size → (∀ q : Nat, q < H.size → ¬ A1 q → H1[q]? = H[q]?) → va_S A0 H0 H1 locs1 → W p l e R s m args below meth c H1 locs1 (cells + mc) (slots + ms) Q (F0 m (pc + 3) ls (rest))) : W p l e R s m args below meth c H locs cells slots Q (F0 m pc ls st0) := by
  intro T hT X
  rcases hr T hT X with ⟨v, st₀, t, T', L, h0, X', hL, e1, e2, ⟨⟨u, hv, hp, hb⟩, hF⟩, st⟩ | ⟨q, st₀, t, T', L, E, ce, h0, X', hL, e1, e2, ⟨u, hp, hb, hF⟩, hce, hcv, hcl, st⟩
  · cases hv
    obtain ⟨k1, k2, k3⟩ := vx_keep h0 e1 hS hA hf hL hF
    obtain ⟨t2, a1, b1⟩ := kk u t T'.heap (locs ++ L) e1.symm (by rw [← e2]; exact X'.warmed.alike) hp hb k1 k2 k3 T' rfl X'
    exact ⟨t2, st t2 a1, b1⟩
  · obtain ⟨k1, k2, k3⟩ := vx_keep h0 e1 hS hAX hf hL hF
    obtain ⟨t2, a1, b1⟩ := kx E ce q u t T'.heap (locs ++ L) e1.symm (by rw [← e2]; exact X'.warmed.alike) hp hb k1 k2 k3 (by rw [e1]; exact hce) hcv hcl T' rfl X'
    exact ⟨t2, st.trans a1, b1⟩
/-- caught by the row x of this method's table; the rows ahead don't take it -/
theorem vx_catch {own name : String} {E : String} {ce : Cell} {q : Addr} (hown : s.vm.findClass own = some m.cls) (pre : List ExceptionTableEntry) (x : ExceptionTableEntry) (suf : List ExceptionTableEntry) (hsplit : c.exceptionTable.toList = pre ++ x :: suf)
    (hpass : ∀ z ∈ pre, covers z pc = false ∨ (z.catchType ≠ 0 ∧ ∃ nm : String, (Cond.classLink own z.catchType nm).before args s = true ∧ va_Nc E nm s)) (hx : covers x pc = true) (h0 : x.catchType ≠ 0)
    (hlink : (Cond.classLink own x.catchType name).before args s = true) (hcast : (Cond.castable E name).before args s = true) (hcell : H[q]? = some ce) (hv : ce.vm = .none) (hcl : s.vm.findClass E = some ce.cls)
    (kk : W p l e R s m args below meth c H locs cells slots Q (F0 m x.handlerPc ls [.ref q])) : vx_W p l e R s m args below meth c H locs cells slots Q (F0 m pc ls rest) q := by
  intro T hT X
  have hpl : e.platform.magicAccessors = ({} : Platform).magicAccessors := by rw [X.admits.platform]
  obtain ⟨c3, c4, hc3, hc4, hasg⟩ := Cond.castable_spec hcast
  cases Option.some.inj (hc3.symm.trans hcl)
  obtain ⟨c5, hc5, hcl5⟩ := Cond.classLink_spec hown hlink e.platform hpl
  cases Option.some.inj (hc4.symm.trans hc5)
  obtain ⟨vm', X', st⟩ := X.thenCaughtThrough q (g := F0 m pc ls rest) rfl (Steps.refl _) (by rw [hT]; exact hcell) (by rw [hv]; rfl) (by obtain ⟨k9, h9, -⟩ := Vm.findClass_spec hcl; exact ⟨k9, h9⟩) pre x suf hsplit
    (fun z hz => by
      rcases hpass z hz with h | ⟨hz0, nm, hl1, hn1⟩
      · exact Or.inl h
      · obtain ⟨c6, hc6, hcl6⟩ := Cond.classLink_spec hown hl1 e.platform hpl
        obtain ⟨a8, b8, h1, h2, h3⟩ := hn1
        cases Option.some.inj (h1.symm.trans hcl)
        cases Option.some.inj (h2.symm.trans hc6)
        exact Or.inr ⟨hz0, _, hcl6, h3⟩) hx (Or.inr ⟨h0, c4, hcl5, hasg⟩)
  obtain ⟨t, a1, b1⟩ := kk (T.setVm vm') hT X'
  exact ⟨t, st.trans a1, b1⟩
end Rows
section Ends
variable {p : Program} {l : Launch} {e : Env} {R : Room} {s : State} {m : MethodId} {args : Array Value} {below : List Frame} {meth : Method} {c : Code} {H : Heap} {locs : List Loc} {cells slots : Nat} {Q : State → Prop}
variable {mc ms : Nat} {free : Addr → Prop} {A0 A1 : Nat → Prop} {H0 : Heap} {a : Array Value} {ls : Array Slot} {st0 rest : List Value}
variable {Qc : Array Value → State → Outcome → State → Prop} {XC : String → State → State → Prop}
/-- what a body that may throw owes at its end -/
def vx_MQ (below : List Frame) (Qc : Array Value → State → Outcome → State → Prop) (XC : String → State → State → Prop) (a : Array Value) (s : State) (mc ms : Nat) (free : Addr → Prop) : State → Prop := fun t =>
  ∃ o, t.status = .running ∧ Ended t below o ∧ vx_Q Qc XC mc ms free a s o t
theorem vx_ret {g : JFrame} {mc ms : Nat} (k : W p l e R s m args below meth c H locs cells slots (MQ below Qc args s mc ms free) g) : W p l e R s m args below meth c H locs cells slots (vx_MQ below Qc XC args s mc ms free) g := by
  intro T hT X
  obtain ⟨t, a1, o, b1, b2, b3, b4⟩ := k T hT X
  exact ⟨t, a1, o, b1, b2, Or.inl ⟨b3, b4⟩⟩
/-- not caught here: it goes on to the caller -/
theorem vx_widen {g : JFrame} {q : Addr} {k n : Nat} (h1 : cells ≤ k) (h2 : slots ≤ n) (kk : vx_W p l e R s m args below meth c H locs k n Q g q) : vx_W p l e R s m args below meth c H locs cells slots Q g q := fun T hT X => kk T hT (stand_widen X h1 h2)
theorem vx_out {pc : Nat} {E : String} {ce : Cell} {q : Addr} {mc ms : Nat} (hout : ∀ x ∈ c.exceptionTable.toList, covers x pc = false) (hlocks : meth.locks = false) (hcell : H[q]? = some ce) (hv : ce.vm = .none) (hcl : s.vm.findClass E = some ce.cls)
    (hx : ∀ t : State, t.heap = H → s.vm.Alike t.vm → XC E s t) (hf : ∀ z ∈ locs, free z.base) (hc : cells ≤ mc) (hs : slots ≤ ms) :
    vx_W p l e R s m args below meth c H locs cells slots (vx_MQ below Qc XC args s mc ms free) (F0 m pc ls rest) q := by
  intro T hT X
  obtain ⟨st1, hrun, hend, hW, hsm⟩ := X.leaveThrown q (g := F0 m pc ls rest) rfl rfl rfl hout hlocks
  have hcell9 : (T.setFrames (.throwing q :: below)).heap[q]? = some ce := by
    show T.heap[q]? = some ce
    rw [hT]; exact hcell
  exact ⟨_, st1, .threw q, hrun, hend, Or.inr ⟨q, rfl, E, ce, locs, hx _ hT hW.alike, hcell9, hv, hcl, hW, hsm.mono hc hs, hf⟩⟩
theorem vx_frame {U : State} {k n : Nat} (h : s.sameButNew ({ U with vm := s.vm } : State) locs k n) : s.heap.size ≤ U.heap.size ∧ ∀ q : Nat, q < s.heap.size → (∀ z ∈ locs, z.base ≠ q) → U.heap[q]? = s.heap[q]? := by
  obtain ⟨-, h2, -, -, -, h6⟩ := h
  refine ⟨h2, fun q hq hz => ?_⟩
  obtain ⟨c9, e1, e2, e3, e4⟩ := h6 q _ (Array.getElem?_eq_getElem hq)
  have hs : c9.slots = (s.heap[q]).slots := Array.ext_getElem? fun i => e4 i fun hm => hz _ hm rfl
  have h9 : c9 = s.heap[q] := by
    rw [hs] at e2
    exact e2
  have e5 : U.heap[q]? = some c9 := e1
  rw [e5, h9, Array.getElem?_eq_getElem hq]
/-- the words of a throw but the four that speak of the heap -/
def vx_no (w : Cond) : Bool := decide (w ≠ .isRef (.static Bundle.tN "UNASSIGNED_STACK" Bundle.steD)) && decide (w ≠ .isRef (.static Bundle.tN "SUPPRESSED_SENTINEL" Bundle.listD)) && decide (w ≠ .laysStatic Bundle.tN "UNASSIGNED_STACK" Bundle.steD) && decide (w ≠ .laysStatic Bundle.tN "SUPPRESSED_SENTINEL" Bundle.listD)
def vx_at0 (own : String) (ic : Nat) (X : String) (names : List String) : List Cond := (Bundle.ownAtoms0 own ic X names).filter vx_no
def vx_atS (own : String) (ic : Nat) (X : String) (names : List String) : List Cond := (Bundle.ownAtoms own ic X names).filter vx_no
/-- a word that the tables alone decide, or a good one -/
def vx_ot (w : Cond) : Bool := w.onTables || goodWord w
theorem vx_ot_at {args a' : Array Value} {s U : State} {w : Cond} (hW : s.WarmedH U.vm) (hvm : s.vm = U.vm) (hg : vx_ot w = true) (h : w.before args s = true) : w.before a' U = true := by
  simp only [vx_ot, Bool.or_eq_true] at hg
  rcases hg with hg | hg
  · exact va_tabs hg hvm h
  · exact word_at hW (good_of_word hg) h
/-- a list's words: the good ones out of the method's own list, the others by premises of their own -/
theorem vx_hat {args : Array Value} {s : State} {L B : List Cond} (h1 : ∀ w ∈ L.filter goodWord, w.before args s = true) (h2 : ∀ w ∈ L.filter (fun w => !goodWord w), w ∈ B) (h3 : ∀ w ∈ B, w.before args s = true) : ∀ w ∈ L, w.before args s = true := by
  intro w hw
  by_cases g : goodWord w = true
  · exact h1 w (List.mem_filter.mpr ⟨hw, g⟩)
  · refine h3 w (h2 w (List.mem_filter.mpr ⟨hw, ?_⟩))
    show (!goodWord w) = true
    cases hgw : goodWord w
    · rfl
    · exact absurd hgw g
theorem vx_c {args : Array Value} {s : State} {w : Cond} {B : List Cond} (h : w.before args s = true) (t : ∀ w ∈ B, w.before args s = true) : ∀ w' ∈ w :: B, w'.before args s = true := fun w' h' => (List.mem_cons.mp h').elim (fun e => by rw [e]; exact h) (t w')
theorem vx_n {args : Array Value} {s : State} : ∀ w ∈ ([] : List Cond), w.before args s = true := fun _ h => nomatch h
theorem vx_own {args : Array Value} {s : State} {L : List Cond} (h1 : ∀ w ∈ L.filter vx_no, w.before args s = true)
    (hU : (Cond.isRef (.static Bundle.tN "UNASSIGNED_STACK" Bundle.steD)).before args s = true) (hN : (Cond.isRef (.static Bundle.tN "SUPPRESSED_SENTINEL" Bundle.listD)).before args s = true)
    (lU : (Cond.laysStatic Bundle.tN "UNASSIGNED_STACK" Bundle.steD).before args s = true) (lN : (Cond.laysStatic Bundle.tN "SUPPRESSED_SENTINEL" Bundle.listD).before args s = true) : ∀ w ∈ L, w.before args s = true := by
  intro w hw
  by_cases e1 : w = .isRef (.static Bundle.tN "UNASSIGNED_STACK" Bundle.steD)
  · rw [e1]; exact hU
  · by_cases e2 : w = .isRef (.static Bundle.tN "SUPPRESSED_SENTINEL" Bundle.listD)
    · rw [e2]; exact hN
    · by_cases e3 : w = .laysStatic Bundle.tN "UNASSIGNED_STACK" Bundle.steD
      · rw [e3]; exact lU
      · by_cases e4 : w = .laysStatic Bundle.tN "SUPPRESSED_SENTINEL" Bundle.listD
        · rw [e4]; exact lN
        · exact h1 w (List.mem_filter.mpr ⟨hw, by unfold vx_no; rw [decide_eq_true e1, decide_eq_true e2, decide_eq_true e3, decide_eq_true e4]; rfl⟩)
/-- where a static field lies, its class's statics cell in H -/
def vx_L (C n d : String) (A : Nat → Prop) (U : State) (H : Heap) : Prop := ∃ (c : ClassId) (k : Class) (i : Nat) (f : Field) (a : Nat) (cell : Cell), U.vm.findClass C = some c ∧ U.fieldFound? C n d = some (c, k, i, f) ∧ f.isStatic = true ∧ k.statics = some a ∧ H[a]? = some cell ∧ cell.vm.isStatics = true ∧ cell.cls = c ∧ f.slot < cell.slots.size ∧ k.staticTypes[f.slot]? = some f.type ∧ ¬ A a
theorem vx_L.moved {C n d : String} {A : Nat → Prop} {u U : State} {H : Heap} (hvm : u.vm.Alike U.vm) (h : vx_L C n d A u H) : vx_L C n d A U H := by
  obtain ⟨c, k, i, f, a, cell, h1, h2, h3, h4, h5, h6, h7, h8, h9, h10⟩ := h
  obtain ⟨k', hi', he⟩ := State.fieldFound?_setVm hvm h2
  exact ⟨c, k', i, f, a, cell, by rw [hvm.findClass]; exact h1, hi', h3, by rw [he]; exact h4, h5, h6, h7, h8, by rw [he]; exact h9, h10⟩
theorem vx_L.kept {C n d : String} {A : Nat → Prop} {U : State} {H H1 : Heap} (h : vx_L C n d A U H) (hq : ∀ a : Nat, a < H.size → ¬ A a → H1[a]? = H[a]?) : vx_L C n d A U H1 := by
  obtain ⟨c, k, i, f, a, cell, h1, h2, h3, h4, h5, h6, h7, h8, h9, h10⟩ := h
  exact ⟨c, k, i, f, a, cell, h1, h2, h3, h4, by rw [hq a (Array.getElem?_eq_some_iff.mp h5).1 h10]; exact h5, h6, h7, h8, h9, h10⟩
theorem vx_L.narrow {C n d : String} {A B : Nat → Prop} {U : State} {H : Heap} (h : vx_L C n d A U H) (hAB : ∀ q, B q → A q) : vx_L C n d B U H := by
  obtain ⟨c, k, i, f, a, cell, h1, h2, h3, h4, h5, h6, h7, h8, h9, h10⟩ := h
  exact ⟨c, k, i, f, a, cell, h1, h2, h3, h4, h5, h6, h7, h8, h9, fun z => h10 (hAB _ z)⟩
theorem vx_L.word {C n d : String} {A : Nat → Prop} {s : State} {args : Array Value} (h : vx_L C n d A s s.heap) : (Cond.laysStatic C n d).before args s = true := by
  obtain ⟨c, k, i, f, a, cell, h1, h2, h3, h4, h5, h6, h7, h8, h9, -⟩ := h
  show (Cond.laysStatic C n d).holds args s none s [] = true
  exact Cond.laysStatic_of h1 h2 h3 h4 h5 h6 h7 h8 h9
/-- .. and what it holds: null or some reference -/
def vx_Zq (C n d : String) (A : Nat → Prop) (U : State) (H : Heap) : Prop := va_Zq C n d A U H ∧ vx_L C n d A U H
theorem vx_Zq.moved {C n d : String} {A : Nat → Prop} {u U : State} {H : Heap} (hvm : u.vm.Alike U.vm) (h : vx_Zq C n d A u H) : vx_Zq C n d A U H := ⟨va_Zq.moved hvm h.1, vx_L.moved hvm h.2⟩
theorem vx_Zq.kept {C n d : String} {A : Nat → Prop} {U : State} {H H1 : Heap} (h : vx_Zq C n d A U H) (hq : ∀ a : Nat, a < H.size → ¬ A a → H1[a]? = H[a]?) : vx_Zq C n d A U H1 := ⟨va_Zq.kept h.1 hq, vx_L.kept h.2 hq⟩
theorem vx_Zq.narrow {C n d : String} {A B : Nat → Prop} {U : State} {H : Heap} (h : vx_Zq C n d A U H) (hAB : ∀ q, B q → A q) : vx_Zq C n d B U H := ⟨va_Zq.narrow h.1 hAB, vx_L.narrow h.2 hAB⟩
theorem vx_Zqof {args : Array Value} {s : State} {C n d : String} {A : Nat → Prop} (hl : (Cond.laysStatic C n d).before args s = true) (hini : (Cond.initialized C).before args s = true) (h : (Cond.isRef (.static C n d)).before args s = true) (hA : ∀ a : Nat, a < s.heap.size → ¬ A a) : vx_Zq C n d A s s.heap := by
  refine ⟨va_Zqof hl hini h hA, ?_⟩
  obtain ⟨c, k, i, f, a, cell, h1, h2, h3, h4, h5, h6, h7, h8, h9⟩ := Cond.laysStatic_spec hl
  exact ⟨c, k, i, f, a, cell, h1, h2, h3, h4, h5, h6, h7, h8, h9, hA a (Array.getElem?_eq_some_iff.mp h5).1⟩
theorem vx_isRef {C n d : String} {v : Value} {A : Nat → Prop} {s : State} {args : Array Value} (h : va_Z C n d v A s s.heap) (hv : v.isRef = true) : (Cond.isRef (.static C n d)).before args s = true := by
  obtain ⟨cf, kf, fi, f, a, cell, h1, h2, h3, h4, h5, h6, h7, -⟩ := h
  have he : (Term.static C n d).eval args s none [] s = some v := by
    simp [Term.eval, State.fieldNamed?, h1, h2, h4, h5, h6, h7]
  simp only [Cond.before, Cond.holds, Cond.value, he]
  cases v <;> simp_all [Value.isRef]
theorem vx_isRefq {C n d : String} {A : Nat → Prop} {s : State} {args : Array Value} (h : va_Zq C n d A s s.heap) : (Cond.isRef (.static C n d)).before args s = true := by
  rcases h with h | ⟨t, h⟩
  · exact vx_isRef h rfl
  · exact vx_isRef h rfl
/-- the same frame, seen from here: as if the method were called anew in this heap -/
theorem vx_rebase {T : State} (X : Stand p l e R s m args below meth c T locs cells slots) {R' : Room} (hf : R'.frames ≤ R.frames) (hl : R'.locals ≤ R.locals) (hc : cells + R'.cells ≤ R.cells) (hs : slots + R'.slots ≤ R.slots) :
    Stand p l e R' ((T.setVm s.vm).setFrames (.invoking m args :: below)) m args below meth c T [] 0 0 := by
  have htop : (T.setVm s.vm).topJava?.isSome := X.here.top
  have hF : ((T.setVm s.vm).setFrames (.invoking m args :: below)).frames = .invoking m args :: below := State.frames_setFrames _ (State.cur_lt_of_top htop)
  obtain ⟨g₀, hg0⟩ := Option.isSome_iff_exists.mp htop
  obtain ⟨r, hr⟩ := State.topJava?_eq_some.mp hg0
  have hl9 : e.platform.stackLimits (T.setVm s.vm).me = e.platform.stackLimits s.me := X.limits
  have hb9 : (T.setVm s.vm).me.stackBytes = s.me.stackBytes := X.bytes
  refine ⟨X.admits, X.cas, X.clock, hF, ?_, X.hears, X.method, X.code, X.here, X.tail, X.warmed, ?_, ?_, ?_⟩
  · have h := X.room
    have hU : ((T.setVm s.vm).setFrames (.invoking m args :: below)).localsInUse = s.localsInUse := by
      rw [State.localsInUse_invoking hF (meth := meth) (c := c) X.method X.code, State.localsInUse_invoking X.frames X.method X.code]
    simp only [State.hasRoom, Bool.and_eq_true, decide_eq_true_eq] at h ⊢
    obtain ⟨⟨⟨⟨h1, h2, h3, h4, h5, h6⟩, h7⟩, h8⟩, h9⟩ := h
    rw [X.frames, List.length_cons] at h2 h3
    have q1 := X.heapSize
    have q2 := X.used
    simp only [hF, hU, List.length_cons, State.stackLimits_setFrames, State.stackBytes_setFrames, hl9, hb9]
    refine ⟨⟨⟨⟨by omega, by omega, by omega, by omega, by omega, h6⟩, ?_⟩, ?_⟩, X.book⟩
    · show T.heap.size + R'.cells ≤ e.platform.maxCells
      omega
    · show T.slotsUsed + R'.slots ≤ e.platform.maxSlots
      omega
  · rw [State.stackLimits_setFrames]; rfl
  · rw [State.stackBytes_setFrames]; rfl
  · refine ⟨?_, Nat.le_refl _, Nat.le_refl _, ?_, ?_, fun a c9 h9 => ⟨c9, h9, rfl, rfl, fun _ _ => rfl⟩⟩
    · obtain ⟨t, ht, -⟩ := State.frames_cons hr
      show T.setVm s.vm = { ((T.setVm s.vm).setFrames (.invoking m args :: below)).setFrames (T.setVm s.vm).frames with heap := T.heap, slotsUsed := T.slotsUsed }
      rw [State.setFrames_setFrames, State.setFrames_self ht]
      rfl
    · show T.slotsUsed = T.slotsUsed + ((T.heap.toList.drop T.heap.size).map (·.slots.size)).sum
      rw [List.drop_eq_nil_of_le (Nat.le_of_eq Array.length_toList)]
      rfl
    · show ((T.heap.toList.drop T.heap.size).map (·.slots.size)).sum ≤ 0
      rw [List.drop_eq_nil_of_le (Nat.le_of_eq Array.length_toList)]
      exact Nat.le_refl _
/-- 'throw new E()': new; dup; invokespecial; athrow -/
theorem vx_throw0 {cc : ByteArray} {pc : Nat} (hexec : p.tables.exec = Jvm.exec) (hb : c.code = cc) (hl : l.stackTraces = false) {own cls : String} {names : List String} {ik ic mc ms : Nat} {A : Nat → Prop}
    (hown : s.vm.findClass own = some m.cls) (hcls : Bundle.fit cls = true) (hnames : ∀ n ∈ names, Bundle.fit n = true)
    (hk : (Cond.classLink own ik cls).before args s = true) (hini : (Cond.initialized cls).before args s = true) (hat : ∀ w ∈ vx_at0 own ic cls names, w.before args s = true)
    (hgood : ∀ w ∈ Cond.classLink own ik cls :: Cond.initialized cls :: vx_at0 own ic cls names, vx_ot w = true)
    (hU : vx_Zq Bundle.tN "UNASSIGNED_STACK" Bundle.steD A s s.heap) (hN : vx_Zq Bundle.tN "SUPPRESSED_SENTINEL" Bundle.listD A s s.heap) (hS : va_S A s.heap H locs) (hsize : ls.size = c.maxLocals)
    (d0 : decode cc pc = .ok (.new ik, 3)) (d3 : decode cc (pc + 3) = .ok (.dup, 1)) (d4 : decode cc (pc + 4) = .ok (.invokespecial ic, 3)) (d7 : decode cc (pc + 7) = .ok (.athrow, 1))
    (hout : ∀ x ∈ c.exceptionTable.toList, covers x (pc + 7) = false)
    (hRframes : names.length + 3 < R.frames) (hRlocals : (rest.map fun v => v.category).sum + (13 * (names.length + 1) + 42) ≤ R.locals) (hRcells : cells + 1 ≤ R.cells) (hRslots : slots + 6 ≤ R.slots) (hlocks : meth.locks = false)
    (hx : ∀ t : State, s.vm.Alike t.vm → H.size ≤ t.heap.size → (∀ q : Nat, q < H.size → t.heap[q]? = H[q]?) → XC cls s t)
    (hf : ∀ z ∈ locs, free z.base) (hc : cells + 1 ≤ mc) (hs : slots + 6 ≤ ms) :
    W p l e R s m args below meth c H locs cells slots (vx_MQ below Qc XC args s mc ms free) (F0 m pc ls rest) := by
  intro T hT X
  have htr : e.platform.stackTraces = false := (show e.platform.stackTraces = l.stackTraces by rw [X.admits.platform]).trans hl
  have Y := vx_rebase X (R' := { frames := R.frames, locals := R.locals, cells := 1, slots := 6 }) (Nat.le_refl _) (Nat.le_refl _) hRcells hRslots
  obtain ⟨s', hA⟩ : ∃ z, z = (T.setVm s.vm).setFrames (.invoking m args :: below) := ⟨_, rfl⟩
  rw [← hA] at Y
  have hvm : s'.vm = s.vm := by rw [hA]; rfl
  have hhp : s'.heap = H := by rw [hA]; exact hT
  have hW0 : s.WarmedH s'.vm := by rw [hvm]; exact State.WarmedH.refl s
  have hat' : ∀ w ∈ vx_at0 own ic cls names, w.before args s' = true := fun w hw => vx_ot_at hW0 hvm.symm (hgood w (List.mem_cons_of_mem _ (List.mem_cons_of_mem _ hw))) (hat w hw)
  have hk' : (Cond.classLink own ik cls).before args s' = true := vx_ot_at hW0 hvm.symm (hgood _ List.mem_cons_self) hk
  have hini' : (Cond.initialized cls).before args s' = true := vx_ot_at hW0 hvm.symm (hgood _ (List.mem_cons_of_mem _ List.mem_cons_self)) hini
  have hU' : vx_Zq Bundle.tN "UNASSIGNED_STACK" Bundle.steD A s' s'.heap := by rw [hhp]; exact vx_Zq.moved hW0.alike (hU.kept hS.2.1)
  have hN' : vx_Zq Bundle.tN "SUPPRESSED_SENTINEL" Bundle.listD A s' s'.heap := by rw [hhp]; exact vx_Zq.moved hW0.alike (hN.kept hS.2.1)
  have h : ∀ w ∈ Bundle.ownAtoms0 own ic cls names, w.before args s' = true := vx_own hat' (vx_isRefq hU'.1) (vx_isRefq hN'.1) hU'.2.word hN'.2.word
  have hown' : s'.vm.findClass own = some m.cls := by rw [hvm]; exact hown
  have hins : (Cond.instantiable cls 6).before args s' = true := h _ (by simp [Bundle.ownAtoms0])
  obtain ⟨vm₁, cX, kX, hfX, hkX, -, -, X₁, st1⟩ := Y.newCold hexec (own := own) (C := cls) (index := ik) (n := 6) hown' hk' hins hini'
    (g := F0 m pc ls rest) rfl (by rw [hb]; exact d0) (Nat.le_refl _) (Nat.le_refl _)
  generalize hT1 : (T.setVm vm₁).pushCell { cls := cX, slots := kX.instanceTypes.map defaultValue, vm := .none } = T1 at X₁ st1
  have hcat : (Value.ref T.heap.size).category = 1 := rfl
  have hcellA : T1.heap[T.heap.size]? = some (freshCell cX kX) := by rw [← hT1]; exact State.heap_pushCell_size _ _
  have d3' : decode c.code (pc + 3) = .ok (.dup, 1) := by rw [hb]; exact d3
  obtain ⟨U, hsteps, hrun, hend, hW, hsame, ce, hce, hO⟩ := X₁.ctorThrow0 hexec htr (own := own) (cls := cls) (names := names) (ic := ic) hown' hcls hnames h (fun x hx => nomatch hx) hfX hkX hcellA (by rw [hhp, hT]; exact Nat.le_refl _)
    (g := { method := m, pc := pc + 4, locals := ls, stack := .ref T.heap.size :: .ref T.heap.size :: rest, locked := none }) rfl hsize rfl rfl (rest := rest) rfl
    (by rw [hb]; exact d4) (by rw [hb]; exact d7) hout hRframes (by simp only [List.map_cons, List.sum_cons, hcat]; omega) hlocks
  obtain ⟨f1, f2⟩ := vx_frame hsame
  rw [hhp] at f1 f2
  have hWs : s.WarmedH U.vm := State.WarmedH.trans hW0 hW
  have hcl : s.vm.findClass cls = some ce.cls := by
    have h9 := hO.cls
    rw [hvm] at h9
    exact h9
  have hall : s.sameButNew ({ U with vm := s.vm } : State) locs mc ms := by
    subst hA
    obtain ⟨e1, e2⟩ := hsame
    rw [State.setFrames_setFrames] at e1
    have h2 : (T.setVm s.vm).sameButNew ({ U with vm := s.vm } : State) [] (0 + 1) (0 + 6) := ⟨e1, e2⟩
    have h3 := X.same.trans h2
    rw [List.append_nil] at h3
    exact h3.mono hc hs
  refine ⟨U, ?_, .threw T.heap.size, hrun, hend, Or.inr ⟨T.heap.size, rfl, cls, ce, locs, hx U hWs.alike f1 (fun q hq => f2 q hq (fun z hz => nomatch hz)), hce, hO.vm, hcl, hWs, hall, hf⟩⟩
  refine st1 _ ?_
  show Steps p.tables e below (T1.setTop { method := m, pc := pc + 3, locals := ls, stack := .ref T.heap.size :: rest, locked := none }) _
  jvm_step X₁.here [X₁.here.top, hexec, d3', Value.category]
  exact hsteps
/-- 'throw new E("text")': new; dup; ldc; invokespecial; athrow -/
theorem vx_throwS {cc : ByteArray} {pc : Nat} (hexec : p.tables.exec = Jvm.exec) (hb : c.code = cc) (hl : l.stackTraces = false) {own cls text : String} {names : List String} {ik is ic mc ms sa : Nat} {A : Nat → Prop}
    (hown : s.vm.findClass own = some m.cls) (hcls : Bundle.fit cls = true) (hnames : ∀ n ∈ names, Bundle.fit n = true)
    (hk : (Cond.classLink own ik cls).before args s = true) (hini : (Cond.initialized cls).before args s = true) (hstr : vk_R own is text sa s) (hat : ∀ w ∈ vx_atS own ic cls names, w.before args s = true)
    (hgood : ∀ w ∈ Cond.classLink own ik cls :: Cond.initialized cls :: vx_atS own ic cls names, vx_ot w = true)
    (hU : vx_Zq Bundle.tN "UNASSIGNED_STACK" Bundle.steD A s s.heap) (hN : vx_Zq Bundle.tN "SUPPRESSED_SENTINEL" Bundle.listD A s s.heap) (hS : va_S A s.heap H locs) (hsize : ls.size = c.maxLocals)
    (d0 : decode cc pc = .ok (.new ik, 3)) (d3 : decode cc (pc + 3) = .ok (.dup, 1)) (d4 : decode cc (pc + 4) = .ok (.ldc is, 2)) (d6 : decode cc (pc + 6) = .ok (.invokespecial ic, 3)) (d9 : decode cc (pc + 9) = .ok (.athrow, 1))
    (hout : ∀ x ∈ c.exceptionTable.toList, covers x (pc + 9) = false)
    (hRframes : names.length + 3 < R.frames) (hRlocals : (rest.map fun v => v.category).sum + (13 * (names.length + 1) + 43) ≤ R.locals) (hRcells : cells + 1 ≤ R.cells) (hRslots : slots + 6 ≤ R.slots) (hlocks : meth.locks = false)
    (hx : ∀ t : State, s.vm.Alike t.vm → H.size ≤ t.heap.size → (∀ q : Nat, q < H.size → t.heap[q]? = H[q]?) → XC cls s t)
    (hf : ∀ z ∈ locs, free z.base) (hc : cells + 1 ≤ mc) (hs : slots + 6 ≤ ms) :
    W p l e R s m args below meth c H locs cells slots (vx_MQ below Qc XC args s mc ms free) (F0 m pc ls rest) := by
  intro T hT X
  have htr : e.platform.stackTraces = false := (show e.platform.stackTraces = l.stackTraces by rw [X.admits.platform]).trans hl
  have Y := vx_rebase X (R' := { frames := R.frames, locals := R.locals, cells := 1, slots := 6 }) (Nat.le_refl _) (Nat.le_refl _) hRcells hRslots
  obtain ⟨s', hA⟩ : ∃ z, z = (T.setVm s.vm).setFrames (.invoking m args :: below) := ⟨_, rfl⟩
  rw [← hA] at Y
  have hvm : s'.vm = s.vm := by rw [hA]; rfl
  have hhp : s'.heap = H := by rw [hA]; exact hT
  have hW0 : s.WarmedH s'.vm := by rw [hvm]; exact State.WarmedH.refl s
  have hat' : ∀ w ∈ vx_atS own ic cls names, w.before args s' = true := fun w hw => vx_ot_at hW0 hvm.symm (hgood w (List.mem_cons_of_mem _ (List.mem_cons_of_mem _ hw))) (hat w hw)
  have hk' : (Cond.classLink own ik cls).before args s' = true := vx_ot_at hW0 hvm.symm (hgood _ List.mem_cons_self) hk
  have hini' : (Cond.initialized cls).before args s' = true := vx_ot_at hW0 hvm.symm (hgood _ (List.mem_cons_of_mem _ List.mem_cons_self)) hini
  have hU' : vx_Zq Bundle.tN "UNASSIGNED_STACK" Bundle.steD A s' s'.heap := by rw [hhp]; exact vx_Zq.moved hW0.alike (hU.kept hS.2.1)
  have hN' : vx_Zq Bundle.tN "SUPPRESSED_SENTINEL" Bundle.listD A s' s'.heap := by rw [hhp]; exact vx_Zq.moved hW0.alike (hN.kept hS.2.1)
  have h : ∀ w ∈ Bundle.ownAtoms own ic cls names, w.before args s' = true := vx_own hat' (vx_isRefq hU'.1) (vx_isRefq hN'.1) hU'.2.word hN'.2.word
  have hown' : s'.vm.findClass own = some m.cls := by rw [hvm]; exact hown
  have hins : (Cond.instantiable cls 6).before args s' = true := h _ (by simp [Bundle.ownAtoms])
  obtain ⟨vm₁, cX, kX, hfX, hkX, -, -, X₁, st1⟩ := Y.newCold hexec (own := own) (C := cls) (index := ik) (n := 6) hown' hk' hins hini'
    (g := F0 m pc ls rest) rfl (by rw [hb]; exact d0) (Nat.le_refl _) (Nat.le_refl _)
  generalize hT1 : (T.setVm vm₁).pushCell { cls := cX, slots := kX.instanceTypes.map defaultValue, vm := .none } = T1 at X₁ st1
  have hcat : (Value.ref T.heap.size).category = 1 := rfl
  have hcellA : T1.heap[T.heap.size]? = some (freshCell cX kX) := by rw [← hT1]; exact State.heap_pushCell_size _ _
  have d3' : decode c.code (pc + 3) = .ok (.dup, 1) := by rw [hb]; exact d3
  have d4' : decode c.code (pc + 4) = .ok (.ldc is, 2) := by rw [hb]; exact d4
  have hstr' : vk_R own is text sa s' := vk_R.warm hW0 hstr
  obtain ⟨U, hsteps, hrun, hend, hW, hsame, ce, hce, hO⟩ := X₁.ctorThrowS hexec htr (own := own) (cls := cls) (names := names) (ic := ic) hown' hcls hnames h (fun x hx => nomatch hx) hfX hkX hcellA (by rw [hhp, hT]; exact Nat.le_refl _) (msg := .ref sa) rfl
    (g := { method := m, pc := pc + 6, locals := ls, stack := .ref sa :: .ref T.heap.size :: .ref T.heap.size :: rest, locked := none }) rfl hsize rfl rfl (rest := rest) rfl
    (by rw [hb]; exact d6) (by rw [hb]; exact d9) hout hRframes (by simp only [List.map_cons, List.sum_cons, hcat]; omega) hlocks
  obtain ⟨f1, f2⟩ := vx_frame hsame
  rw [hhp] at f1 f2
  have hWs : s.WarmedH U.vm := State.WarmedH.trans hW0 hW
  have hcl : s.vm.findClass cls = some ce.cls := by
    have h9 := hO.cls
    rw [hvm] at h9
    exact h9
  have hall : s.sameButNew ({ U with vm := s.vm } : State) locs mc ms := by
    subst hA
    obtain ⟨e1, e2⟩ := hsame
    rw [State.setFrames_setFrames] at e1
    have h2 : (T.setVm s.vm).sameButNew ({ U with vm := s.vm } : State) [] (0 + 1) (0 + 6) := ⟨e1, e2⟩
    have h3 := X.same.trans h2
    rw [List.append_nil] at h3
    exact h3.mono hc hs
  refine ⟨U, ?_, .threw T.heap.size, hrun, hend, Or.inr ⟨T.heap.size, rfl, cls, ce, locs, hx U hWs.alike f1 (fun q hq => f2 q hq (fun z hz => nomatch hz)), hce, hO.vm, hcl, hWs, hall, hf⟩⟩
  refine st1 _ ?_
  show Steps p.tables e below (T1.setTop { method := m, pc := pc + 3, locals := ls, stack := .ref T.heap.size :: rest, locked := none }) _
  jvm_step X₁.here [X₁.here.top, hexec, d3', Value.category]
  exact X₁.ldcString hexec (own := own) (text := text) (index := is) (a := sa) hown' hstr'.1 hstr'.2
    (g := { method := m, pc := pc + 4, locals := ls, stack := .ref T.heap.size :: .ref T.heap.size :: rest, locked := none }) rfl d4' _ hsteps
/-- 'throw new E("text")', the text by a wide index -/
theorem vx_throwSW {cc : ByteArray} {pc : Nat} (hexec : p.tables.exec = Jvm.exec) (hb : c.code = cc) (hl : l.stackTraces = false) {own cls text : String} {names : List String} {ik is ic mc ms sa : Nat} {A : Nat → Prop}
    (hown : s.vm.findClass own = some m.cls) (hcls : Bundle.fit cls = true) (hnames : ∀ n ∈ names, Bundle.fit n = true)
    (hk : (Cond.classLink own ik cls).before args s = true) (hini : (Cond.initialized cls).before args s = true) (hstr : vk_R own is text sa s) (hat : ∀ w ∈ vx_atS own ic cls names, w.before args s = true)
    (hgood : ∀ w ∈ Cond.classLink own ik cls :: Cond.initialized cls :: vx_atS own ic cls names, vx_ot w = true)
    (hU : vx_Zq Bundle.tN "UNASSIGNED_STACK" Bundle.steD A s s.heap) (hN : vx_Zq Bundle.tN "SUPPRESSED_SENTINEL" Bundle.listD A s s.heap) (hS : va_S A s.heap H locs) (hsize : ls.size = c.maxLocals)
    (d0 : decode cc pc = .ok (.new ik, 3)) (d3 : decode cc (pc + 3) = .ok (.dup, 1)) (d4 : decode cc (pc + 4) = .ok (.ldc_w is, 3)) (d7 : decode cc (pc + 7) = .ok (.invokespecial ic, 3)) (d10 : decode cc (pc + 10) = .ok (.athrow, 1))
    (hout : ∀ x ∈ c.exceptionTable.toList, covers x (pc + 10) = false)
    (hRframes : names.length + 3 < R.frames) (hRlocals : (rest.map fun v => v.category).sum + (13 * (names.length + 1) + 43) ≤ R.locals) (hRcells : cells + 1 ≤ R.cells) (hRslots : slots + 6 ≤ R.slots) (hlocks : meth.locks = false)
    (hx : ∀ t : State, s.vm.Alike t.vm → H.size ≤ t.heap.size → (∀ q : Nat, q < H.size → t.heap[q]? = H[q]?) → XC cls s t)
    (hf : ∀ z ∈ locs, free z.base) (hc : cells + 1 ≤ mc) (hs : slots + 6 ≤ ms) :
    W p l e R s m args below meth c H locs cells slots (vx_MQ below Qc XC args s mc ms free) (F0 m pc ls rest) := by
  intro T hT X
  have htr : e.platform.stackTraces = false := (show e.platform.stackTraces = l.stackTraces by rw [X.admits.platform]).trans hl
  have Y := vx_rebase X (R' := { frames := R.frames, locals := R.locals, cells := 1, slots := 6 }) (Nat.le_refl _) (Nat.le_refl _) hRcells hRslots
  obtain ⟨s', hA⟩ : ∃ z, z = (T.setVm s.vm).setFrames (.invoking m args :: below) := ⟨_, rfl⟩
  rw [← hA] at Y
  have hvm : s'.vm = s.vm := by rw [hA]; rfl
  have hhp : s'.heap = H := by rw [hA]; exact hT
  have hW0 : s.WarmedH s'.vm := by rw [hvm]; exact State.WarmedH.refl s
  have hat' : ∀ w ∈ vx_atS own ic cls names, w.before args s' = true := fun w hw => vx_ot_at hW0 hvm.symm (hgood w (List.mem_cons_of_mem _ (List.mem_cons_of_mem _ hw))) (hat w hw)
  have hk' : (Cond.classLink own ik cls).before args s' = true := vx_ot_at hW0 hvm.symm (hgood _ List.mem_cons_self) hk
  have hini' : (Cond.initialized cls).before args s' = true := vx_ot_at hW0 hvm.symm (hgood _ (List.mem_cons_of_mem _ List.mem_cons_self)) hini
  have hU' : vx_Zq Bundle.tN "UNASSIGNED_STACK" Bundle.steD A s' s'.heap := by rw [hhp]; exact vx_Zq.moved hW0.alike (hU.kept hS.2.1)
  have hN' : vx_Zq Bundle.tN "SUPPRESSED_SENTINEL" Bundle.listD A s' s'.heap := by rw [hhp]; exact vx_Zq.moved hW0.alike (hN.kept hS.2.1)
  have h : ∀ w ∈ Bundle.ownAtoms own ic cls names, w.before args s' = true := vx_own hat' (vx_isRefq hU'.1) (vx_isRefq hN'.1) hU'.2.word hN'.2.word
  have hown' : s'.vm.findClass own = some m.cls := by rw [hvm]; exact hown
  have hins : (Cond.instantiable cls 6).before args s' = true := h _ (by simp [Bundle.ownAtoms])
  obtain ⟨vm₁, cX, kX, hfX, hkX, -, -, X₁, st1⟩ := Y.newCold hexec (own := own) (C := cls) (index := ik) (n := 6) hown' hk' hins hini'
    (g := F0 m pc ls rest) rfl (by rw [hb]; exact d0) (Nat.le_refl _) (Nat.le_refl _)
  generalize hT1 : (T.setVm vm₁).pushCell { cls := cX, slots := kX.instanceTypes.map defaultValue, vm := .none } = T1 at X₁ st1
  have hcat : (Value.ref T.heap.size).category = 1 := rfl
  have hcellA : T1.heap[T.heap.size]? = some (freshCell cX kX) := by rw [← hT1]; exact State.heap_pushCell_size _ _
  have d3' : decode c.code (pc + 3) = .ok (.dup, 1) := by rw [hb]; exact d3
  have d4' : decode c.code (pc + 4) = .ok (.ldc_w is, 3) := by rw [hb]; exact d4
  have hstr' : vk_R own is text sa s' := vk_R.warm hW0 hstr
  obtain ⟨U, hsteps, hrun, hend, hW, hsame, ce, hce, hO⟩ := X₁.ctorThrowS hexec htr (own := own) (cls := cls) (names := names) (ic := ic) hown' hcls hnames h (fun x hx => nomatch hx) hfX hkX hcellA (by rw [hhp, hT]; exact Nat.le_refl _) (msg := .ref sa) rfl
    (g := { method := m, pc := pc + 7, locals := ls, stack := .ref sa :: .ref T.heap.size :: .ref T.heap.size :: rest, locked := none }) rfl hsize rfl rfl (rest := rest) rfl
    (by rw [hb]; exact d7) (by rw [hb]; exact d10) hout hRframes (by simp only [List.map_cons, List.sum_cons, hcat]; omega) hlocks
  obtain ⟨f1, f2⟩ := vx_frame hsame
  rw [hhp] at f1 f2
  have hWs : s.WarmedH U.vm := State.WarmedH.trans hW0 hW
  have hcl : s.vm.findClass cls = some ce.cls := by
    have h9 := hO.cls
    rw [hvm] at h9
    exact h9
  have hall : s.sameButNew ({ U with vm := s.vm } : State) locs mc ms := by
    subst hA
    obtain ⟨e1, e2⟩ := hsame
    rw [State.setFrames_setFrames] at e1
    have h2 : (T.setVm s.vm).sameButNew ({ U with vm := s.vm } : State) [] (0 + 1) (0 + 6) := ⟨e1, e2⟩
    have h3 := X.same.trans h2
    rw [List.append_nil] at h3
    exact h3.mono hc hs
  refine ⟨U, ?_, .threw T.heap.size, hrun, hend, Or.inr ⟨T.heap.size, rfl, cls, ce, locs, hx U hWs.alike f1 (fun q hq => f2 q hq (fun z hz => nomatch hz)), hce, hO.vm, hcl, hWs, hall, hf⟩⟩
  refine st1 _ ?_
  show Steps p.tables e below (T1.setTop { method := m, pc := pc + 3, locals := ls, stack := .ref T.heap.size :: rest, locked := none }) _
  jvm_step X₁.here [X₁.here.top, hexec, d3', Value.category]
  exact X₁.ldcStringW hexec (own := own) (text := text) (index := is) (a := sa) hown' hstr'.1 hstr'.2
    (g := { method := m, pc := pc + 4, locals := ls, stack := .ref T.heap.size :: .ref T.heap.size :: rest, locked := none }) rfl d4' _ hsteps
end Ends
section Bodies
variable {l : Launch}
theorem vx_ofW {y : MethodName} {ws ws' : List Cond} {rm : Room} {Pc : Array Value → State → Prop} {Qc : Array Value → State → Outcome → State → Prop} {XC : String → State → State → Prop} {mc ms : Nat} {free : Addr → Prop} {cc : ByteArray} {maxL : Nat} {ret : Option FieldType}
    (hy : plainName y.cls = true) (hw : ws = Cond.code y cc maxL ret :: ws')
    (body : ∀ p e s m args below meth c s₁, BodyLoose p l y (headSpec ws rm) cc maxL ret e s m args below meth c s₁ → c.maxLocals = maxL → (∀ x ∈ c.exceptionTable.toList, False) → Pc args s →
      W p l e (headSpec ws rm).room s m args below meth c s.heap [] 0 0 (vx_MQ below Qc XC args s mc ms free) (entryFrame m args maxL)) : vx_Met l y ws rm Pc Qc XC mc ms free := by
  refine MetFree.of_bodyS (code := cc) (maxLocals := maxL) (ret := ret) hy ?_ ?_
  · intro args s m h hn
    obtain ⟨meth, c, h1, h2, h3, h4, h5, h6, -, -⟩ := Cond.code_spec hn (atoms_spec (ws := ws) h _ (by rw [hw]; exact List.mem_cons_self))
    exact ⟨meth, c, h1, h2, h3, h4, h5, h6⟩
  · intro p e s m args below meth c s₁ B hml hP _
    have hh0 : s₁.heap = s.heap := by rw [B.state]; rfl
    have ht : ∀ x ∈ c.exceptionTable.toList, False := by
      obtain ⟨meth9, c9, h1, h2, -, -, -, -, h7, -⟩ := Cond.code_spec B.named (atoms_spec (ws := ws) B.pre _ (by rw [hw]; exact List.mem_cons_self))
      cases Option.some.inj (h1.symm.trans B.method)
      cases Option.some.inj (h2.symm.trans (Stand.of_body B).code)
      intro x hx
      rw [Array.isEmpty_iff.mp h7] at hx
      cases hx
    obtain ⟨t, a1, o, b1, b2, b3⟩ := body p e s m args below meth c s₁ B hml ht hP s₁ hh0 (Stand.of_body B)
    exact ⟨t, o, a1, b1, b2, b3⟩
/-- the table of a body with handlers -/
theorem vx_table {p : Program} {x y : MethodName} {S : Spec} {cc bytes : ByteArray} {maxL maxL' : Nat} {ret ret' : Option FieldType} {e : Env} {s s₁ : State} {m : MethodId} {args : Array Value} {below : List Frame} {meth : Method} {c : Code} {hh : List (Nat × Nat × Nat × Nat)}
    (B : BodyLoose p l y S cc maxL ret e s m args below meth c s₁) (h : (Cond.codeWith y bytes maxL' ret' hh).before args s = true) : c.exceptionTable.toList = tableOf hh := by
  obtain ⟨m9, meth9, c9, hn9, h1, h2, -, -, h6, -⟩ := Cond.codeWith_spec h
  cases Option.some.inj (hn9.symm.trans B.named)
  cases Option.some.inj (h1.symm.trans B.method)
  cases Option.some.inj (h2.symm.trans (Stand.of_body B).code)
  rw [← h6, table_eq]
end Bodies
end VXA
/-! ===== END ===== -/
/-! ===== BEGIN a static call of a method with an exception table ===== -/
section VXS
variable {p : Program} {l : Launch} {e : Env} {R : Room} {s : State} {m : MethodId} {args : Array Value} {below : List Frame} {meth : Method} {c : Code} {T : State} {H : Heap} {locs : List Loc} {cells slots : Nat}
abbrev vx_CSW (R : Room) (s : State) (args : Array Value) (own : String) (index : Nat) (y : MethodName) (bytes : ByteArray) (maxL : Nat) (ret : Option FieldType) (hh : List (Nat × Nat × Nat × Nat)) (ws : List Cond) (rm : Room) (mc ms n : Nat) : Prop :=
  (rm.cells = mc ∧ rm.slots = ms ∧ rm.frames + 1 ≤ R.frames ∧ 8 + (maxL + 11) + rm.locals ≤ R.locals ∧ (∀ w ∈ ws, ∀ (a' : Array Value) (U : State), s.WarmedH U.vm → w.before a' U = true) ∧ Cond.codeWith y bytes maxL ret hh ∈ ws) ∧
  (Cond.codeWith y bytes maxL ret hh).before args s = true ∧ (Cond.initialized y.cls).before args s = true ∧ (y.cls ≠ "java/lang/invoke/MethodHandle" ∧ y.cls ≠ "java/lang/invoke/VarHandle") ∧
  (∀ sig, parseMethodDescriptor y.desc = some sig → n = sig.parameters.length) ∧ (Cond.methodLink own index y).before args s = true ∧ (Cond.static y).before args s = true
theorem vx_cwSW {own : String} {index maxL mc ms : Nat} {y : MethodName} {bytes : ByteArray} {ret : Option FieldType} {hh : List (Nat × Nat × Nat × Nat)} {Ts ws ws' : List Cond} {rm : Room} (n : Nat) (ht : ∀ w ∈ Ts, w.before args s = true) (hT : GoodIn Ts (va_wsS own index y ws)) (hw : ws = Cond.codeWith y bytes maxL ret hh :: ws') (hrc : rm.cells = mc) (hrs : rm.slots = ms)
    (hd : y.cls ≠ "java/lang/invoke/MethodHandle" ∧ y.cls ≠ "java/lang/invoke/VarHandle" ∧ (parseMethodDescriptor y.desc).map (fun d => d.parameters.length) = some n) (hR : rm.frames + 1 ≤ R.frames ∧ 8 + (maxL + 11) + rm.locals ≤ R.locals) :
    vx_CSW R s args own index y bytes maxL ret hh ws rm mc ms n := by
  have ok : ∀ w ∈ va_wsS own index y ws, w.before args s = true := fun w h => ht w (hT w h).1
  have hG : GoodIn Ts ws := fun w h => hT w (by unfold va_wsS; exact List.mem_append_right _ h)
  have hc : Cond.codeWith y bytes maxL ret hh ∈ ws := by rw [hw]; exact List.mem_cons_self
  refine ⟨⟨hrc, hrs, hR.1, hR.2, pay_in ht hG, hc⟩, ht _ (hG _ hc).1, ok _ (by simp [va_wsS]), ⟨hd.1, hd.2.1⟩, fun sig h => ?_, ok _ (by simp [va_wsS]), ok _ (by simp [va_wsS])⟩
  have h2 := hd.2.2
  rw [h] at h2
  exact (Option.some.inj h2).symm
theorem vx_callSW (X : Stand p l e R s m args below meth c T locs cells slots) (hexec : p.tables.exec = Jvm.exec) {own : String} {index : Nat} {y : MethodName} {bytes : ByteArray} {maxL : Nat} {ret : Option FieldType} {hh : List (Nat × Nat × Nat × Nat)}
    (hown : s.vm.findClass own = some m.cls) (hlink : (Cond.methodLink own index y).before args s = true) (hstat : (Cond.static y).before args s = true) (hinit : (Cond.initialized y.cls).before args s = true)
    (hcode : (Cond.codeWith y bytes maxL ret hh).before args s = true) (hy : y.cls ≠ "java/lang/invoke/MethodHandle" ∧ y.cls ≠ "java/lang/invoke/VarHandle")
    {W9 : Nat} {Pre : Pt → Array Value → Prop} {Post : Pt → Array Value → Option Value → Pt → Prop} (hK : Back l R p e below s args y 3 W9 Pre Post)
    {g : JFrame} (hg : g.method = m) (hsize : g.locals.size = c.maxLocals) {argsL rest : List Value} (hlen : ∀ sig, parseMethodDescriptor y.desc = some sig → argsL.length = sig.parameters.length)
    (hstack : g.stack = argsL.reverse ++ rest) (hW : 2 * g.monitorRoom + (rest.map fun v => v.category).sum ≤ W9) (hdg : decode c.code g.pc = .ok (.invokestatic index, 3))
    (hpre : ∀ vm₁, s.WarmedH vm₁ → Pre ⟨T.setVm vm₁, locs, cells, slots⟩ argsL.toArray) :
    ∃ (v : Option Value) (vm₁ : Vm) (B : Pt), s.WarmedH vm₁ ∧ Stand p l e R s m args below meth c B.U B.locs B.cells B.slots ∧ Post ⟨T.setVm vm₁, locs, cells, slots⟩ argsL.toArray v B ∧
      ∀ target, Steps p.tables e below (B.U.setTop { g with pc := g.pc + 3, stack := v.toList ++ rest }) target → Steps p.tables e below (T.setTop g) target := by
  obtain ⟨mk, methM, cM, hnamed, hmethM, -, -, -, -, -, -, hsigM⟩ := Cond.codeWith_spec hcode
  have hstatic : methM.isStatic = true := Cond.static_spec hnamed hmethM hstat
  obtain ⟨kP, hkP, -⟩ := className_of_methodNamed hnamed
  have hinitP : kP.init = .initialized := Cond.initialized_spec (findClass_of_methodNamed hnamed) hkP hinit
  obtain ⟨vm₁, X₁, hstep₁⟩ := X.invokestatic hexec hown hlink hnamed hmethM hstatic hkP hinitP hy (g := g) hg (argsL := argsL) (rest := rest) (hlen _ hsigM) hstack hdg
  obtain ⟨v, B, X', hpost, hsteps⟩ := hK m meth c ⟨T.setVm vm₁, locs, cells, slots⟩ { g with stack := rest } (.invokestatic index) mk argsL.toArray X₁ hg hsize hdg hW (X₁.named hnamed) (hpre vm₁ X₁.warmed)
  exact ⟨v, vm₁, B, X₁.warmed, X', hpost, fun target h => hstep₁ _ fun acts => by rw [doInvoke_state]; exact hsteps.trans h⟩
theorem vx_runSW {y : MethodName} {bytes cc : ByteArray} {maxL nL mc ms n index : Nat} {ret : Option FieldType} {hh : List (Nat × Nat × Nat × Nat)} {ws : List Cond} {rm : Room} {Pc : Array Value → State → Prop} {Qc : Array Value → State → Outcome → State → Prop} {free : Addr → Prop} {Ts : List Cond} {own : String} {As rest : List Value} {g : JFrame}
    (S : CallFix p m c cc nL s args Ts own) (hM : Met l y ws rm Pc Qc mc ms free) (cw : vx_CSW R s args own index y bytes maxL ret hh ws rm mc ms n) (hp : PreS s H Pc As)
    (hg : g.method = m) (hn : As.length = n) (hsize : g.locals.size = nL) (hstack : g.stack = As.reverse ++ rest) (hW : 2 * g.monitorRoom + (rest.map fun v => v.category).sum ≤ 8) (hdg : decode cc g.pc = .ok (.invokestatic index, 3)) (hf : cells + mc ≤ R.cells ∧ slots + ms ≤ R.slots) :
    va_Run p l e R s m args below meth c H locs cells slots mc ms g rest (Qc As.toArray) (free) := by
  obtain ⟨⟨hrc, hrs, hfr, hlo, hws, hcw⟩, hcode, hini, hy, hlen, hl, hstt⟩ := cw
  have hK : Back l R p e below s args y 3 8 (PreOf R mc ms Pc) (PostOf Qc mc ms free) := va_backW (hh := hh) (bytes := bytes) (maxL := maxL) (ret := ret) hM hp.1 hrc hrs hfr hlo hws hcw (fun a' U hW => word_at hW (Or.inl (by first | rfl | simp [Cond.onTables, Cond.keeps, Cond.steady])) hini)
  obtain ⟨hx, hb, hml, ho, -⟩ := S
  intro T hT X
  obtain ⟨v, vm₁, ⟨U', l2, c2, s2⟩, hW₁, X', ⟨g', mk, t, L, e1, e2, hq, h1, hL, h2, h3⟩, st⟩ := vx_callSW X hx (hh := hh) (bytes := bytes) (maxL := maxL) (ret := ret) ho hl hstt hini hcode hy hK hg (hsize.trans hml.symm) (argsL := As) (rest := rest) (fun sig h => hn.trans (hlen sig h)) hstack hW (by rw [hb]; exact hdg)
    (fun vm₁ hW₁ => ⟨hf.1, hf.2, hp.2 (T.setVm vm₁) hT hW₁⟩)
  dsimp only [Pt.U, Pt.locs, Pt.cells, Pt.slots] at X' e1 e2 h1 h2 h3 st
  subst h1; subst h2; subst h3
  exact ⟨v, (T.setVm vm₁).calling g' mk As.toArray, t, U', L, hT, X', hL, e1, e2, hq, st⟩
/-- not caught here, past rows that name other classes: it goes on to the caller -/
theorem vx_outP {p : Program} {l : Launch} {e : Env} {R : Room} {s : State} {m : MethodId} {args : Array Value} {below : List Frame} {meth : Method} {c : Code} {H : Heap} {locs : List Loc} {cells slots : Nat} {free : Addr → Prop} {ls : Array Slot} {rest : List Value} {Qc : Array Value → State → Outcome → State → Prop} {XC : String → State → State → Prop}
    {pc : Nat} {own E : String} {ce : Cell} {q : Addr} {mc ms : Nat} (hown : s.vm.findClass own = some m.cls) (hlocks : meth.locks = false)
    (hpass : ∀ z ∈ c.exceptionTable.toList, covers z pc = false ∨ (z.catchType ≠ 0 ∧ ∃ nm : String, (Cond.classLink own z.catchType nm).before args s = true ∧ va_Nc E nm s)) (hcell : H[q]? = some ce) (hv : ce.vm = .none) (hcl : s.vm.findClass E = some ce.cls)
    (hx : ∀ t : State, t.heap = H → s.vm.Alike t.vm → XC E s t) (hf : ∀ z ∈ locs, free z.base) (hc : cells ≤ mc) (hs : slots ≤ ms) :
    vx_W p l e R s m args below meth c H locs cells slots (vx_MQ below Qc XC args s mc ms free) (F0 m pc ls rest) q := by
  intro T hT X
  have hpl : e.platform.magicAccessors = ({} : Platform).magicAccessors := by rw [X.admits.platform]
  obtain ⟨vm', hW', X', st⟩ := X.outThrough hlocks q (g := F0 m pc ls rest) rfl rfl rfl (cell := ce) (by rw [hT]; exact hcell) (by rw [hv]; rfl)
    (by obtain ⟨k9, h9, -⟩ := Vm.findClass_spec hcl; exact ⟨k9, h9⟩) (fun z hz => by
      rcases hpass z hz with h | ⟨hz0, nm, hl1, hn1⟩
      · exact Or.inl h
      · obtain ⟨c6, hc6, hcl6⟩ := Cond.classLink_spec hown hl1 e.platform hpl
        obtain ⟨a8, b8, h1, h2, h3⟩ := hn1
        cases Option.some.inj (h1.symm.trans hcl)
        cases Option.some.inj (h2.symm.trans hc6)
        exact Or.inr ⟨hz0, _, hcl6, h3⟩)
  obtain ⟨g₀, hfr⟩ := X'.frames_eq
  have hcell9 : ((T.setVm vm').setFrames (.throwing q :: below)).heap[q]? = some ce := by
    show T.heap[q]? = some ce
    rw [hT]; exact hcell
  have hend : Ended ((T.setVm vm').setFrames (.throwing q :: below)) below (.threw q) := State.frames_setFrames _ (State.cur_lt_of_frames hfr)
  refine ⟨(T.setVm vm').setFrames (.throwing q :: below), ?_, .threw q, X'.here.running, hend, Or.inr ⟨q, rfl, E, ce, locs, hx _ hT (X'.ends _).1.alike, hcell9, hv, hcl, (X'.ends _).1, (X'.ends _).2.mono hc hs, hf⟩⟩
  rw [X.pushThrowing_eq]
  exact st
/-- a thing of a world lies in the heap -/
theorem vx_lt {D : va_G} {cl : List vw_C} {ws : va_W} {H1 : Heap} (h : va_P D cl ws H1) {k : Nat} {q : Nat × va_E} (hk : ws[k]? = some q) : q.1 < H1.size := (h k q hk).lt
end VXS
/-! ===== END ===== -/
/-! ===== BEGIN methods with a table of their own: called by a name, returning or throwing ===== -/
section VXH
/-! vx_backW, vx_callVX, vx_callSX, vx_callVW, vx_runVW, vx_runVX, vx_runSX, vx_ofWH follow the same proofs as their sisters above (Free/Laws.lean, Shelf42/LK1.lean); vx_outP calls Shelf42/NT130.lean (outThrough). -/
section
variable {l : Launch} {R : Room} {p : Program} {e : Env} {below : List Frame} {s : State} {sargs : Array Value} {y : MethodName} {len W9 : Nat}
theorem vx_backW {ws : List Cond} {rm : Room} {Pc : Array Value → State → Prop} {Qc : Array Value → State → Outcome → State → Prop} {XC : String → State → State → Prop} {mc ms : Nat} {free : Addr → Prop} {bytes : ByteArray} {maxL : Nat} {ret : Option FieldType} {hh : List (Nat × Nat × Nat × Nat)}
    (hM : vx_Met l y ws rm Pc Qc XC mc ms free) (hblind : FrameBlind Pc) (hrc : rm.cells = mc) (hrs : rm.slots = ms)
    (hframes : rm.frames + 1 ≤ R.frames) (hlocals : W9 + (maxL + 11) + rm.locals ≤ R.locals)
    (hws : ∀ w ∈ ws, ∀ a' U, s.WarmedH U.vm → w.before a' U = true) (hcode : Cond.codeWith y bytes maxL ret hh ∈ ws) (hinit : ∀ a' U, s.WarmedH U.vm → (Cond.initialized y.cls).before a' U = true) :
    vx_Back l R p e below s sargs y len W9 (PreOf R mc ms Pc) (PostOf Qc mc ms free) (vx_Post XC mc ms free) := by
  intro m meth c A g ig mk a X hg hsize hdg hW hn hp
  have h1 : (headSpec ws rm).pre.before a A.U = true := atoms_intro fun w hw => hws w hw _ _ X.warmed
  have h2 : (Cond.codeWith y bytes maxL ret hh).before a A.U = true := hws _ hcode _ _ X.warmed
  have h3 : (Cond.initialized y.cls).before a A.U = true := hinit _ _ X.warmed
  have h4 : A.cells + (headSpec ws rm).room.cells ≤ R.cells := by rw [show (headSpec ws rm).room.cells = mc from hrc]; exact hp.1
  have h5 : A.slots + (headSpec ws rm).room.slots ≤ R.slots := by rw [show (headSpec ws rm).room.slots = ms from hrs]; exact hp.2.1
  have hPc : Pc a (A.U.calling g mk a) := hblind _ _ _ _ hp.2.2
  obtain ⟨U, Ls, c0, s0⟩ := A
  dsimp only [Pt.U, Pt.locs, Pt.cells, Pt.slots] at h1 h2 h3 h4 h5 X hn hPc ⊢
  obtain ⟨m9, methY, cY, hn9, hmY, hcY, -, hlY, -⟩ := Cond.codeWith_spec h2
  cases Option.some.inj (hn9.symm.trans hn)
  obtain ⟨kY, hkY, -⟩ := className_of_methodNamed hn
  have hinitY : kY.init = .initialized := Cond.initialized_spec (findClass_of_methodNamed hn) hkY h3
  have h : At U g.method c below := by rw [hg]; exact X.here
  have hlocals9 : W9 + (maxL + 11) + (headSpec ws rm).room.locals ≤ R.locals := hlocals
  have happ : (headSpec ws rm).appliesLoose y e.platform (U.calling g mk a) = true :=
    Spec.appliesLoose_calling (g := g) h hdg hn hkY hinitY
      (X.room_calling (g := g) (R' := (headSpec ws rm).room) hsize hmY hcY hframes (by rw [hlY]; omega) h4 h5) h1
  obtain ⟨mid, hmid⟩ := h.above
  have hfr : (U.setTop g).frames = (.java g :: mid) ++ below := by rw [State.frames_setTop' g h.top, hmid]; rfl
  obtain ⟨o, s₂, hsteps, -, hend, hq⟩ := Steps.callFree hM p X.admits X.cas X.clock (acts := []) hfr happ hPc trivial
  have hq' : vx_Q Qc XC mc ms free a (U.calling g mk a) o s₂ := hq
  rw [State.frames_setTop' g h.top] at hend
  obtain ⟨g₀, hg0⟩ := Option.isSome_iff_exists.mp h.top
  obtain ⟨r, hr⟩ := State.topJava?_eq_some.mp hg0
  have hr' : (({ U with heap := s₂.heap, slotsUsed := s₂.slotsUsed } : State).setVm s₂.vm).frames = .java g₀ :: r := hr
  rcases hq' with ⟨hqc, L, hfe, hL⟩ | ⟨q, rfl, E, ce, L, hx, hce, hcv, hcl, hW₂, hsm, hL⟩
  · obtain ⟨⟨v, rfl⟩, hW₂, e2, q2, q3, q4, q5, q6⟩ := id hfe
    have e3 : s₂ = ({ (U.calling g mk a).setFrames s₂.frames with heap := s₂.heap, slotsUsed := s₂.slotsUsed } : State).setVm s₂.vm := by
      have : s₂ = ({ s₂ with vm := (U.calling g mk a).vm } : State).setVm s₂.vm := rfl
      rw [e2] at this
      exact this
    obtain ⟨c₂, i₂, len₂, hc₂, hd₂, hf₂⟩ := hend
    have hW' : U.WarmedH s₂.vm := hW₂
    have hcc : c₂ = c := by
      have h1 : s₂.code? g.method = U.code? g.method := by
        rw [State.code?_eq, State.code?_eq, hW'.alike.method?]
      exact Option.some.inj (hc₂.symm.trans (h1.trans h.code))
    subst hcc
    have hlen : len₂ = len := by rw [hdg] at hd₂; cases hd₂; rfl
    subst hlen
    have hs₂ : s₂ = (({ U with heap := s₂.heap, slotsUsed := s₂.slotsUsed } : State).setVm s₂.vm).setTop { g with pc := g.pc + len₂, stack := v.toList ++ g.stack } := by
      refine e3.trans ?_
      rw [hf₂, State.calling_eq h.top, State.setFrames_setFrames, State.setTop_of_frames _ hr', hr]
      rfl
    have hsame : U.sameButNew ({ U with heap := s₂.heap, slotsUsed := s₂.slotsUsed } : State) L mc ms := by
      refine ⟨?_, q2, q3, q4, q5, q6⟩
      obtain ⟨t, ht, -⟩ := State.frames_cons hr
      show ({ U with heap := s₂.heap, slotsUsed := s₂.slotsUsed } : State) = { U.setFrames U.frames with heap := s₂.heap, slotsUsed := s₂.slotsUsed }
      rw [State.setFrames_self ht]
    subst hg
    refine Or.inl ⟨v, ⟨(({ U with heap := s₂.heap, slotsUsed := s₂.slotsUsed } : State).setVm s₂.vm), Ls ++ L, c0 + mc, s0 + ms⟩,
      ⟨X.admits, X.cas, X.clock, X.frames, X.room, X.hears, X.method, X.code, (X.here.setHeapUsed s₂.heap s₂.slotsUsed).setVm hW'.alike, X.tail, State.WarmedH.trans X.warmed hW', X.limits, X.bytes, X.same.trans (hsame.setVm s.vm)⟩,
      ⟨g, mk, s₂, L, rfl, rfl, hqc, rfl, hL, rfl, rfl⟩, ?_⟩
    show Steps p.tables e below _ ((({ U with heap := s₂.heap, slotsUsed := s₂.slotsUsed } : State).setVm s₂.vm).setTop { g with pc := g.pc + len₂, stack := v.toList ++ g.stack })
    rw [← hs₂]
    exact hsteps
  · obtain ⟨e2, q2, q3, q4, q5, q6⟩ := id hsm
    have e3 : s₂ = ({ (U.calling g mk a).setFrames s₂.frames with heap := s₂.heap, slotsUsed := s₂.slotsUsed } : State).setVm s₂.vm := by
      have : s₂ = ({ s₂ with vm := (U.calling g mk a).vm } : State).setVm s₂.vm := rfl
      rw [e2] at this
      exact this
    have hf₂ : s₂.frames = .throwing q :: .java g :: U.frames.tail := hend
    have hW' : U.WarmedH s₂.vm := hW₂
    have hs₂ : s₂ = ((({ U with heap := s₂.heap, slotsUsed := s₂.slotsUsed } : State).setVm s₂.vm).setTop g).pushFrame (.throwing q) := by
      refine e3.trans ?_
      rw [hf₂, State.calling_eq h.top, State.setFrames_setFrames, State.pushFrame, State.frames_setTop _ hr', State.setTop_of_frames _ hr', State.setFrames_setFrames, hr]
      rfl
    have hsame : U.sameButNew ({ U with heap := s₂.heap, slotsUsed := s₂.slotsUsed } : State) L mc ms := by
      refine ⟨?_, q2, q3, q4, q5, q6⟩
      obtain ⟨t, ht, -⟩ := State.frames_cons hr
      show ({ U with heap := s₂.heap, slotsUsed := s₂.slotsUsed } : State) = { U.setFrames U.frames with heap := s₂.heap, slotsUsed := s₂.slotsUsed }
      rw [State.setFrames_self ht]
    subst hg
    refine Or.inr ⟨q, ⟨(({ U with heap := s₂.heap, slotsUsed := s₂.slotsUsed } : State).setVm s₂.vm), Ls ++ L, c0 + mc, s0 + ms⟩,
      ⟨X.admits, X.cas, X.clock, X.frames, X.room, X.hears, X.method, X.code, (X.here.setHeapUsed s₂.heap s₂.slotsUsed).setVm hW'.alike, X.tail, State.WarmedH.trans X.warmed hW', X.limits, X.bytes, X.same.trans (hsame.setVm s.vm)⟩,
      ⟨g, mk, s₂, L, E, ce, rfl, rfl, hx, hce, hcv, hcl, rfl, hL, rfl, rfl⟩, ?_⟩
    show Steps p.tables e below _ (((({ U with heap := s₂.heap, slotsUsed := s₂.slotsUsed } : State).setVm s₂.vm).setTop g).pushFrame (.throwing q))
    rw [← hs₂]
    exact hsteps
end
variable {p : Program} {l : Launch} {e : Env} {R : Room} {s : State} {m : MethodId} {args : Array Value} {below : List Frame} {meth : Method} {c : Code} {T : State} {H : Heap} {locs : List Loc} {cells slots : Nat}
theorem vx_callVX (X : Stand p l e R s m args below meth c T locs cells slots) (hexec : p.tables.exec = Jvm.exec) {own C : String} {index : Nat} {y : MethodName} {bytes : ByteArray} {maxL : Nat} {ret : Option FieldType} {hh : List (Nat × Nat × Nat × Nat)}
    (hown : s.vm.findClass own = some m.cls) (hlink : (Cond.methodLink own index y).before args s = true) (hinst : (Cond.instanceMethod y).before args s = true) (hsel : (Cond.selects C y y).before args s = true)
    (hcode : (Cond.codeWith y bytes maxL ret hh).before args s = true) (hy : y.cls ≠ "java/lang/invoke/MethodHandle" ∧ y.cls ≠ "java/lang/invoke/VarHandle")
    {W9 : Nat} {Pre : Pt → Array Value → Prop} {Post : Pt → Array Value → Option Value → Pt → Prop} {PostX : Pt → Array Value → Addr → Pt → Prop} (hK : vx_Back l R p e below s args y 3 W9 Pre Post PostX)
    {b : Addr} {cellB : Cell} (hcell : T.heap[b]? = some cellB) (hobj : cellB.vm.isStatics = false) (hcls : s.vm.findClass C = some cellB.cls)
    {g : JFrame} (hg : g.method = m) (hsize : g.locals.size = c.maxLocals) {argsL rest : List Value} (hlen : ∀ sig, parseMethodDescriptor y.desc = some sig → argsL.length = sig.parameters.length)
    (hstack : g.stack = argsL.reverse ++ .ref b :: rest) (hW : 2 * g.monitorRoom + (rest.map fun v => v.category).sum ≤ W9) (hdg : decode c.code g.pc = .ok (.invokevirtual index, 3))
    (hpre : ∀ vm₁, s.WarmedH vm₁ → Pre ⟨T.setVm vm₁, locs, cells, slots⟩ (Value.ref b :: argsL).toArray) :
    (∃ (v : Option Value) (vm₁ : Vm) (B : Pt), s.WarmedH vm₁ ∧ Stand p l e R s m args below meth c B.U B.locs B.cells B.slots ∧ Post ⟨T.setVm vm₁, locs, cells, slots⟩ (Value.ref b :: argsL).toArray v B ∧
      ∀ target, Steps p.tables e below (B.U.setTop { g with pc := g.pc + 3, stack := v.toList ++ rest }) target → Steps p.tables e below (T.setTop g) target) ∨
    (∃ (q : Addr) (vm₁ : Vm) (B : Pt), s.WarmedH vm₁ ∧ Stand p l e R s m args below meth c B.U B.locs B.cells B.slots ∧ PostX ⟨T.setVm vm₁, locs, cells, slots⟩ (Value.ref b :: argsL).toArray q B ∧
      Steps p.tables e below (T.setTop g) ((B.U.setTop { g with stack := rest }).pushFrame (.throwing q))) := by
  obtain ⟨mk, methM, hnamed, hmethM, hstM, habM⟩ := Cond.instanceMethod_spec hinst
  obtain ⟨m8, methM', cM, hn8, hmethM', -, -, -, -, -, -, hsigM⟩ := Cond.codeWith_spec hcode
  cases Option.some.inj (hn8.symm.trans hnamed)
  cases hmethM.symm.trans hmethM'
  obtain ⟨c2, r2, m2, q1, q2, q3, q4, kP, hkP, hkPi⟩ := Cond.selects_spec hsel
  cases hcls.symm.trans q1
  cases (State.methodFound?_of_named hnamed hy).symm.trans q2
  cases hnamed.symm.trans q3
  have hselP : selectMethod e.platform s.vm cellB.cls mk = .method mk := by rw [Launch.admits_selectMethod X.admits]; exact q4
  obtain ⟨vm₁, X₁, hstep₁⟩ := X.invokevirtual hexec hown hlink hnamed hmethM hstM hkP hkPi hy (a := b) (cell := cellB) hcell
    (fun z h => by rw [h] at hobj; cases hobj) hselP hmethM habM hkP hkPi (g := g) hg (argsL := argsL) (rest := rest) (hlen _ hsigM) hstack hdg
  rcases hK m meth c ⟨T.setVm vm₁, locs, cells, slots⟩ { g with stack := rest } (.invokevirtual index) mk (Value.ref b :: argsL).toArray X₁ hg hsize hdg hW (X₁.named hnamed) (hpre vm₁ X₁.warmed) with ⟨v, B, X', hpost, hsteps⟩ | ⟨q, B, X', hpost, hsteps⟩
  · exact Or.inl ⟨v, vm₁, B, X₁.warmed, X', hpost, fun target h => hstep₁ _ fun acts => by rw [doInvoke_state]; exact hsteps.trans h⟩
  · exact Or.inr ⟨q, vm₁, B, X₁.warmed, X', hpost, hstep₁ _ fun acts => by rw [doInvoke_state]; exact hsteps⟩
theorem vx_callSX (X : Stand p l e R s m args below meth c T locs cells slots) (hexec : p.tables.exec = Jvm.exec) {own : String} {index : Nat} {y : MethodName} {bytes : ByteArray} {maxL : Nat} {ret : Option FieldType} {hh : List (Nat × Nat × Nat × Nat)}
    (hown : s.vm.findClass own = some m.cls) (hlink : (Cond.methodLink own index y).before args s = true) (hstat : (Cond.static y).before args s = true) (hinit : (Cond.initialized y.cls).before args s = true)
    (hcode : (Cond.codeWith y bytes maxL ret hh).before args s = true) (hy : y.cls ≠ "java/lang/invoke/MethodHandle" ∧ y.cls ≠ "java/lang/invoke/VarHandle")
    {W9 : Nat} {Pre : Pt → Array Value → Prop} {Post : Pt → Array Value → Option Value → Pt → Prop} {PostX : Pt → Array Value → Addr → Pt → Prop} (hK : vx_Back l R p e below s args y 3 W9 Pre Post PostX)
    {g : JFrame} (hg : g.method = m) (hsize : g.locals.size = c.maxLocals) {argsL rest : List Value} (hlen : ∀ sig, parseMethodDescriptor y.desc = some sig → argsL.length = sig.parameters.length)
    (hstack : g.stack = argsL.reverse ++ rest) (hW : 2 * g.monitorRoom + (rest.map fun v => v.category).sum ≤ W9) (hdg : decode c.code g.pc = .ok (.invokestatic index, 3))
    (hpre : ∀ vm₁, s.WarmedH vm₁ → Pre ⟨T.setVm vm₁, locs, cells, slots⟩ argsL.toArray) :
    (∃ (v : Option Value) (vm₁ : Vm) (B : Pt), s.WarmedH vm₁ ∧ Stand p l e R s m args below meth c B.U B.locs B.cells B.slots ∧ Post ⟨T.setVm vm₁, locs, cells, slots⟩ argsL.toArray v B ∧
      ∀ target, Steps p.tables e below (B.U.setTop { g with pc := g.pc + 3, stack := v.toList ++ rest }) target → Steps p.tables e below (T.setTop g) target) ∨
    (∃ (q : Addr) (vm₁ : Vm) (B : Pt), s.WarmedH vm₁ ∧ Stand p l e R s m args below meth c B.U B.locs B.cells B.slots ∧ PostX ⟨T.setVm vm₁, locs, cells, slots⟩ argsL.toArray q B ∧
      Steps p.tables e below (T.setTop g) ((B.U.setTop { g with stack := rest }).pushFrame (.throwing q))) := by
  obtain ⟨mk, methM, cM, hnamed, hmethM, -, -, -, -, -, -, hsigM⟩ := Cond.codeWith_spec hcode
  have hstatic : methM.isStatic = true := Cond.static_spec hnamed hmethM hstat
  obtain ⟨kP, hkP, -⟩ := className_of_methodNamed hnamed
  have hinitP : kP.init = .initialized := Cond.initialized_spec (findClass_of_methodNamed hnamed) hkP hinit
  obtain ⟨vm₁, X₁, hstep₁⟩ := X.invokestatic hexec hown hlink hnamed hmethM hstatic hkP hinitP hy (g := g) hg (argsL := argsL) (rest := rest) (hlen _ hsigM) hstack hdg
  rcases hK m meth c ⟨T.setVm vm₁, locs, cells, slots⟩ { g with stack := rest } (.invokestatic index) mk argsL.toArray X₁ hg hsize hdg hW (X₁.named hnamed) (hpre vm₁ X₁.warmed) with ⟨v, B, X', hpost, hsteps⟩ | ⟨q, B, X', hpost, hsteps⟩
  · exact Or.inl ⟨v, vm₁, B, X₁.warmed, X', hpost, fun target h => hstep₁ _ fun acts => by rw [doInvoke_state]; exact hsteps.trans h⟩
  · exact Or.inr ⟨q, vm₁, B, X₁.warmed, X', hpost, hstep₁ _ fun acts => by rw [doInvoke_state]; exact hsteps⟩
theorem vx_callVW (X : Stand p l e R s m args below meth c T locs cells slots) (hexec : p.tables.exec = Jvm.exec) {own C : String} {index : Nat} {y : MethodName} {bytes : ByteArray} {maxL : Nat} {ret : Option FieldType} {hh : List (Nat × Nat × Nat × Nat)}
    (hown : s.vm.findClass own = some m.cls) (hlink : (Cond.methodLink own index y).before args s = true) (hinst : (Cond.instanceMethod y).before args s = true) (hsel : (Cond.selects C y y).before args s = true)
    (hcode : (Cond.codeWith y bytes maxL ret hh).before args s = true) (hy : y.cls ≠ "java/lang/invoke/MethodHandle" ∧ y.cls ≠ "java/lang/invoke/VarHandle")
    {W9 : Nat} {Pre : Pt → Array Value → Prop} {Post : Pt → Array Value → Option Value → Pt → Prop} (hK : Back l R p e below s args y 3 W9 Pre Post)
    {b : Addr} {cellB : Cell} (hcell : T.heap[b]? = some cellB) (hobj : cellB.vm.isStatics = false) (hcls : s.vm.findClass C = some cellB.cls)
    {g : JFrame} (hg : g.method = m) (hsize : g.locals.size = c.maxLocals) {argsL rest : List Value} (hlen : ∀ sig, parseMethodDescriptor y.desc = some sig → argsL.length = sig.parameters.length)
    (hstack : g.stack = argsL.reverse ++ .ref b :: rest) (hW : 2 * g.monitorRoom + (rest.map fun v => v.category).sum ≤ W9) (hdg : decode c.code g.pc = .ok (.invokevirtual index, 3))
    (hpre : ∀ vm₁, s.WarmedH vm₁ → Pre ⟨T.setVm vm₁, locs, cells, slots⟩ (Value.ref b :: argsL).toArray) :
    ∃ (v : Option Value) (vm₁ : Vm) (B : Pt), s.WarmedH vm₁ ∧ Stand p l e R s m args below meth c B.U B.locs B.cells B.slots ∧ Post ⟨T.setVm vm₁, locs, cells, slots⟩ (Value.ref b :: argsL).toArray v B ∧
      ∀ target, Steps p.tables e below (B.U.setTop { g with pc := g.pc + 3, stack := v.toList ++ rest }) target → Steps p.tables e below (T.setTop g) target := by
  obtain ⟨mk, methM, hnamed, hmethM, hstM, habM⟩ := Cond.instanceMethod_spec hinst
  obtain ⟨m8, methM', cM, hn8, hmethM', -, -, -, -, -, -, hsigM⟩ := Cond.codeWith_spec hcode
  cases Option.some.inj (hn8.symm.trans hnamed)
  cases hmethM.symm.trans hmethM'
  obtain ⟨c2, r2, m2, q1, q2, q3, q4, kP, hkP, hkPi⟩ := Cond.selects_spec hsel
  cases hcls.symm.trans q1
  cases (State.methodFound?_of_named hnamed hy).symm.trans q2
  cases hnamed.symm.trans q3
  have hselP : selectMethod e.platform s.vm cellB.cls mk = .method mk := by rw [Launch.admits_selectMethod X.admits]; exact q4
  obtain ⟨vm₁, X₁, hstep₁⟩ := X.invokevirtual hexec hown hlink hnamed hmethM hstM hkP hkPi hy (a := b) (cell := cellB) hcell
    (fun z h => by rw [h] at hobj; cases hobj) hselP hmethM habM hkP hkPi (g := g) hg (argsL := argsL) (rest := rest) (hlen _ hsigM) hstack hdg
  obtain ⟨v, B, X', hpost, hsteps⟩ := hK m meth c ⟨T.setVm vm₁, locs, cells, slots⟩ { g with stack := rest } (.invokevirtual index) mk (Value.ref b :: argsL).toArray X₁ hg hsize hdg hW (X₁.named hnamed) (hpre vm₁ X₁.warmed)
  exact ⟨v, vm₁, B, X₁.warmed, X', hpost, fun target h => hstep₁ _ fun acts => by rw [doInvoke_state]; exact hsteps.trans h⟩
abbrev vx_CVW (R : Room) (s : State) (args : Array Value) (own C : String) (index : Nat) (y : MethodName) (bytes : ByteArray) (maxL : Nat) (ret : Option FieldType) (hh : List (Nat × Nat × Nat × Nat)) (ws : List Cond) (rm : Room) (mc ms n : Nat) : Prop :=
  (rm.cells = mc ∧ rm.slots = ms ∧ rm.frames + 1 ≤ R.frames ∧ 8 + (maxL + 11) + rm.locals ≤ R.locals ∧ (∀ w ∈ ws, ∀ (a' : Array Value) (U : State), s.WarmedH U.vm → w.before a' U = true) ∧ Cond.codeWith y bytes maxL ret hh ∈ ws) ∧
  (Cond.codeWith y bytes maxL ret hh).before args s = true ∧ (Cond.initialized y.cls).before args s = true ∧ (y.cls ≠ "java/lang/invoke/MethodHandle" ∧ y.cls ≠ "java/lang/invoke/VarHandle") ∧
  (∀ sig, parseMethodDescriptor y.desc = some sig → n = sig.parameters.length) ∧ (Cond.methodLink own index y).before args s = true ∧ (Cond.instanceMethod y).before args s = true ∧ (Cond.selects C y y).before args s = true
theorem vx_cwVW {own C : String} {index maxL mc ms : Nat} {y : MethodName} {bytes : ByteArray} {ret : Option FieldType} {hh : List (Nat × Nat × Nat × Nat)} {Ts ws ws' : List Cond} {rm : Room} (n : Nat) (ht : ∀ w ∈ Ts, w.before args s = true) (hT : GoodIn Ts (wsV own index C y ws)) (hw : ws = Cond.codeWith y bytes maxL ret hh :: ws') (hrc : rm.cells = mc) (hrs : rm.slots = ms)
    (hd : y.cls = C ∧ y.cls ≠ "java/lang/invoke/MethodHandle" ∧ y.cls ≠ "java/lang/invoke/VarHandle" ∧ (parseMethodDescriptor y.desc).map (fun d => d.parameters.length) = some n) (hR : rm.frames + 1 ≤ R.frames ∧ 8 + (maxL + 11) + rm.locals ≤ R.locals) :
    vx_CVW R s args own C index y bytes maxL ret hh ws rm mc ms n := by
  obtain ⟨hC, hd⟩ := hd
  subst hC
  have ok : ∀ w ∈ wsV own index y.cls y ws, w.before args s = true := fun w h => ht w (hT w h).1
  have hG : GoodIn Ts ws := fun w h => hT w (by unfold wsV; exact List.mem_append_right _ h)
  have hc : Cond.codeWith y bytes maxL ret hh ∈ ws := by rw [hw]; exact List.mem_cons_self
  refine ⟨⟨hrc, hrs, hR.1, hR.2, pay_in ht hG, hc⟩, ht _ (hG _ hc).1, ok _ (by simp [wsV]), ⟨hd.1, hd.2.1⟩, fun sig h => ?_, ok _ (by simp [wsV]), ok _ (by simp [wsV]), ok _ (by simp [wsV])⟩
  have h2 := hd.2.2
  rw [h] at h2
  exact (Option.some.inj h2).symm
theorem vx_runVW {y : MethodName} {bytes cc : ByteArray} {maxL nL mc ms n index : Nat} {ret : Option FieldType} {hh : List (Nat × Nat × Nat × Nat)} {ws : List Cond} {rm : Room} {Pc : Array Value → State → Prop} {Qc : Array Value → State → Outcome → State → Prop} {free : Addr → Prop} {Ts : List Cond} {own C : String} {b : Addr} {As rest : List Value} {g : JFrame}
    (S : CallFix p m c cc nL s args Ts own) (hM : Met l y ws rm Pc Qc mc ms free) (cw : vx_CVW R s args own C index y bytes maxL ret hh ws rm mc ms n) (hp : PreV s H C b Pc As)
    (hg : g.method = m) (hn : As.length = n) (hsize : g.locals.size = nL) (hstack : g.stack = As.reverse ++ .ref b :: rest) (hW : 2 * g.monitorRoom + (rest.map fun v => v.category).sum ≤ 8) (hdg : decode cc g.pc = .ok (.invokevirtual index, 3)) (hf : cells + mc ≤ R.cells ∧ slots + ms ≤ R.slots) :
    va_Run p l e R s m args below meth c H locs cells slots mc ms g rest (Qc (Value.ref b :: As).toArray) free := by
  obtain ⟨⟨hrc, hrs, hfr, hlo, hws, hcw⟩, hcode, hini, hy, hlen, hl, hin, hse⟩ := cw
  have hK : Back l R p e below s args y 3 8 (PreOf R mc ms Pc) (PostOf Qc mc ms free) := va_backW (hh := hh) (bytes := bytes) (maxL := maxL) (ret := ret) hM hp.1 hrc hrs hfr hlo hws hcw (fun a' U hW => word_at hW (Or.inl (by first | rfl | simp [Cond.onTables, Cond.keeps, Cond.steady])) hini)
  obtain ⟨hx, hb, hml, ho, -⟩ := S
  obtain ⟨-, ⟨cellB, hcB, hoB, hclB⟩, hPc⟩ := hp
  intro T hT X
  obtain ⟨v, vm₁, ⟨U', l2, c2, s2⟩, hW₁, X', ⟨g', mk, t, L, e1, e2, hq, h1, hL, h2, h3⟩, st⟩ := vx_callVW X hx (C := C) (hh := hh) (bytes := bytes) (maxL := maxL) (ret := ret) ho hl hin hse hcode hy hK (by rw [hT]; exact hcB) hoB hclB hg (hsize.trans hml.symm) (argsL := As) (rest := rest) (fun sig h => hn.trans (hlen sig h)) hstack hW (by rw [hb]; exact hdg)
    (fun vm₁ hW₁ => ⟨hf.1, hf.2, hPc (T.setVm vm₁) hT hW₁⟩)
  dsimp only [Pt.U, Pt.locs, Pt.cells, Pt.slots] at X' e1 e2 h1 h2 h3 st
  subst h1; subst h2; subst h3
  exact ⟨v, (T.setVm vm₁).calling g' mk (Value.ref b :: As).toArray, t, U', L, hT, X', hL, e1, e2, hq, st⟩
section
variable {y : MethodName} {bytes cc : ByteArray} {maxL nL mc ms n index : Nat} {ret : Option FieldType} {ws : List Cond} {rm : Room} {Pc : Array Value → State → Prop} {Qc : Array Value → State → Outcome → State → Prop} {XC : String → State → State → Prop} {free : Addr → Prop} {Ts : List Cond} {own C : String} {b : Addr} {As rest : List Value} {g : JFrame}
theorem vx_runVX {hh : List (Nat × Nat × Nat × Nat)} (S : CallFix p m c cc nL s args Ts own) (hM : vx_Met l y ws rm Pc Qc XC mc ms free) (cw : vx_CVW R s args own C index y bytes maxL ret hh ws rm mc ms n) (hp : PreV s H C b Pc As)
    (hg : g.method = m) (hn : As.length = n) (hsize : g.locals.size = nL) (hstack : g.stack = As.reverse ++ .ref b :: rest) (hW : 2 * g.monitorRoom + (rest.map fun v => v.category).sum ≤ 8) (hdg : decode cc g.pc = .ok (.invokevirtual index, 3)) (hf : cells + mc ≤ R.cells ∧ slots + ms ≤ R.slots) :
    vx_Run p l e R s m args below meth c H locs cells slots mc ms g rest (Qc (Value.ref b :: As).toArray) XC free := by
  obtain ⟨⟨hrc, hrs, hfr, hlo, hws, hcw⟩, hcode, hini, hy, hlen, hl, hin, hse⟩ := cw
  have hK : vx_Back l R p e below s args y 3 8 (PreOf R mc ms Pc) (PostOf Qc mc ms free) (vx_Post XC mc ms free) := vx_backW (hh := hh) (bytes := bytes) (maxL := maxL) (ret := ret) hM hp.1 hrc hrs hfr hlo hws hcw (fun a' U hW => word_at hW (Or.inl (by first | rfl | simp [Cond.onTables, Cond.keeps, Cond.steady])) hini)
  obtain ⟨hx, hb, hml, ho, -⟩ := S
  obtain ⟨-, ⟨cellB, hcB, hoB, hclB⟩, hPc⟩ := hp
  intro T hT X
  rcases vx_callVX X hx (C := C) (hh := hh) (bytes := bytes) (maxL := maxL) (ret := ret) ho hl hin hse hcode hy hK (by rw [hT]; exact hcB) hoB hclB hg (hsize.trans hml.symm) (argsL := As) (rest := rest) (fun sig h => hn.trans (hlen sig h)) hstack hW (by rw [hb]; exact hdg)
    (fun vm₁ hW₁ => ⟨hf.1, hf.2, hPc (T.setVm vm₁) hT hW₁⟩) with ⟨v, vm₁, ⟨U', l2, c2, s2⟩, hW₁, X', ⟨g', mk, t, L, e1, e2, hq, h1, hL, h2, h3⟩, st⟩ | ⟨q, vm₁, ⟨U', l2, c2, s2⟩, hW₁, X', ⟨g', mk, t, L, E, ce, e1, e2, hq, hce, hcv, hcl, h1, hL, h2, h3⟩, st⟩
  · dsimp only [Pt.U, Pt.locs, Pt.cells, Pt.slots] at X' e1 e2 h1 h2 h3 st
    subst h1; subst h2; subst h3
    exact Or.inl ⟨v, (T.setVm vm₁).calling g' mk (Value.ref b :: As).toArray, t, U', L, hT, X', hL, e1, e2, hq, st⟩
  · dsimp only [Pt.U, Pt.locs, Pt.cells, Pt.slots] at X' e1 e2 h1 h2 h3 st hcl
    subst h1; subst h2; subst h3
    exact Or.inr ⟨q, (T.setVm vm₁).calling g' mk (Value.ref b :: As).toArray, t, U', L, E, ce, hT, X', hL, e1, e2, hq, hce, hcv, vx_cls hW₁ hcl, st⟩
theorem vx_runSX {hh : List (Nat × Nat × Nat × Nat)} (S : CallFix p m c cc nL s args Ts own) (hM : vx_Met l y ws rm Pc Qc XC mc ms free) (cw : vx_CSW R s args own index y bytes maxL ret hh ws rm mc ms n) (hp : PreS s H Pc As)
    (hg : g.method = m) (hn : As.length = n) (hsize : g.locals.size = nL) (hstack : g.stack = As.reverse ++ rest) (hW : 2 * g.monitorRoom + (rest.map fun v => v.category).sum ≤ 8) (hdg : decode cc g.pc = .ok (.invokestatic index, 3)) (hf : cells + mc ≤ R.cells ∧ slots + ms ≤ R.slots) :
    vx_Run p l e R s m args below meth c H locs cells slots mc ms g rest (Qc As.toArray) XC free := by
  obtain ⟨⟨hrc, hrs, hfr, hlo, hws, hcw⟩, hcode, hini, hy, hlen, hl, hstt⟩ := cw
  have hK : vx_Back l R p e below s args y 3 8 (PreOf R mc ms Pc) (PostOf Qc mc ms free) (vx_Post XC mc ms free) := vx_backW (hh := hh) (bytes := bytes) (maxL := maxL) (ret := ret) hM hp.1 hrc hrs hfr hlo hws hcw (fun a' U hW => word_at hW (Or.inl (by first | rfl | simp [Cond.onTables, Cond.keeps, Cond.steady])) hini)
  obtain ⟨hx, hb, hml, ho, -⟩ := S
  intro T hT X
  rcases vx_callSX X hx (hh := hh) (bytes := bytes) (maxL := maxL) (ret := ret) ho hl hstt hini hcode hy hK hg (hsize.trans hml.symm) (argsL := As) (rest := rest) (fun sig h => hn.trans (hlen sig h)) hstack hW (by rw [hb]; exact hdg)
    (fun vm₁ hW₁ => ⟨hf.1, hf.2, hp.2 (T.setVm vm₁) hT hW₁⟩) with ⟨v, vm₁, ⟨U', l2, c2, s2⟩, hW₁, X', ⟨g', mk, t, L, e1, e2, hq, h1, hL, h2, h3⟩, st⟩ | ⟨q, vm₁, ⟨U', l2, c2, s2⟩, hW₁, X', ⟨g', mk, t, L, E, ce, e1, e2, hq, hce, hcv, hcl, h1, hL, h2, h3⟩, st⟩
  · dsimp only [Pt.U, Pt.locs, Pt.cells, Pt.slots] at X' e1 e2 h1 h2 h3 st
    subst h1; subst h2; subst h3
    exact Or.inl ⟨v, (T.setVm vm₁).calling g' mk As.toArray, t, U', L, hT, X', hL, e1, e2, hq, st⟩
  · dsimp only [Pt.U, Pt.locs, Pt.cells, Pt.slots] at X' e1 e2 h1 h2 h3 st hcl
    subst h1; subst h2; subst h3
    exact Or.inr ⟨q, (T.setVm vm₁).calling g' mk As.toArray, t, U', L, E, ce, hT, X', hL, e1, e2, hq, hce, hcv, vx_cls hW₁ hcl, st⟩
end
end VXH
theorem vx_ofWH {l : Launch} {y : MethodName} {ws ws' : List Cond} {rm : Room} {Pc : Array Value → State → Prop} {Qc : Array Value → State → Outcome → State → Prop} {XC : String → State → State → Prop} {mc ms : Nat} {free : Addr → Prop} {cc : ByteArray} {maxL : Nat} {ret : Option FieldType} {hh : List (Nat × Nat × Nat × Nat)}
    (hy : plainName y.cls = true) (hw : ws = Cond.codeWith y cc maxL ret hh :: ws')
    (body : ∀ p e s m args below meth c s₁, BodyLoose p l y (headSpec ws rm) cc maxL ret e s m args below meth c s₁ → c.maxLocals = maxL → Pc args s →
      W p l e (headSpec ws rm).room s m args below meth c s.heap [] 0 0 (vx_MQ below Qc XC args s mc ms free) (entryFrame m args maxL)) : vx_Met l y ws rm Pc Qc XC mc ms free := by
  refine MetFree.of_bodyS (code := cc) (maxLocals := maxL) (ret := ret) hy ?_ ?_
  · intro args s m h hn
    obtain ⟨m9, meth, c, hn9, h1, h2, h3, h4, -, h5, h6, -⟩ := Cond.codeWith_spec (atoms_spec (ws := ws) h _ (by rw [hw]; exact List.mem_cons_self))
    cases hn.symm.trans hn9
    exact ⟨meth, c, h1, h2, h3, h4, h5, h6⟩
  · intro p e s m args below meth c s₁ B hml hP _
    have hh0 : s₁.heap = s.heap := by rw [B.state]; rfl
    obtain ⟨t, a1, o, b1, b2, b3⟩ := body p e s m args below meth c s₁ B hml hP s₁ hh0 (Stand.of_body B)
    exact ⟨t, o, a1, b1, b2, b3⟩
/-! ===== END ===== -/
end
section
/-! what stays: the table HEAD, the statics that a new exception reads -/
def hd_ (j : Nat) : Int32 := ([192, 0, 206, 237, 102, 204, 0, 0, 0, 0, 0, 0, 0, 0, 0, 0, 1, 10, 0, 0, 1, 10, 0, 0, 1, 10, 0, 0, 1, 10, 0, 0] : List Int32).getD j 0
def fz_ (ad : Nat → Nat) (A : Nat → Prop) (U : State) (H : Heap) : Prop :=
  va_Z "CartridgeDesk$Cartridge" "HEAD" "[I" (.ref (ad 97)) A U H ∧ va_T .int (ad 97) 32 (fun j => .int (hd_ j)) A U H ∧ vx_Zq Bundle.tN "UNASSIGNED_STACK" Bundle.steD A U H ∧ vx_Zq Bundle.tN "SUPPRESSED_SENTINEL" Bundle.listD A U H
theorem fz_moved {ad : Nat → Nat} {A : Nat → Prop} {u U : State} {H : Heap} (hvm : u.vm.Alike U.vm) (h : fz_ ad A u H) : fz_ ad A U H := ⟨va_Z.moved hvm h.1, va_T.moved hvm h.2.1, vx_Zq.moved hvm h.2.2.1, vx_Zq.moved hvm h.2.2.2⟩
theorem fz_kept {ad : Nat → Nat} {A : Nat → Prop} {U : State} {H H1 : Heap} (h : fz_ ad A U H) (hq : ∀ a : Nat, a < H.size → ¬ A a → H1[a]? = H[a]?) : fz_ ad A U H1 := ⟨va_Z.kept h.1 hq, va_T.kept h.2.1 hq, vx_Zq.kept h.2.2.1 hq, vx_Zq.kept h.2.2.2 hq⟩
theorem fz_narrow {ad : Nat → Nat} {A B : Nat → Prop} {U : State} {H : Heap} (h : fz_ ad A U H) (hAB : ∀ q, B q → A q) : fz_ ad B U H := ⟨va_Z.narrow h.1 hAB, va_T.narrow h.2.1 hAB, vx_Zq.narrow h.2.2.1 hAB, vx_Zq.narrow h.2.2.2 hAB⟩
/-! go_: the machine at pc with locals lc, operands st and the world ws comes to its goal, whatever heap holds that world -/
section GoA
abbrev gt_ : Type := Program × Launch × Env × Room × State × MethodId × Array Value × List Frame × Method × Code × va_G × (Nat → Prop) × Nat × (State → Prop)
abbrev gp_ (G : gt_) : Program := G.1
abbrev gl_ (G : gt_) : Launch := G.2.1
abbrev ge_ (G : gt_) : Env := G.2.2.1
abbrev gR_ (G : gt_) : Room := G.2.2.2.1
abbrev gs_ (G : gt_) : State := G.2.2.2.2.1
abbrev gm_ (G : gt_) : MethodId := G.2.2.2.2.2.1
abbrev ga_ (G : gt_) : Array Value := G.2.2.2.2.2.2.1
abbrev gb_ (G : gt_) : List Frame := G.2.2.2.2.2.2.2.1
abbrev gh_ (G : gt_) : Method := G.2.2.2.2.2.2.2.2.1
abbrev gc_ (G : gt_) : Code := G.2.2.2.2.2.2.2.2.2.1
abbrev gD_ (G : gt_) : va_G := G.2.2.2.2.2.2.2.2.2.2.1
abbrev gA_ (G : gt_) : Nat → Prop := G.2.2.2.2.2.2.2.2.2.2.2.1
abbrev gn_ (G : gt_) : Nat := G.2.2.2.2.2.2.2.2.2.2.2.2.1
abbrev gQ_ (G : gt_) : State → Prop := G.2.2.2.2.2.2.2.2.2.2.2.2.2
/-- the array classes: int[] is ad 99, long[] is ad 98 -/
abbrev ty_ (ad : Nat → Nat) : List (ClassId × FieldType) := [(ad 99, .int), (ad 98, .long)]
def go_ (G : gt_) (cells slots : Nat) (ws : va_W) (pc : Nat) (lc : List (Nat × Value)) (st : List Value) : Prop :=
  ∀ (H : Heap) (locs : List Loc) (ls : Array Slot), lv_has ls (gn_ G) lc → va_P (gD_ G) vwCl ws H → va_D (gA_ G) ws → va_S (gA_ G) (gs_ G).heap H locs →
    W (gp_ G) (gl_ G) (ge_ G) (gR_ G) (gs_ G) (gm_ G) (ga_ G) (gb_ G) (gh_ G) (gc_ G) H locs cells slots (gQ_ G) (F0 (gm_ G) pc ls st)
/-- what a walk stands on: the machine, the code cc, the name own, the words, the classes, what it may write, what stays (fz_), its room -/
def cx_ (G : gt_) (ad : Nat → Nat) (cc : ByteArray) (own : String) (fr lo n : Nat) : Prop :=
  (gp_ G).tables.exec = Jvm.exec ∧ (gc_ G).code = cc ∧ (gc_ G).maxLocals = n ∧ gn_ G = n ∧ (gs_ G).vm.findClass own = some (gm_ G).cls ∧ (∀ w ∈ wS, w.before (ga_ G) (gs_ G) = true) ∧
  va_K (gD_ G) vwCl (ty_ ad) (gs_ G) ∧ (∀ q, (gs_ G).heap.size ≤ q → gA_ G q) ∧ fz_ ad (gA_ G) (gs_ G) (gs_ G).heap ∧ fr ≤ (gR_ G).frames ∧ lo ≤ (gR_ G).locals
variable {G : gt_} {ad : Nat → Nat} {cc : ByteArray} {own : String} {fr lo n cells slots : Nat} {ws ws' : va_W} {pc : Nat} {lc lc' : List (Nat × Value)} {rest : List Value}
theorem cx_x (X : cx_ G ad cc own fr lo n) : (gp_ G).tables.exec = Jvm.exec := X.1
theorem cx_b (X : cx_ G ad cc own fr lo n) : (gc_ G).code = cc := X.2.1
theorem cx_m (X : cx_ G ad cc own fr lo n) : (gc_ G).maxLocals = n := X.2.2.1
theorem cx_n (X : cx_ G ad cc own fr lo n) : gn_ G = n := X.2.2.2.1
theorem cx_o (X : cx_ G ad cc own fr lo n) : (gs_ G).vm.findClass own = some (gm_ G).cls := X.2.2.2.2.1
theorem cx_w (X : cx_ G ad cc own fr lo n) : ∀ w ∈ wS, w.before (ga_ G) (gs_ G) = true := X.2.2.2.2.2.1
theorem cx_K (X : cx_ G ad cc own fr lo n) : va_K (gD_ G) vwCl (ty_ ad) (gs_ G) := X.2.2.2.2.2.2.1
theorem cx_A (X : cx_ G ad cc own fr lo n) : ∀ q, (gs_ G).heap.size ≤ q → gA_ G q := X.2.2.2.2.2.2.2.1
theorem cx_F (X : cx_ G ad cc own fr lo n) : fz_ ad (gA_ G) (gs_ G) (gs_ G).heap := X.2.2.2.2.2.2.2.2.1
theorem cx_f (X : cx_ G ad cc own fr lo n) : fr ≤ (gR_ G).frames := X.2.2.2.2.2.2.2.2.2.1
theorem cx_l (X : cx_ G ad cc own fr lo n) : lo ≤ (gR_ G).locals := X.2.2.2.2.2.2.2.2.2.2
theorem go_w (e : ws = ws') (k : go_ G cells slots ws' pc lc rest) : go_ G cells slots ws pc lc rest := e ▸ k
theorem go_lc (ks : List Nat) (e : lv_pick lc ks = lc') (k : go_ G cells slots ws pc lc' rest) : go_ G cells slots ws pc lc rest := fun H locs ls hl hP hD hS => k H locs ls (lv_sub hl ks e) hP hD hS
theorem go_iconst (X : cx_ G ad cc own fr lo n) {z : Int} {v : Int32} (d : decode cc pc = .ok (.iconst z, 1)) (hv : Int32.ofInt z = v)
    (k : go_ G cells slots ws (pc + 1) lc (.int v :: rest)) : go_ G cells slots ws pc lc (rest) := fun H locs ls hl hP hD hS => lv_iconst (cx_x X) (cx_b X) d hv (k H locs ls hl hP hD hS)
theorem go_bipush (X : cx_ G ad cc own fr lo n) {z : Int} {v : Int32} (d : decode cc pc = .ok (.bipush z, 2)) (hv : (Int8.ofInt z).toInt32 = v)
    (k : go_ G cells slots ws (pc + 2) lc (.int v :: rest)) : go_ G cells slots ws pc lc (rest) := fun H locs ls hl hP hD hS => lv_bipush (cx_x X) (cx_b X) d hv (k H locs ls hl hP hD hS)
theorem go_sipush (X : cx_ G ad cc own fr lo n) {z : Int} {v : Int32} (d : decode cc pc = .ok (.sipush z, 3)) (hv : (Int16.ofInt z).toInt32 = v)
    (k : go_ G cells slots ws (pc + 3) lc (.int v :: rest)) : go_ G cells slots ws pc lc (rest) := fun H locs ls hl hP hD hS => lv_sipush (cx_x X) (cx_b X) d hv (k H locs ls hl hP hD hS)
theorem go_iload_n (X : cx_ G ad cc own fr lo n) {q : Fin 4} {i : Nat} {x : Int32} (j : Nat) (d : decode cc pc = .ok (.iload_n q, 1)) (hi : (q : Nat) = i) (hj : lc[j]? = some (i, .int x))
    (k : go_ G cells slots ws (pc + 1) lc (.int x :: rest)) : go_ G cells slots ws pc lc (rest) := fun H locs ls hl hP hD hS => lv_iload_n (cx_x X) (cx_b X) d hi (lv_at hl j hj) (k H locs ls hl hP hD hS)
theorem go_iload (X : cx_ G ad cc own fr lo n) {i : Nat} {x : Int32} (j : Nat) (d : decode cc pc = .ok (.iload i, 2)) (hj : lc[j]? = some (i, .int x))
    (k : go_ G cells slots ws (pc + 2) lc (.int x :: rest)) : go_ G cells slots ws pc lc (rest) := fun H locs ls hl hP hD hS => lv_iload (cx_x X) (cx_b X) d (lv_at hl j hj) (k H locs ls hl hP hD hS)
theorem go_istore_n (X : cx_ G ad cc own fr lo n) {q : Fin 4} {i : Nat} {x : Int32} (d : decode cc pc = .ok (.istore_n q, 1)) (hi : (q : Nat) = i) (hn : i < n) (e : (i, Value.int x) :: lc.filter (fun q => !(q.1 == i) && !(q.1 + 1 == i && q.2.category == 2)) = lc')
    (k : go_ G cells slots ws (pc + 1) lc' rest) : go_ G cells slots ws pc lc (.int x :: rest) := fun H locs ls hl hP hD hS => lv_istore_n (cx_x X) (cx_b X) d hi hl (by rw [cx_n X]; exact hn) e (fun ls' hl' => k H locs ls' hl' hP hD hS)
theorem go_istore (X : cx_ G ad cc own fr lo n) {i : Nat} {x : Int32} (d : decode cc pc = .ok (.istore i, 2)) (hn : i < n) (e : (i, Value.int x) :: lc.filter (fun q => !(q.1 == i) && !(q.1 + 1 == i && q.2.category == 2)) = lc')
    (k : go_ G cells slots ws (pc + 2) lc' rest) : go_ G cells slots ws pc lc (.int x :: rest) := fun H locs ls hl hP hD hS => lv_istore (cx_x X) (cx_b X) d hl (by rw [cx_n X]; exact hn) e (fun ls' hl' => k H locs ls' hl' hP hD hS)
theorem go_aload_n (X : cx_ G ad cc own fr lo n) {q : Fin 4} {i : Nat} {x : Nat} (j : Nat) (d : decode cc pc = .ok (.aload_n q, 1)) (hi : (q : Nat) = i) (hj : lc[j]? = some (i, .ref x))
    (k : go_ G cells slots ws (pc + 1) lc (.ref x :: rest)) : go_ G cells slots ws pc lc (rest) := fun H locs ls hl hP hD hS => lv_aload_n (cx_x X) (cx_b X) d hi (lv_at hl j hj) (k H locs ls hl hP hD hS)
theorem go_aload (X : cx_ G ad cc own fr lo n) {i : Nat} {x : Nat} (j : Nat) (d : decode cc pc = .ok (.aload i, 2)) (hj : lc[j]? = some (i, .ref x))
    (k : go_ G cells slots ws (pc + 2) lc (.ref x :: rest)) : go_ G cells slots ws pc lc (rest) := fun H locs ls hl hP hD hS => lv_aload (cx_x X) (cx_b X) d (lv_at hl j hj) (k H locs ls hl hP hD hS)
theorem go_astore_n (X : cx_ G ad cc own fr lo n) {q : Fin 4} {i : Nat} {x : Nat} (d : decode cc pc = .ok (.astore_n q, 1)) (hi : (q : Nat) = i) (hn : i < n) (e : (i, Value.ref x) :: lc.filter (fun q => !(q.1 == i) && !(q.1 + 1 == i && q.2.category == 2)) = lc')
    (k : go_ G cells slots ws (pc + 1) lc' rest) : go_ G cells slots ws pc lc (.ref x :: rest) := fun H locs ls hl hP hD hS => lv_astore_n (cx_x X) (cx_b X) d hi hl (by rw [cx_n X]; exact hn) e (fun ls' hl' => k H locs ls' hl' hP hD hS)
theorem go_astore (X : cx_ G ad cc own fr lo n) {i : Nat} {x : Nat} (d : decode cc pc = .ok (.astore i, 2)) (hn : i < n) (e : (i, Value.ref x) :: lc.filter (fun q => !(q.1 == i) && !(q.1 + 1 == i && q.2.category == 2)) = lc')
    (k : go_ G cells slots ws (pc + 2) lc' rest) : go_ G cells slots ws pc lc (.ref x :: rest) := fun H locs ls hl hP hD hS => lv_astore (cx_x X) (cx_b X) d hl (by rw [cx_n X]; exact hn) e (fun ls' hl' => k H locs ls' hl' hP hD hS)
theorem go_iinc (X : cx_ G ad cc own fr lo n) {i : Nat} {z : Int} {x v : Int32} (j : Nat) (d : decode cc pc = .ok (.iinc i z, 3)) (hj : lc[j]? = some (i, .int x)) (hv : x + Int32.ofInt z = v) (hn : i < n) (e : (i, Value.int v) :: lc.filter (fun q => !(q.1 == i) && !(q.1 + 1 == i && q.2.category == 2)) = lc')
    (k : go_ G cells slots ws (pc + 3) lc' rest) : go_ G cells slots ws pc lc rest := fun H locs ls hl hP hD hS => lv_iinc (cx_x X) (cx_b X) d hl hj hv (by rw [cx_n X]; exact hn) e (fun ls' hl' => k H locs ls' hl' hP hD hS)
theorem go_iadd (X : cx_ G ad cc own fr lo n) {x y : Int32} (d : decode cc pc = .ok (.iadd, 1))
    (k : go_ G cells slots ws (pc + 1) lc (.int (x + y) :: rest)) : go_ G cells slots ws pc lc (.int y :: .int x :: rest) := fun H locs ls hl hP hD hS => lv_iadd (cx_x X) (cx_b X) d (k H locs ls hl hP hD hS)
theorem go_isub (X : cx_ G ad cc own fr lo n) {x y : Int32} (d : decode cc pc = .ok (.isub, 1))
    (k : go_ G cells slots ws (pc + 1) lc (.int (x - y) :: rest)) : go_ G cells slots ws pc lc (.int y :: .int x :: rest) := fun H locs ls hl hP hD hS => lv_isub (cx_x X) (cx_b X) d (k H locs ls hl hP hD hS)
theorem go_imul (X : cx_ G ad cc own fr lo n) {x y : Int32} (d : decode cc pc = .ok (.imul, 1))
    (k : go_ G cells slots ws (pc + 1) lc (.int (x * y) :: rest)) : go_ G cells slots ws pc lc (.int y :: .int x :: rest) := fun H locs ls hl hP hD hS => lv_imul (cx_x X) (cx_b X) d (k H locs ls hl hP hD hS)
theorem go_iand (X : cx_ G ad cc own fr lo n) {x y : Int32} (d : decode cc pc = .ok (.iand, 1))
    (k : go_ G cells slots ws (pc + 1) lc (.int (x &&& y) :: rest)) : go_ G cells slots ws pc lc (.int y :: .int x :: rest) := fun H locs ls hl hP hD hS => lv_iand (cx_x X) (cx_b X) d (k H locs ls hl hP hD hS)
theorem go_ior (X : cx_ G ad cc own fr lo n) {x y : Int32} (d : decode cc pc = .ok (.ior, 1))
    (k : go_ G cells slots ws (pc + 1) lc (.int (x ||| y) :: rest)) : go_ G cells slots ws pc lc (.int y :: .int x :: rest) := fun H locs ls hl hP hD hS => lv_ior (cx_x X) (cx_b X) d (k H locs ls hl hP hD hS)
theorem go_ixor (X : cx_ G ad cc own fr lo n) {x y : Int32} (d : decode cc pc = .ok (.ixor, 1))
    (k : go_ G cells slots ws (pc + 1) lc (.int (x ^^^ y) :: rest)) : go_ G cells slots ws pc lc (.int y :: .int x :: rest) := fun H locs ls hl hP hD hS => lv_ixor (cx_x X) (cx_b X) d (k H locs ls hl hP hD hS)
theorem go_ishl (X : cx_ G ad cc own fr lo n) {x y : Int32} (d : decode cc pc = .ok (.ishl, 1))
    (k : go_ G cells slots ws (pc + 1) lc (.int (x <<< (y &&& 31)) :: rest)) : go_ G cells slots ws pc lc (.int y :: .int x :: rest) := fun H locs ls hl hP hD hS => lv_ishl (cx_x X) (cx_b X) d (k H locs ls hl hP hD hS)
theorem go_ishr (X : cx_ G ad cc own fr lo n) {x y : Int32} (d : decode cc pc = .ok (.ishr, 1))
    (k : go_ G cells slots ws (pc + 1) lc (.int (x >>> (y &&& 31)) :: rest)) : go_ G cells slots ws pc lc (.int y :: .int x :: rest) := fun H locs ls hl hP hD hS => lv_ishr (cx_x X) (cx_b X) d (k H locs ls hl hP hD hS)
theorem go_idiv (X : cx_ G ad cc own fr lo n) {x y : Int32} (d : decode cc pc = .ok (.idiv, 1)) (h0 : ¬ y = 0)
    (k : go_ G cells slots ws (pc + 1) lc (.int (x / y) :: rest)) : go_ G cells slots ws pc lc (.int y :: .int x :: rest) := fun H locs ls hl hP hD hS => lv_idiv (cx_x X) (cx_b X) d h0 (k H locs ls hl hP hD hS)
theorem go_irem (X : cx_ G ad cc own fr lo n) {x y : Int32} (d : decode cc pc = .ok (.irem, 1)) (h0 : ¬ y = 0)
    (k : go_ G cells slots ws (pc + 1) lc (.int (x - x / y * y) :: rest)) : go_ G cells slots ws pc lc (.int y :: .int x :: rest) := fun H locs ls hl hP hD hS => lv_irem (cx_x X) (cx_b X) d h0 (k H locs ls hl hP hD hS)
theorem go_ineg (X : cx_ G ad cc own fr lo n) {x : Int32} (d : decode cc pc = .ok (.ineg, 1))
    (k : go_ G cells slots ws (pc + 1) lc (.int (-x) :: rest)) : go_ G cells slots ws pc lc (.int x :: rest) := fun H locs ls hl hP hD hS => lv_ineg (cx_x X) (cx_b X) d (k H locs ls hl hP hD hS)
theorem go_i2l (X : cx_ G ad cc own fr lo n) {x : Int32} (d : decode cc pc = .ok (.i2l, 1))
    (k : go_ G cells slots ws (pc + 1) lc (.long x.toInt64 :: rest)) : go_ G cells slots ws pc lc (.int x :: rest) := fun H locs ls hl hP hD hS => lv_i2l (cx_x X) (cx_b X) d rfl (k H locs ls hl hP hD hS)
theorem go_lcmp (X : cx_ G ad cc own fr lo n) {x y : Int64} (d : decode cc pc = .ok (.lcmp, 1))
    (k : go_ G cells slots ws (pc + 1) lc (.int (lg_cmp x y) :: rest)) : go_ G cells slots ws pc lc (.long y :: .long x :: rest) := fun H locs ls hl hP hD hS => W.lcmp (cx_x X) (cx_b X) d (k H locs ls hl hP hD hS)
theorem go_dup (X : cx_ G ad cc own fr lo n) {v : Value} (d : decode cc pc = .ok (.dup, 1)) (h1 : v.category = 1)
    (k : go_ G cells slots ws (pc + 1) lc (v :: v :: rest)) : go_ G cells slots ws pc lc (v :: rest) := fun H locs ls hl hP hD hS => lv_dup (cx_x X) (cx_b X) d h1 (k H locs ls hl hP hD hS)
theorem go_pop (X : cx_ G ad cc own fr lo n) {v : Value} (d : decode cc pc = .ok (.pop, 1)) (h1 : v.category = 1)
    (k : go_ G cells slots ws (pc + 1) lc (rest)) : go_ G cells slots ws pc lc (v :: rest) := fun H locs ls hl hP hD hS => lv_pop (cx_x X) (cx_b X) d h1 (k H locs ls hl hP hD hS)
theorem go_dup2 (X : cx_ G ad cc own fr lo n) {v u : Value} (d : decode cc pc = .ok (.dup2, 1)) (h1 : v.category = 1) (h2 : u.category = 1)
    (k : go_ G cells slots ws (pc + 1) lc (v :: u :: v :: u :: rest)) : go_ G cells slots ws pc lc (v :: u :: rest) := fun H locs ls hl hP hD hS => lv_dup2_11 (cx_x X) (cx_b X) d h1 h2 (k H locs ls hl hP hD hS)
theorem go_dup_x1 (X : cx_ G ad cc own fr lo n) {v u : Value} (d : decode cc pc = .ok (.dup_x1, 1)) (h1 : v.category = 1) (h2 : u.category = 1)
    (k : go_ G cells slots ws (pc + 1) lc (v :: u :: v :: rest)) : go_ G cells slots ws pc lc (v :: u :: rest) := fun H locs ls hl hP hD hS => lv_dup_x1 (cx_x X) (cx_b X) d h1 h2 (k H locs ls hl hP hD hS)
theorem go_dup_x2 (X : cx_ G ad cc own fr lo n) {v u z : Value} (d : decode cc pc = .ok (.dup_x2, 1)) (h1 : v.category = 1) (h2 : u.category = 1) (h3 : z.category = 1)
    (k : go_ G cells slots ws (pc + 1) lc (v :: u :: z :: v :: rest)) : go_ G cells slots ws pc lc (v :: u :: z :: rest) := fun H locs ls hl hP hD hS => lv_dup_x2 (cx_x X) (cx_b X) d h1 h2 h3 (k H locs ls hl hP hD hS)
theorem go_if_eq (X : cx_ G ad cc own fr lo n) {x : Int32} {off : Int} {tgt : Nat} (d : decode cc pc = .ok (.ifCond .eq off, 3)) (ht : (pc : Int) + off = (tgt : Int))
    (kt : x = 0 → go_ G cells slots ws tgt lc rest) (kf : ¬ x = 0 → go_ G cells slots ws (pc + 3) lc rest) : go_ G cells slots ws pc lc (.int x :: rest) := fun H locs ls hl hP hD hS => lv_if_eq (cx_x X) (cx_b X) d ht (fun h => kt h H locs ls hl hP hD hS) (fun h => kf h H locs ls hl hP hD hS)
theorem go_icmp_eq (X : cx_ G ad cc own fr lo n) {x y : Int32} {off : Int} {tgt : Nat} (d : decode cc pc = .ok (.if_icmp .eq off, 3)) (ht : (pc : Int) + off = (tgt : Int))
    (kt : x = y → go_ G cells slots ws tgt lc rest) (kf : ¬ x = y → go_ G cells slots ws (pc + 3) lc rest) : go_ G cells slots ws pc lc (.int y :: .int x :: rest) := fun H locs ls hl hP hD hS => lv_icmp_eq (cx_x X) (cx_b X) d ht (fun h => kt h H locs ls hl hP hD hS) (fun h => kf h H locs ls hl hP hD hS)
theorem go_if_ne (X : cx_ G ad cc own fr lo n) {x : Int32} {off : Int} {tgt : Nat} (d : decode cc pc = .ok (.ifCond .ne off, 3)) (ht : (pc : Int) + off = (tgt : Int))
    (kt : ¬ x = 0 → go_ G cells slots ws tgt lc rest) (kf : x = 0 → go_ G cells slots ws (pc + 3) lc rest) : go_ G cells slots ws pc lc (.int x :: rest) := fun H locs ls hl hP hD hS => lv_if_ne (cx_x X) (cx_b X) d ht (fun h => kt h H locs ls hl hP hD hS) (fun h => kf h H locs ls hl hP hD hS)
theorem go_icmp_ne (X : cx_ G ad cc own fr lo n) {x y : Int32} {off : Int} {tgt : Nat} (d : decode cc pc = .ok (.if_icmp .ne off, 3)) (ht : (pc : Int) + off = (tgt : Int))
    (kt : ¬ x = y → go_ G cells slots ws tgt lc rest) (kf : x = y → go_ G cells slots ws (pc + 3) lc rest) : go_ G cells slots ws pc lc (.int y :: .int x :: rest) := fun H locs ls hl hP hD hS => lv_icmp_ne (cx_x X) (cx_b X) d ht (fun h => kt h H locs ls hl hP hD hS) (fun h => kf h H locs ls hl hP hD hS)
theorem go_if_lt (X : cx_ G ad cc own fr lo n) {x : Int32} {off : Int} {tgt : Nat} (d : decode cc pc = .ok (.ifCond .lt off, 3)) (ht : (pc : Int) + off = (tgt : Int))
    (kt : x < 0 → go_ G cells slots ws tgt lc rest) (kf : ¬ x < 0 → go_ G cells slots ws (pc + 3) lc rest) : go_ G cells slots ws pc lc (.int x :: rest) := fun H locs ls hl hP hD hS => lv_if_lt (cx_x X) (cx_b X) d ht (fun h => kt h H locs ls hl hP hD hS) (fun h => kf h H locs ls hl hP hD hS)
theorem go_icmp_lt (X : cx_ G ad cc own fr lo n) {x y : Int32} {off : Int} {tgt : Nat} (d : decode cc pc = .ok (.if_icmp .lt off, 3)) (ht : (pc : Int) + off = (tgt : Int))
    (kt : x < y → go_ G cells slots ws tgt lc rest) (kf : ¬ x < y → go_ G cells slots ws (pc + 3) lc rest) : go_ G cells slots ws pc lc (.int y :: .int x :: rest) := fun H locs ls hl hP hD hS => lv_icmp_lt (cx_x X) (cx_b X) d ht (fun h => kt h H locs ls hl hP hD hS) (fun h => kf h H locs ls hl hP hD hS)
theorem go_if_ge (X : cx_ G ad cc own fr lo n) {x : Int32} {off : Int} {tgt : Nat} (d : decode cc pc = .ok (.ifCond .ge off, 3)) (ht : (pc : Int) + off = (tgt : Int))
    (kt : 0 ≤ x → go_ G cells slots ws tgt lc rest) (kf : ¬ 0 ≤ x → go_ G cells slots ws (pc + 3) lc rest) : go_ G cells slots ws pc lc (.int x :: rest) := fun H locs ls hl hP hD hS => lv_if_ge (cx_x X) (cx_b X) d ht (fun h => kt h H locs ls hl hP hD hS) (fun h => kf h H locs ls hl hP hD hS)
theorem go_icmp_ge (X : cx_ G ad cc own fr lo n) {x y : Int32} {off : Int} {tgt : Nat} (d : decode cc pc = .ok (.if_icmp .ge off, 3)) (ht : (pc : Int) + off = (tgt : Int))
    (kt : y ≤ x → go_ G cells slots ws tgt lc rest) (kf : ¬ y ≤ x → go_ G cells slots ws (pc + 3) lc rest) : go_ G cells slots ws pc lc (.int y :: .int x :: rest) := fun H locs ls hl hP hD hS => lv_icmp_ge (cx_x X) (cx_b X) d ht (fun h => kt h H locs ls hl hP hD hS) (fun h => kf h H locs ls hl hP hD hS)
theorem go_if_gt (X : cx_ G ad cc own fr lo n) {x : Int32} {off : Int} {tgt : Nat} (d : decode cc pc = .ok (.ifCond .gt off, 3)) (ht : (pc : Int) + off = (tgt : Int))
    (kt : 0 < x → go_ G cells slots ws tgt lc rest) (kf : ¬ 0 < x → go_ G cells slots ws (pc + 3) lc rest) : go_ G cells slots ws pc lc (.int x :: rest) := fun H locs ls hl hP hD hS => lv_if_gt (cx_x X) (cx_b X) d ht (fun h => kt h H locs ls hl hP hD hS) (fun h => kf h H locs ls hl hP hD hS)
theorem go_icmp_gt (X : cx_ G ad cc own fr lo n) {x y : Int32} {off : Int} {tgt : Nat} (d : decode cc pc = .ok (.if_icmp .gt off, 3)) (ht : (pc : Int) + off = (tgt : Int))
    (kt : y < x → go_ G cells slots ws tgt lc rest) (kf : ¬ y < x → go_ G cells slots ws (pc + 3) lc rest) : go_ G cells slots ws pc lc (.int y :: .int x :: rest) := fun H locs ls hl hP hD hS => lv_icmp_gt (cx_x X) (cx_b X) d ht (fun h => kt h H locs ls hl hP hD hS) (fun h => kf h H locs ls hl hP hD hS)
theorem go_if_le (X : cx_ G ad cc own fr lo n) {x : Int32} {off : Int} {tgt : Nat} (d : decode cc pc = .ok (.ifCond .le off, 3)) (ht : (pc : Int) + off = (tgt : Int))
    (kt : x ≤ 0 → go_ G cells slots ws tgt lc rest) (kf : ¬ x ≤ 0 → go_ G cells slots ws (pc + 3) lc rest) : go_ G cells slots ws pc lc (.int x :: rest) := fun H locs ls hl hP hD hS => lv_if_le (cx_x X) (cx_b X) d ht (fun h => kt h H locs ls hl hP hD hS) (fun h => kf h H locs ls hl hP hD hS)
theorem go_icmp_le (X : cx_ G ad cc own fr lo n) {x y : Int32} {off : Int} {tgt : Nat} (d : decode cc pc = .ok (.if_icmp .le off, 3)) (ht : (pc : Int) + off = (tgt : Int))
    (kt : x ≤ y → go_ G cells slots ws tgt lc rest) (kf : ¬ x ≤ y → go_ G cells slots ws (pc + 3) lc rest) : go_ G cells slots ws pc lc (.int y :: .int x :: rest) := fun H locs ls hl hP hD hS => lv_icmp_le (cx_x X) (cx_b X) d ht (fun h => kt h H locs ls hl hP hD hS) (fun h => kf h H locs ls hl hP hD hS)
theorem go_goto (X : cx_ G ad cc own fr lo n) {off : Int} {tgt : Nat} (d : decode cc pc = .ok (.goto off, 3)) (ht : (pc : Int) + off = (tgt : Int)) (k : go_ G cells slots ws tgt lc rest) : go_ G cells slots ws pc lc rest := fun H locs ls hl hP hD hS => lv_goto (cx_x X) (cx_b X) d ht (k H locs ls hl hP hD hS)
theorem go_lookup (X : cx_ G ad cc own fr lo n) {dflt : Int} {ps : Array (Int × Int)} {len : Nat} {x : Int32} {off : Int} {tgt : Nat} (d : decode cc pc = .ok (.lookupswitch dflt ps, len)) (hp : (ps.toList.zip (ps.toList.drop 1)).all (fun (a, next) => a.1 < next.1) = true) (ho : Op.lookupswitch.offset ps.toList dflt x.toInt = off) (ht : (pc : Int) + off = (tgt : Int))
    (k : go_ G cells slots ws tgt lc rest) : go_ G cells slots ws pc lc (.int x :: rest) := fun H locs ls hl hP hD hS => lv_lookup (cx_x X) (cx_b X) d hp ho ht (k H locs ls hl hP hD hS)
theorem go_tout (X : cx_ G ad cc own fr lo n) {dflt lo hi : Int} {offs : Array Int} {len : Nat} {x : Int32} {tgt : Nat} (d : decode cc pc = .ok (.tableswitch dflt lo hi offs, len)) (h : x.toInt < lo ∨ hi < x.toInt) (ht : (pc : Int) + dflt = (tgt : Int))
    (k : go_ G cells slots ws tgt lc rest) : go_ G cells slots ws pc lc (.int x :: rest) := fun H locs ls hl hP hD hS => lv_tableOut (cx_x X) (cx_b X) d h ht (k H locs ls hl hP hD hS)
theorem go_tin (X : cx_ G ad cc own fr lo n) {dflt lo hi : Int} {offs : Array Int} {len : Nat} {x : Int32} (v : Int32) {off : Int} {tgt : Nat} (d : decode cc pc = .ok (.tableswitch dflt lo hi offs, len)) (e : x = v) (h1 : ¬ v.toInt < lo) (h2 : ¬ hi < v.toInt) (ho : offs[(v.toInt - lo).toNat]? = some off) (ht : (pc : Int) + off = (tgt : Int))
    (k : go_ G cells slots ws tgt lc rest) : go_ G cells slots ws pc lc (.int x :: rest) := fun H locs ls hl hP hD hS => lv_tableIn (cx_x X) (cx_b X) d (by rw [e]; exact h1) (by rw [e]; exact h2) (by rw [e]; exact ho) ht (k H locs ls hl hP hD hS)
theorem go_neT {x v : Int32} {z : Int} (h : ¬ x = v) (hz : v.toInt = z) : ¬ x.toInt = z := fun q => h (Int32.toInt_inj.mp (q.trans hz.symm))
/-- a field is read -/
theorem go_get (X : cx_ G ad cc own fr lo n) {ref C : String} {T : u_T} {N ci index a : Nat} (hin : ∀ w ∈ u_ws C T N, w ∈ wS) (q0 : Nat) {fs : List Value} (he : ws[q0]? = some (a, .inr (ci, fs))) (hc : vwCl[ci]? = some (C, T, N)) (k : Nat) (hk : k < N) (hl : Cond.fieldLink own index ref (T k).2.1 (T k).2.2.1 ∈ wS) (hr : (T k).1 = ref) {v : Value} (hv : fs[k]? = some v) (d : decode cc pc = .ok (.getfield index, 3))
    (kk : go_ G cells slots ws (pc + 3) lc (v :: rest)) : go_ G cells slots ws pc lc (.ref a :: rest) := fun H locs ls hls hP hD hS => va_get (cx_x X) (cx_b X) (cx_w X) hin (cx_o X) (cx_K X) hP q0 he hc k hk (cx_w X _ hl) (fun x h => by rw [← hr]; exact h) hv d (kk H locs ls hls hP hD hS)
/-- a field is written -/
theorem go_put (X : cx_ G ad cc own fr lo n) {ref C : String} {T : u_T} {N ci index a : Nat} (hin : ∀ w ∈ u_ws C T N, w ∈ wS) (ty0 : Nat → FieldType) (hty : ∀ k, k < N → parseFieldDescriptor (T k).2.2.1 = some (ty0 k)) (hnm : ∀ a, a < N → ∀ b, b < N → a ≠ b → (T a).2.1 ≠ (T b).2.1) (q0 : Nat) {fs : List Value} (he : ws[q0]? = some (a, .inr (ci, fs))) (hc : vwCl[ci]? = some (C, T, N)) (k : Nat) (hk : k < N) (hl : Cond.fieldLink own index ref (T k).2.1 (T k).2.2.1 ∈ wS) (hr : (T k).1 = ref) (hfin : (T k).2.2.2 = false) {ty : FieldType} {v : Value} (hd : parseFieldDescriptor (T k).2.2.1 = some ty) (hn : narrow ty v = v) (hfit : fits ty v = true) (hlen : k < fs.length) (e : ws.set q0 (a, .inr (ci, fs.set k v)) = ws') (d : decode cc pc = .ok (.putfield index, 3))
    (kk : go_ G cells slots ws' (pc + 3) lc rest) : go_ G cells slots ws pc lc (v :: .ref a :: rest) := fun H locs ls hls hP hD hS => va_put (cx_x X) (cx_b X) (cx_w X) hin ty0 hty hnm (cx_o X) (cx_K X) hP hD hS q0 he hc k hk (cx_w X _ hl) (fun x h => by rw [← hr]; exact h) hfin hd hn hfit hlen d (fun H1 locs1 hP1 hD1 hS1 => kk H1 locs1 ls hls (e ▸ hP1) (e ▸ hD1) hS1)
/-- an int[] is read, written -/
theorem go_iald (X : cx_ G ad cc own fr lo n) {a N : Nat} {f : Nat → Int32} (q0 : Nat) (ha : ws[q0]? = some (a, .inl (ad 99, N, .inl f))) {i : Int32} (hin : vp_in i N) (d : decode cc pc = .ok (.iaload, 1))
    (kk : go_ G cells slots ws (pc + 1) lc (.int (f i.toNatClampNeg) :: rest)) : go_ G cells slots ws pc lc (.int i :: .ref a :: rest) := fun H locs ls hls hP hD hS => va_iald (cx_x X) (cx_b X) (cx_K X) hP q0 0 ha rfl hin d (kk H locs ls hls hP hD hS)
theorem go_iast (X : cx_ G ad cc own fr lo n) {a N : Nat} {f : Nat → Int32} (q0 : Nat) (ha : ws[q0]? = some (a, .inl (ad 99, N, .inl f))) {i x : Int32} (hin : vp_in i N) (e : ws.set q0 (a, .inl (ad 99, N, .inl (upd f i.toNatClampNeg x))) = ws') (d : decode cc pc = .ok (.iastore, 1))
    (kk : go_ G cells slots ws' (pc + 1) lc rest) : go_ G cells slots ws pc lc (.int x :: .int i :: .ref a :: rest) := fun H locs ls hls hP hD hS => va_iast (cx_x X) (cx_b X) (cx_K X) hP hD hS q0 0 ha rfl hin d (fun H1 locs1 hP1 hD1 hS1 => kk H1 locs1 ls hls (e ▸ hP1) (e ▸ hD1) hS1)
theorem go_alen (X : cx_ G ad cc own fr lo n) {a N : Nat} {f : Nat → Int32} (q0 : Nat) (ha : ws[q0]? = some (a, .inl (ad 99, N, .inl f))) {v : Int32} (hv : Int32.ofNat N = v) (d : decode cc pc = .ok (.arraylength, 1))
    (kk : go_ G cells slots ws (pc + 1) lc (.int v :: rest)) : go_ G cells slots ws pc lc (.ref a :: rest) := fun H locs ls hls hP hD hS => va_alen (cx_x X) (cx_b X) (cx_K X) hP q0 0 ha rfl hv d (kk H locs ls hls hP hD hS)
/-- the table HEAD -/
theorem go_head (X : cx_ G ad cc own fr lo n) {index : Nat} (hl : Cond.fieldLink own index "CartridgeDesk$Cartridge" "HEAD" "[I" ∈ wS) (d : decode cc pc = .ok (.getstatic index, 3))
    (kk : go_ G cells slots ws (pc + 3) lc (.ref (ad 97) :: rest)) : go_ G cells slots ws pc lc rest := fun H locs ls hls hP hD hS => va_gets (cx_x X) (cx_b X) (cx_F X).1 hS (cx_o X) (cx_w X _ hl) (fun _ h => h) d (kk H locs ls hls hP hD hS)
theorem go_hald (X : cx_ G ad cc own fr lo n) {i : Int32} (hin : vp_in i 32) (d : decode cc pc = .ok (.iaload, 1))
    (kk : go_ G cells slots ws (pc + 1) lc (.int (hd_ i.toNatClampNeg) :: rest)) : go_ G cells slots ws pc lc (.int i :: .ref (ad 97) :: rest) := fun H locs ls hls hP hD hS => va_ti (cx_x X) (cx_b X) (cx_F X).2.1 hS hin rfl d (kk H locs ls hls hP hD hS)
theorem go_ldc (X : cx_ G ad cc own fr lo n) {index : Nat} {v : Int32} (hl : Cond.constant own index v ∈ wS) (d : decode cc pc = .ok (.ldc index, 2))
    (kk : go_ G cells slots ws (pc + 2) lc (.int v :: rest)) : go_ G cells slots ws pc lc rest := fun H locs ls hls hP hD hS => lv_ldc (cx_x X) (cx_b X) (cx_o X) (cx_w X _ hl) d (kk H locs ls hls hP hD hS)
/-- a value gets a name -/
theorem go_nm {x : Int32} (k : ∀ y : Int32, y = x → go_ G cells slots ws pc lc (.int y :: rest)) : go_ G cells slots ws pc lc (.int x :: rest) := k x rfl
end GoA
end
section
/-! contracts over worlds, and their calls: callee and caller hold the same world -/
section GoB
/-- a method's contract: from any heap that holds the world w it comes to its end; what it answers and the world behind it: Qo -/
def ct_ (l : Launch) (y : MethodName) (b : ByteArray) (n : Nat) (ret : Option FieldType) (fr lo : Nat) (D : va_G) (ad : Nat → Nat) (av : List Value) (w : va_W) (Qo : (Nat → Prop) → Array Value → State → Outcome → State → Prop) : Prop :=
  ∀ sz : Nat, Met l y (Cond.code y b n ret :: wS) { frames := fr, cells := 0, slots := 0, locals := lo }
    (va_Pc av (fun U => U.heap.size = sz ∧ va_P D vwCl w U.heap ∧ va_K D vwCl (ty_ ad) U ∧ va_D (fun _ => True) w ∧ fz_ ad (va_A w sz) U U.heap)) (Qo (va_A w sz)) 0 0 (va_A w sz)
def qi_ (D : va_G) {S : Type} (post : Int32 → S → Prop) (w' : S → va_W) : (Nat → Prop) → Array Value → State → Outcome → State → Prop := fun A => va_Qi post (fun u t => va_P D vwCl (w' u) t.heap ∧ va_D A (w' u)) A
def qv_ (D : va_G) {S : Type} (post : S → Prop) (w' : S → va_W) : (Nat → Prop) → Array Value → State → Outcome → State → Prop := fun A => va_Qv post (fun u t => va_P D vwCl (w' u) t.heap ∧ va_D A (w' u)) A
/-- how a walk ends -/
def rq_ (G : gt_) (ret : Option FieldType) (Qo : (Nat → Prop) → Array Value → State → Outcome → State → Prop) : Prop :=
  (gh_ G).sig.returnType = ret ∧ (gh_ G).locks = false ∧ gQ_ G = MQ (gb_ G) (Qo (gA_ G)) (ga_ G) (gs_ G) 0 0 (gA_ G)
theorem ct_of {l : Launch} {y : MethodName} {b : ByteArray} {n : Nat} {ret : Option FieldType} {fr lo : Nat} {D : va_G} {ad : Nat → Nat} {av : List Value} {w : va_W} {Qo : (Nat → Prop) → Array Value → State → Outcome → State → Prop} (own : String)
    (hy : plainName y.cls = true) (hown : y.cls = own) (hn : (lg_sl av).length ≤ n)
    (body : ∀ G : gt_, gl_ G = l → gD_ G = D → cx_ G ad b own fr lo n → rq_ G ret Qo → go_ G 0 0 w 0 (lv_args 0 av) []) : ct_ l y b n ret fr lo D ad av w Qo := by
  intro sz
  refine Met.ofW (cc := b) (maxL := n) (ret := ret) hy rfl ?_
  intro p e s m args below meth c s₁ B hml hv
  obtain ⟨rfl, hsz, hP, hK, hD0, hF⟩ := hv
  have hts := atoms_spec (ws := Cond.code y b n ret :: wS) B.pre
  have ho : s.vm.findClass own = some m.cls := by rw [← hown]; exact findClass_of_methodNamed B.named
  subst hsz
  have hD := hD0.self (sz := s.heap.size)
  have hl := lv_entry av (n := n) hn
  rw [lg_entry_eq]
  exact body (p, l, e, (headSpec (Cond.code y b n ret :: wS) { frames := fr, cells := 0, slots := 0, locals := lo }).room, s, m, av.toArray, below, meth, c, D, va_A w s.heap.size, n, MQ below (Qo (va_A w s.heap.size)) av.toArray s 0 0 (va_A w s.heap.size)) rfl rfl
    ⟨B.exec, B.bytes, hml, rfl, ho, fun w h => hts w (List.mem_cons_of_mem _ h), hK, fun q h => Or.inr h, hF, Nat.le_refl _, Nat.le_refl _⟩ ⟨B.returns, B.notSynchronized, rfl⟩ s.heap [] _ hl hP hD va_S.rf
variable {G : gt_} {ad : Nat → Nat} {cc : ByteArray} {own : String} {fr lo n cells slots : Nat} {ws ws' : va_W} {pc : Nat} {lc lc' : List (Nat × Value)} {rest : List Value}
theorem go_ireturn {S : Type} {post : Int32 → S → Prop} {w' : S → va_W} (X : cx_ G ad cc own fr lo n) (hq : rq_ G (some .int) (qi_ (gD_ G) post w')) (d : decode cc pc = .ok (.ireturn, 1)) {r : Int32} (u : S) (hp : post r u) (e : ws = w' u) : go_ G 0 0 ws pc lc [.int r] := by
  intro H locs ls hl hP hD hS
  subst e
  obtain ⟨hr, hk, hQ⟩ := hq
  rw [hQ]
  exact W.iret (v := r) (cx_x X) (cx_b X) hr (fun t ht hW => ⟨⟨r, u, rfl, hp, by rw [ht]; exact hP, hD⟩, hS.F ht⟩) hS.2.2 d (hlocks := hk)
theorem go_zreturn {S : Type} {post : Int32 → S → Prop} {w' : S → va_W} (X : cx_ G ad cc own fr lo n) (hq : rq_ G (some .boolean) (qi_ (gD_ G) post w')) (d : decode cc pc = .ok (.ireturn, 1)) {r : Int32} (hz : r = 0 ∨ r = 1) (u : S) (hp : post r u) (e : ws = w' u) : go_ G 0 0 ws pc lc [.int r] := by
  intro H locs ls hl hP hD hS
  subst e
  obtain ⟨hr, hk, hQ⟩ := hq
  rw [hQ]
  exact W.zret (v := r) (cx_x X) (cx_b X) hr (by rcases hz with rfl | rfl <;> rfl) (fun t ht hW => ⟨⟨r, u, rfl, hp, by rw [ht]; exact hP, hD⟩, hS.F ht⟩) hS.2.2 d (hlocks := hk)
theorem go_vreturn {S : Type} {post : S → Prop} {w' : S → va_W} (X : cx_ G ad cc own fr lo n) (hq : rq_ G none (qv_ (gD_ G) post w')) (d : decode cc pc = .ok (.return_, 1)) (u : S) (hp : post u) (e : ws = w' u) : go_ G 0 0 ws pc lc [] := by
  intro H locs ls hl hP hD hS
  subst e
  obtain ⟨hr, hk, hQ⟩ := hq
  rw [hQ]
  exact W.vret (cx_x X) (cx_b X) hr (fun t ht hW => ⟨⟨u, rfl, hp, by rw [ht]; exact hP, hD⟩, hS.F ht⟩) hS.2.2 d (hlocks := hk)
/-- the words of a method that is called on an object of class C -/
def me_ (y : MethodName) (b : ByteArray) (nb : Nat) (ret : Option FieldType) (C : String) (k : Nat) : Prop :=
  Cond.instanceMethod y ∈ wS ∧ Cond.selects C y y ∈ wS ∧ Cond.initialized C ∈ wS ∧ Cond.code y b nb ret ∈ wS ∧ (y.cls = C ∧ y.cls ≠ "java/lang/invoke/MethodHandle" ∧ y.cls ≠ "java/lang/invoke/VarHandle" ∧ (parseMethodDescriptor y.desc).map (fun d => d.parameters.length) = some k)
def ms_ (y : MethodName) (b : ByteArray) (nb : Nat) (ret : Option FieldType) (C : String) (k : Nat) : Prop :=
  Cond.static y ∈ wS ∧ Cond.initialized C ∈ wS ∧ Cond.code y b nb ret ∈ wS ∧ (y.cls = C ∧ y.cls ≠ "java/lang/invoke/MethodHandle" ∧ y.cls ≠ "java/lang/invoke/VarHandle" ∧ (parseMethodDescriptor y.desc).map (fun d => d.parameters.length) = some k)
theorem gi_ {L : List Cond} (h : ∀ w ∈ L, w ∈ wS) : GoodIn wS L := fun w hw => ⟨h w hw, wS_good w (h w hw)⟩
theorem gf_ {H : Heap} {locs : List Loc} (X : cx_ G ad cc own fr lo n) (hD : va_D (gA_ G) ws) (hS : va_S (gA_ G) (gs_ G).heap H locs) : ∀ q, va_A ws H.size q → gA_ G q := by
  intro q hq
  rcases hq with ⟨k, e, h⟩ | h
  · exact hD.2 k _ h
  · exact cx_A X q (Nat.le_trans hS.1 h)
theorem pb_ {D : va_G} {w : va_W} {sz : Nat} {av : List Value} : FrameBlind (va_Pc av (fun U => U.heap.size = sz ∧ va_P D vwCl w U.heap ∧ va_K D vwCl (ty_ ad) U ∧ va_D (fun _ => True) w ∧ fz_ ad (va_A w sz) U U.heap)) := by
  intro a U g mk q
  obtain ⟨q0, q1, qP, qK, qD, qF⟩ := q
  exact ⟨q0, q1, qP, va_K.moved (u := U) (U := U.calling g mk a) (Vm.Alike.refl U.vm) qK, qD, fz_moved (u := U) (U := U.calling g mk a) (Vm.Alike.refl U.vm) qF⟩
theorem pp_ {H : Heap} {locs : List Loc} (X : cx_ G ad cc own fr lo n) (hP : va_P (gD_ G) vwCl ws H) (hD : va_D (gA_ G) ws) (hS : va_S (gA_ G) (gs_ G).heap H locs) {av : List Value} : ∀ U : State, U.heap = H → (gs_ G).WarmedH U.vm →
    va_Pc av (fun U => U.heap.size = H.size ∧ va_P (gD_ G) vwCl ws U.heap ∧ va_K (gD_ G) vwCl (ty_ ad) U ∧ va_D (fun _ => True) ws ∧ fz_ ad (va_A ws H.size) U U.heap) av.toArray U := by
  intro U hU hW
  refine ⟨rfl, by rw [hU], by rw [hU]; exact hP, va_K.moved hW.alike (cx_K X), hD.weaken (fun _ _ _ _ => trivial), ?_⟩
  rw [hU]
  exact fz_narrow (fz_moved hW.alike (fz_kept (cx_F X) hS.2.1)) (gf_ X hD hS)
theorem go_cvi (X : cx_ G ad cc own fr lo n) {y : MethodName} {b : ByteArray} {nb fr1 lo1 index a ci N : Nat} {ret : Option FieldType} {C : String} {T : u_T} {As fs : List Value} {S : Type} {post : Int32 → S → Prop} {w' : S → va_W}
    (hM : ct_ (gl_ G) y b nb ret fr1 lo1 (gD_ G) ad (.ref a :: As) ws (qi_ (gD_ G) post w')) (hm : me_ y b nb ret C As.length) (m1 : Cond.methodLink own index y ∈ wS) (hlv : fr1 + 1 ≤ fr ∧ 8 + (nb + 11) + lo1 ≤ lo) (q0 : Nat) (he : ws[q0]? = some (a, .inr (ci, fs))) (hc : vwCl[ci]? = some (C, T, N))
    {st : List Value} (hst : st = As.reverse ++ .ref a :: rest) (hrs : (rest.map fun v => v.category).sum ≤ 8) (hcs : cells ≤ (gR_ G).cells ∧ slots ≤ (gR_ G).slots) (d : decode cc pc = .ok (.invokevirtual index, 3))
    (kk : ∀ (r : Int32) (u : S), post r u → go_ G cells slots (w' u) (pc + 3) lc (.int r :: rest)) : go_ G cells slots ws pc lc st := by
  intro H locs ls hl hP hD hS
  obtain ⟨m2, m3, m4, m5, hd⟩ := hm
  have hF := gf_ X hD hS
  refine va_calli (va_runV (As := As) (rest := rest) ⟨cx_x X, cx_b X, cx_m X, cx_o X, cx_w X⟩ (hM H.size) (cwV As.length (cx_w X) (gi_ ?_) rfl rfl rfl hd ⟨Nat.le_trans hlv.1 (cx_f X), Nat.le_trans hlv.2 (cx_l X)⟩) ⟨pb_, va_recv (cx_K X) hP hc he, pp_ X hP hD hS⟩ rfl rfl (hl.1.trans (cx_n X)) hst (lv_room hrs) d hcs) hS (fun q _ h => hF q h) hF (fun r u t H1 locs1 ht hvm hp hB hz1 hk1 hS1 => kk r u hp H1 locs1 ls hl (ht ▸ hB.1) (hB.2.weaken (fun _ _ _ h => hF _ h)) hS1)
  · intro w hw
    rcases List.mem_append.mp hw with h | h
    · simp only [List.mem_cons, List.not_mem_nil, or_false] at h
      rcases h with rfl | rfl | rfl | rfl
      · exact m1
      · exact m2
      · exact m3
      · exact m4
    · rcases List.mem_cons.mp h with rfl | h
      · exact m5
      · exact h
theorem go_cvv (X : cx_ G ad cc own fr lo n) {y : MethodName} {b : ByteArray} {nb fr1 lo1 index a ci N : Nat} {ret : Option FieldType} {C : String} {T : u_T} {As fs : List Value} {S : Type} {post : S → Prop} {w' : S → va_W}
    (hM : ct_ (gl_ G) y b nb ret fr1 lo1 (gD_ G) ad (.ref a :: As) ws (qv_ (gD_ G) post w')) (hm : me_ y b nb ret C As.length) (m1 : Cond.methodLink own index y ∈ wS) (hlv : fr1 + 1 ≤ fr ∧ 8 + (nb + 11) + lo1 ≤ lo) (q0 : Nat) (he : ws[q0]? = some (a, .inr (ci, fs))) (hc : vwCl[ci]? = some (C, T, N))
    {st : List Value} (hst : st = As.reverse ++ .ref a :: rest) (hrs : (rest.map fun v => v.category).sum ≤ 8) (hcs : cells ≤ (gR_ G).cells ∧ slots ≤ (gR_ G).slots) (d : decode cc pc = .ok (.invokevirtual index, 3))
    (kk : ∀ u : S, post u → go_ G cells slots (w' u) (pc + 3) lc rest) : go_ G cells slots ws pc lc st := by
  intro H locs ls hl hP hD hS
  obtain ⟨m2, m3, m4, m5, hd⟩ := hm
  have hF := gf_ X hD hS
  refine va_callv (va_runV (As := As) (rest := rest) ⟨cx_x X, cx_b X, cx_m X, cx_o X, cx_w X⟩ (hM H.size) (cwV As.length (cx_w X) (gi_ ?_) rfl rfl rfl hd ⟨Nat.le_trans hlv.1 (cx_f X), Nat.le_trans hlv.2 (cx_l X)⟩) ⟨pb_, va_recv (cx_K X) hP hc he, pp_ X hP hD hS⟩ rfl rfl (hl.1.trans (cx_n X)) hst (lv_room hrs) d hcs) hS (fun q _ h => hF q h) hF (fun u t H1 locs1 ht hvm hp hB hz1 hk1 hS1 => kk u hp H1 locs1 ls hl (ht ▸ hB.1) (hB.2.weaken (fun _ _ _ h => hF _ h)) hS1)
  · intro w hw
    rcases List.mem_append.mp hw with h | h
    · simp only [List.mem_cons, List.not_mem_nil, or_false] at h
      rcases h with rfl | rfl | rfl | rfl
      · exact m1
      · exact m2
      · exact m3
      · exact m4
    · rcases List.mem_cons.mp h with rfl | h
      · exact m5
      · exact h
theorem go_csi (X : cx_ G ad cc own fr lo n) {y : MethodName} {b : ByteArray} {nb fr1 lo1 index : Nat} {ret : Option FieldType} {As : List Value} {S : Type} {post : Int32 → S → Prop} {w' : S → va_W}
    (hM : ct_ (gl_ G) y b nb ret fr1 lo1 (gD_ G) ad As ws (qi_ (gD_ G) post w')) (hm : ms_ y b nb ret own As.length) (m1 : Cond.methodLink own index y ∈ wS) (hlv : fr1 + 1 ≤ fr ∧ 8 + (nb + 11) + lo1 ≤ lo)
    {st : List Value} (hst : st = As.reverse ++ rest) (hrs : (rest.map fun v => v.category).sum ≤ 8) (hcs : cells ≤ (gR_ G).cells ∧ slots ≤ (gR_ G).slots) (d : decode cc pc = .ok (.invokestatic index, 3))
    (kk : ∀ (r : Int32) (u : S), post r u → go_ G cells slots (w' u) (pc + 3) lc (.int r :: rest)) : go_ G cells slots ws pc lc st := by
  intro H locs ls hl hP hD hS
  obtain ⟨m2, m4, m5, hd⟩ := hm
  have hF := gf_ X hD hS
  refine va_calli (va_runS (As := As) (rest := rest) ⟨cx_x X, cx_b X, cx_m X, cx_o X, cx_w X⟩ (hM H.size) (cwS As.length (cx_w X) (gi_ ?_) rfl rfl rfl hd ⟨Nat.le_trans hlv.1 (cx_f X), Nat.le_trans hlv.2 (cx_l X)⟩) ⟨pb_, pp_ X hP hD hS⟩ rfl rfl (hl.1.trans (cx_n X)) hst (lv_room hrs) d hcs) hS (fun q _ h => hF q h) hF (fun r u t H1 locs1 ht hvm hp hB hz1 hk1 hS1 => kk r u hp H1 locs1 ls hl (ht ▸ hB.1) (hB.2.weaken (fun _ _ _ h => hF _ h)) hS1)
  · intro w hw
    rcases List.mem_append.mp hw with h | h
    · simp only [List.mem_cons, List.not_mem_nil, or_false] at h
      rcases h with rfl | rfl | rfl
      · exact m1
      · exact m2
      · exact m4
    · rcases List.mem_cons.mp h with rfl | h
      · exact m5
      · exact h
end GoB
end
section
/-! the worlds of the desk and of the reference -/
def wC (ad : Nat → Nat) (s_bk s_ln s_kd s_vl : Nat → Int32) (s_ct : Int32) (k_ce : Nat → Int32) (k_bc : Int32) (m_ra m_up : Nat → Int32) (m_on m_lo m_hi m_mo m_ma m_li : Int32) (n_rg n_sb : Nat → Int32) (n_st n_pl n_z n_n n_h n_c n_en n_so n_co n_sc : Int32) (l_bk l_of l_en : Nat → Int32) (l_ct : Int32) (t_bk t_of t_en : Nat → Int32) (t_ct : Int32) : va_W := [(ad 0, .inr (5, [.ref (ad 1), .ref (ad 6), .ref (ad 8), .ref (ad 11), .ref (ad 14), .ref (ad 18)])), (ad 1, .inr (4, [.ref (ad 2), .ref (ad 3), .ref (ad 4), .ref (ad 5), .int s_ct])), (ad 2, .inl (ad 99, 10, .inl s_bk)), (ad 3, .inl (ad 99, 10, .inl s_ln)), (ad 4, .inl (ad 99, 480, .inl s_kd)), (ad 5, .inl (ad 99, 480, .inl s_vl)), (ad 6, .inr (0, [.ref (ad 7), .int k_bc])), (ad 7, .inl (ad 99, 512, .inl k_ce)), (ad 8, .inr (2, [.ref (ad 6), .ref (ad 9), .ref (ad 10), .int m_on, .int m_lo, .int m_hi, .int m_mo, .int m_ma, .int m_li])), (ad 9, .inl (ad 99, 128, .inl m_ra)), (ad 10, .inl (ad 99, 62, .inl m_up)), (ad 11, .inr (1, [.ref (ad 8), .ref (ad 12), .int n_st, .int n_pl, .int n_z, .int n_n, .int n_h, .int n_c, .int n_en, .int n_so, .int n_co, .int n_sc, .ref (ad 13)])), (ad 12, .inl (ad 99, 8, .inl n_rg)), (ad 13, .inl (ad 99, 100, .inl n_sb)), (ad 14, .inr (3, [.ref (ad 15), .ref (ad 16), .ref (ad 17), .int l_ct])), (ad 15, .inl (ad 99, 10, .inl l_bk)), (ad 16, .inl (ad 99, 10, .inl l_of)), (ad 17, .inl (ad 99, 8, .inl l_en)), (ad 18, .inr (3, [.ref (ad 19), .ref (ad 20), .ref (ad 21), .int t_ct])), (ad 19, .inl (ad 99, 10, .inl t_bk)), (ad 20, .inl (ad 99, 10, .inl t_of)), (ad 21, .inl (ad 99, 8, .inl t_en))]
def wM (ad : Nat → Nat) (q_code q_many : Int32) (q_pin q_size q_bytes q_kind q_bank q_address q_full : Nat → Int32) (q_linked : Int32) (q_packedBank q_packedAddress : Nat → Int32) (q_banks : Int32) (q_memory q_register : Nat → Int32) (q_stack q_place q_zero q_less q_half q_carry q_enabled q_soon q_ram q_low q_top q_mode q_state q_sent : Int32) (q_out : Nat → Int32) : va_W := [(ad 30, .inr (6, [.int q_code, .int q_many, .ref (ad 31), .ref (ad 32), .ref (ad 33), .ref (ad 34), .ref (ad 35), .ref (ad 36), .ref (ad 37), .int q_linked, .ref (ad 38), .ref (ad 39), .int q_banks, .ref (ad 40), .ref (ad 41), .int q_stack, .int q_place, .int q_zero, .int q_less, .int q_half, .int q_carry, .int q_enabled, .int q_soon, .int q_ram, .int q_low, .int q_top, .int q_mode, .int q_state, .int q_sent, .ref (ad 42)])), (ad 31, .inl (ad 99, 10, .inl q_pin)), (ad 32, .inl (ad 99, 10, .inl q_size)), (ad 33, .inl (ad 99, 480, .inl q_bytes)), (ad 34, .inl (ad 99, 480, .inl q_kind)), (ad 35, .inl (ad 99, 10, .inl q_bank)), (ad 36, .inl (ad 99, 10, .inl q_address)), (ad 37, .inl (ad 99, 8, .inl q_full)), (ad 38, .inl (ad 99, 10, .inl q_packedBank)), (ad 39, .inl (ad 99, 10, .inl q_packedAddress)), (ad 40, .inl (ad 99, 705, .inl q_memory)), (ad 41, .inl (ad 99, 8, .inl q_register)), (ad 42, .inl (ad 99, 100, .inl q_out))]
section WW
variable {G : gt_} {ad : Nat → Nat} {cc : ByteArray} {own : String} {fr lo n cells slots : Nat} {pc : Nat} {lc : List (Nat × Value)} {rest : List Value}
variable {s_bk s_ln s_kd s_vl : Nat → Int32} {s_ct : Int32} {k_ce : Nat → Int32} {k_bc : Int32} {m_ra m_up : Nat → Int32} {m_on m_lo m_hi m_mo m_ma m_li : Int32} {n_rg n_sb : Nat → Int32} {n_st n_pl n_z n_n n_h n_c n_en n_so n_co n_sc : Int32} {l_bk l_of l_en : Nat → Int32} {l_ct : Int32} {t_bk t_of t_en : Nat → Int32} {t_ct : Int32}
variable {q_code q_many : Int32} {q_pin q_size q_bytes q_kind q_bank q_address q_full : Nat → Int32} {q_linked : Int32} {q_packedBank q_packedAddress : Nat → Int32} {q_banks : Int32} {q_memory q_register : Nat → Int32} {q_stack q_place q_zero q_less q_half q_carry q_enabled q_soon q_ram q_low q_top q_mode q_state q_sent : Int32} {q_out : Nat → Int32}
theorem gt_D_10 (X : cx_ G ad cc RD fr lo n) (d : decode cc pc = .ok (.getfield 10, 3)) (k : go_ G cells slots (wC ad s_bk s_ln s_kd s_vl s_ct k_ce k_bc m_ra m_up m_on m_lo m_hi m_mo m_ma m_li n_rg n_sb n_st n_pl n_z n_n n_h n_c n_en n_so n_co n_sc l_bk l_of l_en l_ct t_bk t_of t_en t_ct) (pc + 3) lc (.ref (ad 1) :: rest)) : go_ G cells slots (wC ad s_bk s_ln s_kd s_vl s_ct k_ce k_bc m_ra m_up m_on m_lo m_hi m_mo m_ma m_li n_rg n_sb n_st n_pl n_z n_n n_h n_c n_en n_so n_co n_sc l_bk l_of l_en l_ct t_bk t_of t_en t_ct) pc lc (.ref (ad 0) :: rest) := go_get X inD 0 rfl rfl 0 (by decide) (wT1 188 rfl rfl) rfl rfl d k
theorem gt_D_109 (X : cx_ G ad cc RD fr lo n) (d : decode cc pc = .ok (.getfield 109, 3)) (k : go_ G cells slots (wC ad s_bk s_ln s_kd s_vl s_ct k_ce k_bc m_ra m_up m_on m_lo m_hi m_mo m_ma m_li n_rg n_sb n_st n_pl n_z n_n n_h n_c n_en n_so n_co n_sc l_bk l_of l_en l_ct t_bk t_of t_en t_ct) (pc + 3) lc (.ref (ad 7) :: rest)) : go_ G cells slots (wC ad s_bk s_ln s_kd s_vl s_ct k_ce k_bc m_ra m_up m_on m_lo m_hi m_mo m_ma m_li n_rg n_sb n_st n_pl n_z n_n n_h n_c n_en n_so n_co n_sc l_bk l_of l_en l_ct t_bk t_of t_en t_ct) pc lc (.ref (ad 6) :: rest) := go_get X inK 6 rfl rfl 0 (by decide) (wT1 61 rfl rfl) rfl rfl d k
theorem gt_D_118 (X : cx_ G ad cc RD fr lo n) (d : decode cc pc = .ok (.getfield 118, 3)) (k : go_ G cells slots (wC ad s_bk s_ln s_kd s_vl s_ct k_ce k_bc m_ra m_up m_on m_lo m_hi m_mo m_ma m_li n_rg n_sb n_st n_pl n_z n_n n_h n_c n_en n_so n_co n_sc l_bk l_of l_en l_ct t_bk t_of t_en t_ct) (pc + 3) lc (.int m_li :: rest)) : go_ G cells slots (wC ad s_bk s_ln s_kd s_vl s_ct k_ce k_bc m_ra m_up m_on m_lo m_hi m_mo m_ma m_li n_rg n_sb n_st n_pl n_z n_n n_h n_c n_en n_so n_co n_sc l_bk l_of l_en l_ct t_bk t_of t_en t_ct) pc lc (.ref (ad 8) :: rest) := go_get X inM 8 rfl rfl 8 (by decide) (wT1 84 rfl rfl) rfl rfl d k
theorem gt_D_127 (X : cx_ G ad cc RD fr lo n) (d : decode cc pc = .ok (.getfield 127, 3)) (k : go_ G cells slots (wC ad s_bk s_ln s_kd s_vl s_ct k_ce k_bc m_ra m_up m_on m_lo m_hi m_mo m_ma m_li n_rg n_sb n_st n_pl n_z n_n n_h n_c n_en n_so n_co n_sc l_bk l_of l_en l_ct t_bk t_of t_en t_ct) (pc + 3) lc (.int n_co :: rest)) : go_ G cells slots (wC ad s_bk s_ln s_kd s_vl s_ct k_ce k_bc m_ra m_up m_on m_lo m_hi m_mo m_ma m_li n_rg n_sb n_st n_pl n_z n_n n_h n_c n_en n_so n_co n_sc l_bk l_of l_en l_ct t_bk t_of t_en t_ct) pc lc (.ref (ad 11) :: rest) := go_get X inN 11 rfl rfl 10 (by decide) (wT1 133 rfl rfl) rfl rfl d k
theorem gt_D_136 (X : cx_ G ad cc RD fr lo n) (d : decode cc pc = .ok (.getfield 136, 3)) (k : go_ G cells slots (wC ad s_bk s_ln s_kd s_vl s_ct k_ce k_bc m_ra m_up m_on m_lo m_hi m_mo m_ma m_li n_rg n_sb n_st n_pl n_z n_n n_h n_c n_en n_so n_co n_sc l_bk l_of l_en l_ct t_bk t_of t_en t_ct) (pc + 3) lc (.int n_sc :: rest)) : go_ G cells slots (wC ad s_bk s_ln s_kd s_vl s_ct k_ce k_bc m_ra m_up m_on m_lo m_hi m_mo m_ma m_li n_rg n_sb n_st n_pl n_z n_n n_h n_c n_en n_so n_co n_sc l_bk l_of l_en l_ct t_bk t_of t_en t_ct) pc lc (.ref (ad 11) :: rest) := go_get X inN 11 rfl rfl 11 (by decide) (wT1 135 rfl rfl) rfl rfl d k
theorem gt_D_142 (X : cx_ G ad cc RD fr lo n) (d : decode cc pc = .ok (.getfield 142, 3)) (k : go_ G cells slots (wC ad s_bk s_ln s_kd s_vl s_ct k_ce k_bc m_ra m_up m_on m_lo m_hi m_mo m_ma m_li n_rg n_sb n_st n_pl n_z n_n n_h n_c n_en n_so n_co n_sc l_bk l_of l_en l_ct t_bk t_of t_en t_ct) (pc + 3) lc (.ref (ad 13) :: rest)) : go_ G cells slots (wC ad s_bk s_ln s_kd s_vl s_ct k_ce k_bc m_ra m_up m_on m_lo m_hi m_mo m_ma m_li n_rg n_sb n_st n_pl n_z n_n n_h n_c n_en n_so n_co n_sc l_bk l_of l_en l_ct t_bk t_of t_en t_ct) pc lc (.ref (ad 11) :: rest) := go_get X inN 11 rfl rfl 12 (by decide) (wT1 137 rfl rfl) rfl rfl d k
theorem gt_D_19 (X : cx_ G ad cc RD fr lo n) (d : decode cc pc = .ok (.getfield 19, 3)) (k : go_ G cells slots (wC ad s_bk s_ln s_kd s_vl s_ct k_ce k_bc m_ra m_up m_on m_lo m_hi m_mo m_ma m_li n_rg n_sb n_st n_pl n_z n_n n_h n_c n_en n_so n_co n_sc l_bk l_of l_en l_ct t_bk t_of t_en t_ct) (pc + 3) lc (.ref (ad 6) :: rest)) : go_ G cells slots (wC ad s_bk s_ln s_kd s_vl s_ct k_ce k_bc m_ra m_up m_on m_lo m_hi m_mo m_ma m_li n_rg n_sb n_st n_pl n_z n_n n_h n_c n_en n_so n_co n_sc l_bk l_of l_en l_ct t_bk t_of t_en t_ct) pc lc (.ref (ad 0) :: rest) := go_get X inD 0 rfl rfl 1 (by decide) (wT1 189 rfl rfl) rfl rfl d k
theorem gt_D_28 (X : cx_ G ad cc RD fr lo n) (d : decode cc pc = .ok (.getfield 28, 3)) (k : go_ G cells slots (wC ad s_bk s_ln s_kd s_vl s_ct k_ce k_bc m_ra m_up m_on m_lo m_hi m_mo m_ma m_li n_rg n_sb n_st n_pl n_z n_n n_h n_c n_en n_so n_co n_sc l_bk l_of l_en l_ct t_bk t_of t_en t_ct) (pc + 3) lc (.ref (ad 8) :: rest)) : go_ G cells slots (wC ad s_bk s_ln s_kd s_vl s_ct k_ce k_bc m_ra m_up m_on m_lo m_hi m_mo m_ma m_li n_rg n_sb n_st n_pl n_z n_n n_h n_c n_en n_so n_co n_sc l_bk l_of l_en l_ct t_bk t_of t_en t_ct) pc lc (.ref (ad 0) :: rest) := go_get X inD 0 rfl rfl 2 (by decide) (wT1 190 rfl rfl) rfl rfl d k
theorem gt_D_37 (X : cx_ G ad cc RD fr lo n) (d : decode cc pc = .ok (.getfield 37, 3)) (k : go_ G cells slots (wC ad s_bk s_ln s_kd s_vl s_ct k_ce k_bc m_ra m_up m_on m_lo m_hi m_mo m_ma m_li n_rg n_sb n_st n_pl n_z n_n n_h n_c n_en n_so n_co n_sc l_bk l_of l_en l_ct t_bk t_of t_en t_ct) (pc + 3) lc (.ref (ad 11) :: rest)) : go_ G cells slots (wC ad s_bk s_ln s_kd s_vl s_ct k_ce k_bc m_ra m_up m_on m_lo m_hi m_mo m_ma m_li n_rg n_sb n_st n_pl n_z n_n n_h n_c n_en n_so n_co n_sc l_bk l_of l_en l_ct t_bk t_of t_en t_ct) pc lc (.ref (ad 0) :: rest) := go_get X inD 0 rfl rfl 3 (by decide) (wT1 191 rfl rfl) rfl rfl d k
theorem gt_D_44 (X : cx_ G ad cc RD fr lo n) (d : decode cc pc = .ok (.getfield 44, 3)) (k : go_ G cells slots (wC ad s_bk s_ln s_kd s_vl s_ct k_ce k_bc m_ra m_up m_on m_lo m_hi m_mo m_ma m_li n_rg n_sb n_st n_pl n_z n_n n_h n_c n_en n_so n_co n_sc l_bk l_of l_en l_ct t_bk t_of t_en t_ct) (pc + 3) lc (.ref (ad 14) :: rest)) : go_ G cells slots (wC ad s_bk s_ln s_kd s_vl s_ct k_ce k_bc m_ra m_up m_on m_lo m_hi m_mo m_ma m_li n_rg n_sb n_st n_pl n_z n_n n_h n_c n_en n_so n_co n_sc l_bk l_of l_en l_ct t_bk t_of t_en t_ct) pc lc (.ref (ad 0) :: rest) := go_get X inD 0 rfl rfl 4 (by decide) (wT1 192 rfl rfl) rfl rfl d k
theorem gt_D_48 (X : cx_ G ad cc RD fr lo n) (d : decode cc pc = .ok (.getfield 48, 3)) (k : go_ G cells slots (wC ad s_bk s_ln s_kd s_vl s_ct k_ce k_bc m_ra m_up m_on m_lo m_hi m_mo m_ma m_li n_rg n_sb n_st n_pl n_z n_n n_h n_c n_en n_so n_co n_sc l_bk l_of l_en l_ct t_bk t_of t_en t_ct) (pc + 3) lc (.ref (ad 18) :: rest)) : go_ G cells slots (wC ad s_bk s_ln s_kd s_vl s_ct k_ce k_bc m_ra m_up m_on m_lo m_hi m_mo m_ma m_li n_rg n_sb n_st n_pl n_z n_n n_h n_c n_en n_so n_co n_sc l_bk l_of l_en l_ct t_bk t_of t_en t_ct) pc lc (.ref (ad 0) :: rest) := go_get X inD 0 rfl rfl 5 (by decide) (wT1 193 rfl rfl) rfl rfl d k
theorem gt_D_54 (X : cx_ G ad cc RD fr lo n) (d : decode cc pc = .ok (.getfield 54, 3)) (k : go_ G cells slots (wC ad s_bk s_ln s_kd s_vl s_ct k_ce k_bc m_ra m_up m_on m_lo m_hi m_mo m_ma m_li n_rg n_sb n_st n_pl n_z n_n n_h n_c n_en n_so n_co n_sc l_bk l_of l_en l_ct t_bk t_of t_en t_ct) (pc + 3) lc (.int s_ct :: rest)) : go_ G cells slots (wC ad s_bk s_ln s_kd s_vl s_ct k_ce k_bc m_ra m_up m_on m_lo m_hi m_mo m_ma m_li n_rg n_sb n_st n_pl n_z n_n n_h n_c n_en n_so n_co n_sc l_bk l_of l_en l_ct t_bk t_of t_en t_ct) pc lc (.ref (ad 1) :: rest) := go_get X inS 1 rfl rfl 4 (by decide) (wT1 40 rfl rfl) rfl rfl d k
theorem gt_D_98L (X : cx_ G ad cc RD fr lo n) (d : decode cc pc = .ok (.getfield 98, 3)) (k : go_ G cells slots (wC ad s_bk s_ln s_kd s_vl s_ct k_ce k_bc m_ra m_up m_on m_lo m_hi m_mo m_ma m_li n_rg n_sb n_st n_pl n_z n_n n_h n_c n_en n_so n_co n_sc l_bk l_of l_en l_ct t_bk t_of t_en t_ct) (pc + 3) lc (.int l_ct :: rest)) : go_ G cells slots (wC ad s_bk s_ln s_kd s_vl s_ct k_ce k_bc m_ra m_up m_on m_lo m_hi m_mo m_ma m_li n_rg n_sb n_st n_pl n_z n_n n_h n_c n_en n_so n_co n_sc l_bk l_of l_en l_ct t_bk t_of t_en t_ct) pc lc (.ref (ad 14) :: rest) := go_get X inP 14 rfl rfl 3 (by decide) (wT1 178 rfl rfl) rfl rfl d k
theorem gt_D_99L (X : cx_ G ad cc RD fr lo n) (d : decode cc pc = .ok (.getfield 99, 3)) (k : go_ G cells slots (wC ad s_bk s_ln s_kd s_vl s_ct k_ce k_bc m_ra m_up m_on m_lo m_hi m_mo m_ma m_li n_rg n_sb n_st n_pl n_z n_n n_h n_c n_en n_so n_co n_sc l_bk l_of l_en l_ct t_bk t_of t_en t_ct) (pc + 3) lc (.ref (ad 15) :: rest)) : go_ G cells slots (wC ad s_bk s_ln s_kd s_vl s_ct k_ce k_bc m_ra m_up m_on m_lo m_hi m_mo m_ma m_li n_rg n_sb n_st n_pl n_z n_n n_h n_c n_en n_so n_co n_sc l_bk l_of l_en l_ct t_bk t_of t_en t_ct) pc lc (.ref (ad 14) :: rest) := go_get X inP 14 rfl rfl 0 (by decide) (wT1 173 rfl rfl) rfl rfl d k
theorem gt_K_15 (X : cx_ G ad cc RK fr lo n) (d : decode cc pc = .ok (.getfield 15, 3)) (k : go_ G cells slots (wC ad s_bk s_ln s_kd s_vl s_ct k_ce k_bc m_ra m_up m_on m_lo m_hi m_mo m_ma m_li n_rg n_sb n_st n_pl n_z n_n n_h n_c n_en n_so n_co n_sc l_bk l_of l_en l_ct t_bk t_of t_en t_ct) (pc + 3) lc (.int k_bc :: rest)) : go_ G cells slots (wC ad s_bk s_ln s_kd s_vl s_ct k_ce k_bc m_ra m_up m_on m_lo m_hi m_mo m_ma m_li n_rg n_sb n_st n_pl n_z n_n n_h n_c n_en n_so n_co n_sc l_bk l_of l_en l_ct t_bk t_of t_en t_ct) pc lc (.ref (ad 6) :: rest) := go_get X inK 6 rfl rfl 1 (by decide) (wT1 62 rfl rfl) rfl rfl d k
theorem gt_K_23 (X : cx_ G ad cc RK fr lo n) (d : decode cc pc = .ok (.getfield 23, 3)) (k : go_ G cells slots (wC ad s_bk s_ln s_kd s_vl s_ct k_ce k_bc m_ra m_up m_on m_lo m_hi m_mo m_ma m_li n_rg n_sb n_st n_pl n_z n_n n_h n_c n_en n_so n_co n_sc l_bk l_of l_en l_ct t_bk t_of t_en t_ct) (pc + 3) lc (.int s_ct :: rest)) : go_ G cells slots (wC ad s_bk s_ln s_kd s_vl s_ct k_ce k_bc m_ra m_up m_on m_lo m_hi m_mo m_ma m_li n_rg n_sb n_st n_pl n_z n_n n_h n_c n_en n_so n_co n_sc l_bk l_of l_en l_ct t_bk t_of t_en t_ct) pc lc (.ref (ad 1) :: rest) := go_get X inS 1 rfl rfl 4 (by decide) (wT1 41 rfl rfl) rfl rfl d k
theorem gt_K_54L (X : cx_ G ad cc RK fr lo n) (d : decode cc pc = .ok (.getfield 54, 3)) (k : go_ G cells slots (wC ad s_bk s_ln s_kd s_vl s_ct k_ce k_bc m_ra m_up m_on m_lo m_hi m_mo m_ma m_li n_rg n_sb n_st n_pl n_z n_n n_h n_c n_en n_so n_co n_sc l_bk l_of l_en l_ct t_bk t_of t_en t_ct) (pc + 3) lc (.ref (ad 15) :: rest)) : go_ G cells slots (wC ad s_bk s_ln s_kd s_vl s_ct k_ce k_bc m_ra m_up m_on m_lo m_hi m_mo m_ma m_li n_rg n_sb n_st n_pl n_z n_n n_h n_c n_en n_so n_co n_sc l_bk l_of l_en l_ct t_bk t_of t_en t_ct) pc lc (.ref (ad 14) :: rest) := go_get X inP 14 rfl rfl 0 (by decide) (wT1 172 rfl rfl) rfl rfl d k
theorem gt_K_57L (X : cx_ G ad cc RK fr lo n) (d : decode cc pc = .ok (.getfield 57, 3)) (k : go_ G cells slots (wC ad s_bk s_ln s_kd s_vl s_ct k_ce k_bc m_ra m_up m_on m_lo m_hi m_mo m_ma m_li n_rg n_sb n_st n_pl n_z n_n n_h n_c n_en n_so n_co n_sc l_bk l_of l_en l_ct t_bk t_of t_en t_ct) (pc + 3) lc (.ref (ad 16) :: rest)) : go_ G cells slots (wC ad s_bk s_ln s_kd s_vl s_ct k_ce k_bc m_ra m_up m_on m_lo m_hi m_mo m_ma m_li n_rg n_sb n_st n_pl n_z n_n n_h n_c n_en n_so n_co n_sc l_bk l_of l_en l_ct t_bk t_of t_en t_ct) pc lc (.ref (ad 14) :: rest) := go_get X inP 14 rfl rfl 1 (by decide) (wT1 175 rfl rfl) rfl rfl d k
theorem gt_K_60 (X : cx_ G ad cc RK fr lo n) (d : decode cc pc = .ok (.getfield 60, 3)) (k : go_ G cells slots (wC ad s_bk s_ln s_kd s_vl s_ct k_ce k_bc m_ra m_up m_on m_lo m_hi m_mo m_ma m_li n_rg n_sb n_st n_pl n_z n_n n_h n_c n_en n_so n_co n_sc l_bk l_of l_en l_ct t_bk t_of t_en t_ct) (pc + 3) lc (.ref (ad 3) :: rest)) : go_ G cells slots (wC ad s_bk s_ln s_kd s_vl s_ct k_ce k_bc m_ra m_up m_on m_lo m_hi m_mo m_ma m_li n_rg n_sb n_st n_pl n_z n_n n_h n_c n_en n_so n_co n_sc l_bk l_of l_en l_ct t_bk t_of t_en t_ct) pc lc (.ref (ad 1) :: rest) := go_get X inS 1 rfl rfl 1 (by decide) (wT1 33 rfl rfl) rfl rfl d k
theorem gt_K_63 (X : cx_ G ad cc RK fr lo n) (d : decode cc pc = .ok (.getfield 63, 3)) (k : go_ G cells slots (wC ad s_bk s_ln s_kd s_vl s_ct k_ce k_bc m_ra m_up m_on m_lo m_hi m_mo m_ma m_li n_rg n_sb n_st n_pl n_z n_n n_h n_c n_en n_so n_co n_sc l_bk l_of l_en l_ct t_bk t_of t_en t_ct) (pc + 3) lc (.ref (ad 5) :: rest)) : go_ G cells slots (wC ad s_bk s_ln s_kd s_vl s_ct k_ce k_bc m_ra m_up m_on m_lo m_hi m_mo m_ma m_li n_rg n_sb n_st n_pl n_z n_n n_h n_c n_en n_so n_co n_sc l_bk l_of l_en l_ct t_bk t_of t_en t_ct) pc lc (.ref (ad 1) :: rest) := go_get X inS 1 rfl rfl 3 (by decide) (wT1 37 rfl rfl) rfl rfl d k
theorem gt_K_66 (X : cx_ G ad cc RK fr lo n) (d : decode cc pc = .ok (.getfield 66, 3)) (k : go_ G cells slots (wC ad s_bk s_ln s_kd s_vl s_ct k_ce k_bc m_ra m_up m_on m_lo m_hi m_mo m_ma m_li n_rg n_sb n_st n_pl n_z n_n n_h n_c n_en n_so n_co n_sc l_bk l_of l_en l_ct t_bk t_of t_en t_ct) (pc + 3) lc (.ref (ad 4) :: rest)) : go_ G cells slots (wC ad s_bk s_ln s_kd s_vl s_ct k_ce k_bc m_ra m_up m_on m_lo m_hi m_mo m_ma m_li n_rg n_sb n_st n_pl n_z n_n n_h n_c n_en n_so n_co n_sc l_bk l_of l_en l_ct t_bk t_of t_en t_ct) pc lc (.ref (ad 1) :: rest) := go_get X inS 1 rfl rfl 2 (by decide) (wT1 35 rfl rfl) rfl rfl d k
theorem gt_K_9 (X : cx_ G ad cc RK fr lo n) (d : decode cc pc = .ok (.getfield 9, 3)) (k : go_ G cells slots (wC ad s_bk s_ln s_kd s_vl s_ct k_ce k_bc m_ra m_up m_on m_lo m_hi m_mo m_ma m_li n_rg n_sb n_st n_pl n_z n_n n_h n_c n_en n_so n_co n_sc l_bk l_of l_en l_ct t_bk t_of t_en t_ct) (pc + 3) lc (.ref (ad 7) :: rest)) : go_ G cells slots (wC ad s_bk s_ln s_kd s_vl s_ct k_ce k_bc m_ra m_up m_on m_lo m_hi m_mo m_ma m_li n_rg n_sb n_st n_pl n_z n_n n_h n_c n_en n_so n_co n_sc l_bk l_of l_en l_ct t_bk t_of t_en t_ct) pc lc (.ref (ad 6) :: rest) := go_get X inK 6 rfl rfl 0 (by decide) (wT1 60 rfl rfl) rfl rfl d k
theorem gt_M_15 (X : cx_ G ad cc RM fr lo n) (d : decode cc pc = .ok (.getfield 15, 3)) (k : go_ G cells slots (wC ad s_bk s_ln s_kd s_vl s_ct k_ce k_bc m_ra m_up m_on m_lo m_hi m_mo m_ma m_li n_rg n_sb n_st n_pl n_z n_n n_h n_c n_en n_so n_co n_sc l_bk l_of l_en l_ct t_bk t_of t_en t_ct) (pc + 3) lc (.ref (ad 10) :: rest)) : go_ G cells slots (wC ad s_bk s_ln s_kd s_vl s_ct k_ce k_bc m_ra m_up m_on m_lo m_hi m_mo m_ma m_li n_rg n_sb n_st n_pl n_z n_n n_h n_c n_en n_so n_co n_sc l_bk l_of l_en l_ct t_bk t_of t_en t_ct) pc lc (.ref (ad 8) :: rest) := go_get X inM 8 rfl rfl 2 (by decide) (wT1 76 rfl rfl) rfl rfl d k
theorem gt_M_18 (X : cx_ G ad cc RM fr lo n) (d : decode cc pc = .ok (.getfield 18, 3)) (k : go_ G cells slots (wC ad s_bk s_ln s_kd s_vl s_ct k_ce k_bc m_ra m_up m_on m_lo m_hi m_mo m_ma m_li n_rg n_sb n_st n_pl n_z n_n n_h n_c n_en n_so n_co n_sc l_bk l_of l_en l_ct t_bk t_of t_en t_ct) (pc + 3) lc (.ref (ad 6) :: rest)) : go_ G cells slots (wC ad s_bk s_ln s_kd s_vl s_ct k_ce k_bc m_ra m_up m_on m_lo m_hi m_mo m_ma m_li n_rg n_sb n_st n_pl n_z n_n n_h n_c n_en n_so n_co n_sc l_bk l_of l_en l_ct t_bk t_of t_en t_ct) pc lc (.ref (ad 8) :: rest) := go_get X inM 8 rfl rfl 0 (by decide) (wT1 74 rfl rfl) rfl rfl d k
theorem gt_M_22 (X : cx_ G ad cc RM fr lo n) (d : decode cc pc = .ok (.getfield 22, 3)) (k : go_ G cells slots (wC ad s_bk s_ln s_kd s_vl s_ct k_ce k_bc m_ra m_up m_on m_lo m_hi m_mo m_ma m_li n_rg n_sb n_st n_pl n_z n_n n_h n_c n_en n_so n_co n_sc l_bk l_of l_en l_ct t_bk t_of t_en t_ct) (pc + 3) lc (.int m_on :: rest)) : go_ G cells slots (wC ad s_bk s_ln s_kd s_vl s_ct k_ce k_bc m_ra m_up m_on m_lo m_hi m_mo m_ma m_li n_rg n_sb n_st n_pl n_z n_n n_h n_c n_en n_so n_co n_sc l_bk l_of l_en l_ct t_bk t_of t_en t_ct) pc lc (.ref (ad 8) :: rest) := go_get X inM 8 rfl rfl 3 (by decide) (wT1 77 rfl rfl) rfl rfl d k
theorem gt_M_26 (X : cx_ G ad cc RM fr lo n) (d : decode cc pc = .ok (.getfield 26, 3)) (k : go_ G cells slots (wC ad s_bk s_ln s_kd s_vl s_ct k_ce k_bc m_ra m_up m_on m_lo m_hi m_mo m_ma m_li n_rg n_sb n_st n_pl n_z n_n n_h n_c n_en n_so n_co n_sc l_bk l_of l_en l_ct t_bk t_of t_en t_ct) (pc + 3) lc (.int m_lo :: rest)) : go_ G cells slots (wC ad s_bk s_ln s_kd s_vl s_ct k_ce k_bc m_ra m_up m_on m_lo m_hi m_mo m_ma m_li n_rg n_sb n_st n_pl n_z n_n n_h n_c n_en n_so n_co n_sc l_bk l_of l_en l_ct t_bk t_of t_en t_ct) pc lc (.ref (ad 8) :: rest) := go_get X inM 8 rfl rfl 4 (by decide) (wT1 78 rfl rfl) rfl rfl d k
theorem gt_M_30 (X : cx_ G ad cc RM fr lo n) (d : decode cc pc = .ok (.getfield 30, 3)) (k : go_ G cells slots (wC ad s_bk s_ln s_kd s_vl s_ct k_ce k_bc m_ra m_up m_on m_lo m_hi m_mo m_ma m_li n_rg n_sb n_st n_pl n_z n_n n_h n_c n_en n_so n_co n_sc l_bk l_of l_en l_ct t_bk t_of t_en t_ct) (pc + 3) lc (.int m_hi :: rest)) : go_ G cells slots (wC ad s_bk s_ln s_kd s_vl s_ct k_ce k_bc m_ra m_up m_on m_lo m_hi m_mo m_ma m_li n_rg n_sb n_st n_pl n_z n_n n_h n_c n_en n_so n_co n_sc l_bk l_of l_en l_ct t_bk t_of t_en t_ct) pc lc (.ref (ad 8) :: rest) := go_get X inM 8 rfl rfl 5 (by decide) (wT1 79 rfl rfl) rfl rfl d k
theorem gt_M_33 (X : cx_ G ad cc RM fr lo n) (d : decode cc pc = .ok (.getfield 33, 3)) (k : go_ G cells slots (wC ad s_bk s_ln s_kd s_vl s_ct k_ce k_bc m_ra m_up m_on m_lo m_hi m_mo m_ma m_li n_rg n_sb n_st n_pl n_z n_n n_h n_c n_en n_so n_co n_sc l_bk l_of l_en l_ct t_bk t_of t_en t_ct) (pc + 3) lc (.int m_mo :: rest)) : go_ G cells slots (wC ad s_bk s_ln s_kd s_vl s_ct k_ce k_bc m_ra m_up m_on m_lo m_hi m_mo m_ma m_li n_rg n_sb n_st n_pl n_z n_n n_h n_c n_en n_so n_co n_sc l_bk l_of l_en l_ct t_bk t_of t_en t_ct) pc lc (.ref (ad 8) :: rest) := go_get X inM 8 rfl rfl 6 (by decide) (wT1 80 rfl rfl) rfl rfl d k
theorem gt_M_36 (X : cx_ G ad cc RM fr lo n) (d : decode cc pc = .ok (.getfield 36, 3)) (k : go_ G cells slots (wC ad s_bk s_ln s_kd s_vl s_ct k_ce k_bc m_ra m_up m_on m_lo m_hi m_mo m_ma m_li n_rg n_sb n_st n_pl n_z n_n n_h n_c n_en n_so n_co n_sc l_bk l_of l_en l_ct t_bk t_of t_en t_ct) (pc + 3) lc (.int m_ma :: rest)) : go_ G cells slots (wC ad s_bk s_ln s_kd s_vl s_ct k_ce k_bc m_ra m_up m_on m_lo m_hi m_mo m_ma m_li n_rg n_sb n_st n_pl n_z n_n n_h n_c n_en n_so n_co n_sc l_bk l_of l_en l_ct t_bk t_of t_en t_ct) pc lc (.ref (ad 8) :: rest) := go_get X inM 8 rfl rfl 7 (by decide) (wT1 81 rfl rfl) rfl rfl d k
theorem gt_M_39 (X : cx_ G ad cc RM fr lo n) (d : decode cc pc = .ok (.getfield 39, 3)) (k : go_ G cells slots (wC ad s_bk s_ln s_kd s_vl s_ct k_ce k_bc m_ra m_up m_on m_lo m_hi m_mo m_ma m_li n_rg n_sb n_st n_pl n_z n_n n_h n_c n_en n_so n_co n_sc l_bk l_of l_en l_ct t_bk t_of t_en t_ct) (pc + 3) lc (.int m_li :: rest)) : go_ G cells slots (wC ad s_bk s_ln s_kd s_vl s_ct k_ce k_bc m_ra m_up m_on m_lo m_hi m_mo m_ma m_li n_rg n_sb n_st n_pl n_z n_n n_h n_c n_en n_so n_co n_sc l_bk l_of l_en l_ct t_bk t_of t_en t_ct) pc lc (.ref (ad 8) :: rest) := go_get X inM 8 rfl rfl 8 (by decide) (wT1 82 rfl rfl) rfl rfl d k
theorem gt_M_9 (X : cx_ G ad cc RM fr lo n) (d : decode cc pc = .ok (.getfield 9, 3)) (k : go_ G cells slots (wC ad s_bk s_ln s_kd s_vl s_ct k_ce k_bc m_ra m_up m_on m_lo m_hi m_mo m_ma m_li n_rg n_sb n_st n_pl n_z n_n n_h n_c n_en n_so n_co n_sc l_bk l_of l_en l_ct t_bk t_of t_en t_ct) (pc + 3) lc (.ref (ad 9) :: rest)) : go_ G cells slots (wC ad s_bk s_ln s_kd s_vl s_ct k_ce k_bc m_ra m_up m_on m_lo m_hi m_mo m_ma m_li n_rg n_sb n_st n_pl n_z n_n n_h n_c n_en n_so n_co n_sc l_bk l_of l_en l_ct t_bk t_of t_en t_ct) pc lc (.ref (ad 8) :: rest) := go_get X inM 8 rfl rfl 1 (by decide) (wT1 75 rfl rfl) rfl rfl d k
theorem gt_N_128 (X : cx_ G ad cc RN fr lo n) (d : decode cc pc = .ok (.getfield 128, 3)) (k : go_ G cells slots (wC ad s_bk s_ln s_kd s_vl s_ct k_ce k_bc m_ra m_up m_on m_lo m_hi m_mo m_ma m_li n_rg n_sb n_st n_pl n_z n_n n_h n_c n_en n_so n_co n_sc l_bk l_of l_en l_ct t_bk t_of t_en t_ct) (pc + 3) lc (.int n_c :: rest)) : go_ G cells slots (wC ad s_bk s_ln s_kd s_vl s_ct k_ce k_bc m_ra m_up m_on m_lo m_hi m_mo m_ma m_li n_rg n_sb n_st n_pl n_z n_n n_h n_c n_en n_so n_co n_sc l_bk l_of l_en l_ct t_bk t_of t_en t_ct) pc lc (.ref (ad 11) :: rest) := go_get X inN 11 rfl rfl 7 (by decide) (wT1 129 rfl rfl) rfl rfl d k
theorem gt_N_15 (X : cx_ G ad cc RN fr lo n) (d : decode cc pc = .ok (.getfield 15, 3)) (k : go_ G cells slots (wC ad s_bk s_ln s_kd s_vl s_ct k_ce k_bc m_ra m_up m_on m_lo m_hi m_mo m_ma m_li n_rg n_sb n_st n_pl n_z n_n n_h n_c n_en n_so n_co n_sc l_bk l_of l_en l_ct t_bk t_of t_en t_ct) (pc + 3) lc (.ref (ad 13) :: rest)) : go_ G cells slots (wC ad s_bk s_ln s_kd s_vl s_ct k_ce k_bc m_ra m_up m_on m_lo m_hi m_mo m_ma m_li n_rg n_sb n_st n_pl n_z n_n n_h n_c n_en n_so n_co n_sc l_bk l_of l_en l_ct t_bk t_of t_en t_ct) pc lc (.ref (ad 11) :: rest) := go_get X inN 11 rfl rfl 12 (by decide) (wT1 136 rfl rfl) rfl rfl d k
theorem gt_N_18 (X : cx_ G ad cc RN fr lo n) (d : decode cc pc = .ok (.getfield 18, 3)) (k : go_ G cells slots (wC ad s_bk s_ln s_kd s_vl s_ct k_ce k_bc m_ra m_up m_on m_lo m_hi m_mo m_ma m_li n_rg n_sb n_st n_pl n_z n_n n_h n_c n_en n_so n_co n_sc l_bk l_of l_en l_ct t_bk t_of t_en t_ct) (pc + 3) lc (.ref (ad 8) :: rest)) : go_ G cells slots (wC ad s_bk s_ln s_kd s_vl s_ct k_ce k_bc m_ra m_up m_on m_lo m_hi m_mo m_ma m_li n_rg n_sb n_st n_pl n_z n_n n_h n_c n_en n_so n_co n_sc l_bk l_of l_en l_ct t_bk t_of t_en t_ct) pc lc (.ref (ad 11) :: rest) := go_get X inN 11 rfl rfl 0 (by decide) (wT1 122 rfl rfl) rfl rfl d k
theorem gt_N_25 (X : cx_ G ad cc RN fr lo n) (d : decode cc pc = .ok (.getfield 25, 3)) (k : go_ G cells slots (wC ad s_bk s_ln s_kd s_vl s_ct k_ce k_bc m_ra m_up m_on m_lo m_hi m_mo m_ma m_li n_rg n_sb n_st n_pl n_z n_n n_h n_c n_en n_so n_co n_sc l_bk l_of l_en l_ct t_bk t_of t_en t_ct) (pc + 3) lc (.int n_st :: rest)) : go_ G cells slots (wC ad s_bk s_ln s_kd s_vl s_ct k_ce k_bc m_ra m_up m_on m_lo m_hi m_mo m_ma m_li n_rg n_sb n_st n_pl n_z n_n n_h n_c n_en n_so n_co n_sc l_bk l_of l_en l_ct t_bk t_of t_en t_ct) pc lc (.ref (ad 11) :: rest) := go_get X inN 11 rfl rfl 2 (by decide) (wT1 124 rfl rfl) rfl rfl d k
theorem gt_N_29 (X : cx_ G ad cc RN fr lo n) (d : decode cc pc = .ok (.getfield 29, 3)) (k : go_ G cells slots (wC ad s_bk s_ln s_kd s_vl s_ct k_ce k_bc m_ra m_up m_on m_lo m_hi m_mo m_ma m_li n_rg n_sb n_st n_pl n_z n_n n_h n_c n_en n_so n_co n_sc l_bk l_of l_en l_ct t_bk t_of t_en t_ct) (pc + 3) lc (.int n_pl :: rest)) : go_ G cells slots (wC ad s_bk s_ln s_kd s_vl s_ct k_ce k_bc m_ra m_up m_on m_lo m_hi m_mo m_ma m_li n_rg n_sb n_st n_pl n_z n_n n_h n_c n_en n_so n_co n_sc l_bk l_of l_en l_ct t_bk t_of t_en t_ct) pc lc (.ref (ad 11) :: rest) := go_get X inN 11 rfl rfl 3 (by decide) (wT1 125 rfl rfl) rfl rfl d k
theorem gt_N_36 (X : cx_ G ad cc RN fr lo n) (d : decode cc pc = .ok (.getfield 36, 3)) (k : go_ G cells slots (wC ad s_bk s_ln s_kd s_vl s_ct k_ce k_bc m_ra m_up m_on m_lo m_hi m_mo m_ma m_li n_rg n_sb n_st n_pl n_z n_n n_h n_c n_en n_so n_co n_sc l_bk l_of l_en l_ct t_bk t_of t_en t_ct) (pc + 3) lc (.int n_en :: rest)) : go_ G cells slots (wC ad s_bk s_ln s_kd s_vl s_ct k_ce k_bc m_ra m_up m_on m_lo m_hi m_mo m_ma m_li n_rg n_sb n_st n_pl n_z n_n n_h n_c n_en n_so n_co n_sc l_bk l_of l_en l_ct t_bk t_of t_en t_ct) pc lc (.ref (ad 11) :: rest) := go_get X inN 11 rfl rfl 8 (by decide) (wT1 130 rfl rfl) rfl rfl d k
theorem gt_N_40 (X : cx_ G ad cc RN fr lo n) (d : decode cc pc = .ok (.getfield 40, 3)) (k : go_ G cells slots (wC ad s_bk s_ln s_kd s_vl s_ct k_ce k_bc m_ra m_up m_on m_lo m_hi m_mo m_ma m_li n_rg n_sb n_st n_pl n_z n_n n_h n_c n_en n_so n_co n_sc l_bk l_of l_en l_ct t_bk t_of t_en t_ct) (pc + 3) lc (.int n_so :: rest)) : go_ G cells slots (wC ad s_bk s_ln s_kd s_vl s_ct k_ce k_bc m_ra m_up m_on m_lo m_hi m_mo m_ma m_li n_rg n_sb n_st n_pl n_z n_n n_h n_c n_en n_so n_co n_sc l_bk l_of l_en l_ct t_bk t_of t_en t_ct) pc lc (.ref (ad 11) :: rest) := go_get X inN 11 rfl rfl 9 (by decide) (wT1 131 rfl rfl) rfl rfl d k
theorem gt_N_43 (X : cx_ G ad cc RN fr lo n) (d : decode cc pc = .ok (.getfield 43, 3)) (k : go_ G cells slots (wC ad s_bk s_ln s_kd s_vl s_ct k_ce k_bc m_ra m_up m_on m_lo m_hi m_mo m_ma m_li n_rg n_sb n_st n_pl n_z n_n n_h n_c n_en n_so n_co n_sc l_bk l_of l_en l_ct t_bk t_of t_en t_ct) (pc + 3) lc (.int n_co :: rest)) : go_ G cells slots (wC ad s_bk s_ln s_kd s_vl s_ct k_ce k_bc m_ra m_up m_on m_lo m_hi m_mo m_ma m_li n_rg n_sb n_st n_pl n_z n_n n_h n_c n_en n_so n_co n_sc l_bk l_of l_en l_ct t_bk t_of t_en t_ct) pc lc (.ref (ad 11) :: rest) := go_get X inN 11 rfl rfl 10 (by decide) (wT1 132 rfl rfl) rfl rfl d k
theorem gt_N_46 (X : cx_ G ad cc RN fr lo n) (d : decode cc pc = .ok (.getfield 46, 3)) (k : go_ G cells slots (wC ad s_bk s_ln s_kd s_vl s_ct k_ce k_bc m_ra m_up m_on m_lo m_hi m_mo m_ma m_li n_rg n_sb n_st n_pl n_z n_n n_h n_c n_en n_so n_co n_sc l_bk l_of l_en l_ct t_bk t_of t_en t_ct) (pc + 3) lc (.int n_sc :: rest)) : go_ G cells slots (wC ad s_bk s_ln s_kd s_vl s_ct k_ce k_bc m_ra m_up m_on m_lo m_hi m_mo m_ma m_li n_rg n_sb n_st n_pl n_z n_n n_h n_c n_en n_so n_co n_sc l_bk l_of l_en l_ct t_bk t_of t_en t_ct) pc lc (.ref (ad 11) :: rest) := go_get X inN 11 rfl rfl 11 (by decide) (wT1 134 rfl rfl) rfl rfl d k
theorem gt_N_58 (X : cx_ G ad cc RN fr lo n) (d : decode cc pc = .ok (.getfield 58, 3)) (k : go_ G cells slots (wC ad s_bk s_ln s_kd s_vl s_ct k_ce k_bc m_ra m_up m_on m_lo m_hi m_mo m_ma m_li n_rg n_sb n_st n_pl n_z n_n n_h n_c n_en n_so n_co n_sc l_bk l_of l_en l_ct t_bk t_of t_en t_ct) (pc + 3) lc (.int n_z :: rest)) : go_ G cells slots (wC ad s_bk s_ln s_kd s_vl s_ct k_ce k_bc m_ra m_up m_on m_lo m_hi m_mo m_ma m_li n_rg n_sb n_st n_pl n_z n_n n_h n_c n_en n_so n_co n_sc l_bk l_of l_en l_ct t_bk t_of t_en t_ct) pc lc (.ref (ad 11) :: rest) := go_get X inN 11 rfl rfl 4 (by decide) (wT1 126 rfl rfl) rfl rfl d k
theorem gt_N_61 (X : cx_ G ad cc RN fr lo n) (d : decode cc pc = .ok (.getfield 61, 3)) (k : go_ G cells slots (wC ad s_bk s_ln s_kd s_vl s_ct k_ce k_bc m_ra m_up m_on m_lo m_hi m_mo m_ma m_li n_rg n_sb n_st n_pl n_z n_n n_h n_c n_en n_so n_co n_sc l_bk l_of l_en l_ct t_bk t_of t_en t_ct) (pc + 3) lc (.int n_n :: rest)) : go_ G cells slots (wC ad s_bk s_ln s_kd s_vl s_ct k_ce k_bc m_ra m_up m_on m_lo m_hi m_mo m_ma m_li n_rg n_sb n_st n_pl n_z n_n n_h n_c n_en n_so n_co n_sc l_bk l_of l_en l_ct t_bk t_of t_en t_ct) pc lc (.ref (ad 11) :: rest) := go_get X inN 11 rfl rfl 5 (by decide) (wT1 127 rfl rfl) rfl rfl d k
theorem gt_N_64 (X : cx_ G ad cc RN fr lo n) (d : decode cc pc = .ok (.getfield 64, 3)) (k : go_ G cells slots (wC ad s_bk s_ln s_kd s_vl s_ct k_ce k_bc m_ra m_up m_on m_lo m_hi m_mo m_ma m_li n_rg n_sb n_st n_pl n_z n_n n_h n_c n_en n_so n_co n_sc l_bk l_of l_en l_ct t_bk t_of t_en t_ct) (pc + 3) lc (.int n_h :: rest)) : go_ G cells slots (wC ad s_bk s_ln s_kd s_vl s_ct k_ce k_bc m_ra m_up m_on m_lo m_hi m_mo m_ma m_li n_rg n_sb n_st n_pl n_z n_n n_h n_c n_en n_so n_co n_sc l_bk l_of l_en l_ct t_bk t_of t_en t_ct) pc lc (.ref (ad 11) :: rest) := go_get X inN 11 rfl rfl 6 (by decide) (wT1 128 rfl rfl) rfl rfl d k
theorem gt_N_9 (X : cx_ G ad cc RN fr lo n) (d : decode cc pc = .ok (.getfield 9, 3)) (k : go_ G cells slots (wC ad s_bk s_ln s_kd s_vl s_ct k_ce k_bc m_ra m_up m_on m_lo m_hi m_mo m_ma m_li n_rg n_sb n_st n_pl n_z n_n n_h n_c n_en n_so n_co n_sc l_bk l_of l_en l_ct t_bk t_of t_en t_ct) (pc + 3) lc (.ref (ad 12) :: rest)) : go_ G cells slots (wC ad s_bk s_ln s_kd s_vl s_ct k_ce k_bc m_ra m_up m_on m_lo m_hi m_mo m_ma m_li n_rg n_sb n_st n_pl n_z n_n n_h n_c n_en n_so n_co n_sc l_bk l_of l_en l_ct t_bk t_of t_en t_ct) pc lc (.ref (ad 11) :: rest) := go_get X inN 11 rfl rfl 1 (by decide) (wT1 123 rfl rfl) rfl rfl d k
theorem gt_N_94 (X : cx_ G ad cc RN fr lo n) (d : decode cc pc = .ok (.getfield 94, 3)) (k : go_ G cells slots (wC ad s_bk s_ln s_kd s_vl s_ct k_ce k_bc m_ra m_up m_on m_lo m_hi m_mo m_ma m_li n_rg n_sb n_st n_pl n_z n_n n_h n_c n_en n_so n_co n_sc l_bk l_of l_en l_ct t_bk t_of t_en t_ct) (pc + 3) lc (.int m_li :: rest)) : go_ G cells slots (wC ad s_bk s_ln s_kd s_vl s_ct k_ce k_bc m_ra m_up m_on m_lo m_hi m_mo m_ma m_li n_rg n_sb n_st n_pl n_z n_n n_h n_c n_en n_so n_co n_sc l_bk l_of l_en l_ct t_bk t_of t_en t_ct) pc lc (.ref (ad 8) :: rest) := go_get X inM 8 rfl rfl 8 (by decide) (wT1 83 rfl rfl) rfl rfl d k
theorem gt_P_15L (X : cx_ G ad cc RP fr lo n) (d : decode cc pc = .ok (.getfield 15, 3)) (k : go_ G cells slots (wC ad s_bk s_ln s_kd s_vl s_ct k_ce k_bc m_ra m_up m_on m_lo m_hi m_mo m_ma m_li n_rg n_sb n_st n_pl n_z n_n n_h n_c n_en n_so n_co n_sc l_bk l_of l_en l_ct t_bk t_of t_en t_ct) (pc + 3) lc (.ref (ad 16) :: rest)) : go_ G cells slots (wC ad s_bk s_ln s_kd s_vl s_ct k_ce k_bc m_ra m_up m_on m_lo m_hi m_mo m_ma m_li n_rg n_sb n_st n_pl n_z n_n n_h n_c n_en n_so n_co n_sc l_bk l_of l_en l_ct t_bk t_of t_en t_ct) pc lc (.ref (ad 14) :: rest) := go_get X inP 14 rfl rfl 1 (by decide) (wT1 174 rfl rfl) rfl rfl d k
theorem gt_P_15T (X : cx_ G ad cc RP fr lo n) (d : decode cc pc = .ok (.getfield 15, 3)) (k : go_ G cells slots (wC ad s_bk s_ln s_kd s_vl s_ct k_ce k_bc m_ra m_up m_on m_lo m_hi m_mo m_ma m_li n_rg n_sb n_st n_pl n_z n_n n_h n_c n_en n_so n_co n_sc l_bk l_of l_en l_ct t_bk t_of t_en t_ct) (pc + 3) lc (.ref (ad 20) :: rest)) : go_ G cells slots (wC ad s_bk s_ln s_kd s_vl s_ct k_ce k_bc m_ra m_up m_on m_lo m_hi m_mo m_ma m_li n_rg n_sb n_st n_pl n_z n_n n_h n_c n_en n_so n_co n_sc l_bk l_of l_en l_ct t_bk t_of t_en t_ct) pc lc (.ref (ad 18) :: rest) := go_get X inP 18 rfl rfl 1 (by decide) (wT1 174 rfl rfl) rfl rfl d k
theorem gt_P_18T (X : cx_ G ad cc RP fr lo n) (d : decode cc pc = .ok (.getfield 18, 3)) (k : go_ G cells slots (wC ad s_bk s_ln s_kd s_vl s_ct k_ce k_bc m_ra m_up m_on m_lo m_hi m_mo m_ma m_li n_rg n_sb n_st n_pl n_z n_n n_h n_c n_en n_so n_co n_sc l_bk l_of l_en l_ct t_bk t_of t_en t_ct) (pc + 3) lc (.ref (ad 21) :: rest)) : go_ G cells slots (wC ad s_bk s_ln s_kd s_vl s_ct k_ce k_bc m_ra m_up m_on m_lo m_hi m_mo m_ma m_li n_rg n_sb n_st n_pl n_z n_n n_h n_c n_en n_so n_co n_sc l_bk l_of l_en l_ct t_bk t_of t_en t_ct) pc lc (.ref (ad 18) :: rest) := go_get X inP 18 rfl rfl 2 (by decide) (wT1 176 rfl rfl) rfl rfl d k
theorem gt_P_21 (X : cx_ G ad cc RP fr lo n) (d : decode cc pc = .ok (.getfield 21, 3)) (k : go_ G cells slots (wC ad s_bk s_ln s_kd s_vl s_ct k_ce k_bc m_ra m_up m_on m_lo m_hi m_mo m_ma m_li n_rg n_sb n_st n_pl n_z n_n n_h n_c n_en n_so n_co n_sc l_bk l_of l_en l_ct t_bk t_of t_en t_ct) (pc + 3) lc (.int s_ct :: rest)) : go_ G cells slots (wC ad s_bk s_ln s_kd s_vl s_ct k_ce k_bc m_ra m_up m_on m_lo m_hi m_mo m_ma m_li n_rg n_sb n_st n_pl n_z n_n n_h n_c n_en n_so n_co n_sc l_bk l_of l_en l_ct t_bk t_of t_en t_ct) pc lc (.ref (ad 1) :: rest) := go_get X inS 1 rfl rfl 4 (by decide) (wT1 39 rfl rfl) rfl rfl d k
theorem gt_P_27T (X : cx_ G ad cc RP fr lo n) (d : decode cc pc = .ok (.getfield 27, 3)) (k : go_ G cells slots (wC ad s_bk s_ln s_kd s_vl s_ct k_ce k_bc m_ra m_up m_on m_lo m_hi m_mo m_ma m_li n_rg n_sb n_st n_pl n_z n_n n_h n_c n_en n_so n_co n_sc l_bk l_of l_en l_ct t_bk t_of t_en t_ct) (pc + 3) lc (.int t_ct :: rest)) : go_ G cells slots (wC ad s_bk s_ln s_kd s_vl s_ct k_ce k_bc m_ra m_up m_on m_lo m_hi m_mo m_ma m_li n_rg n_sb n_st n_pl n_z n_n n_h n_c n_en n_so n_co n_sc l_bk l_of l_en l_ct t_bk t_of t_en t_ct) pc lc (.ref (ad 18) :: rest) := go_get X inP 18 rfl rfl 3 (by decide) (wT1 177 rfl rfl) rfl rfl d k
theorem gt_P_35 (X : cx_ G ad cc RP fr lo n) (d : decode cc pc = .ok (.getfield 35, 3)) (k : go_ G cells slots (wC ad s_bk s_ln s_kd s_vl s_ct k_ce k_bc m_ra m_up m_on m_lo m_hi m_mo m_ma m_li n_rg n_sb n_st n_pl n_z n_n n_h n_c n_en n_so n_co n_sc l_bk l_of l_en l_ct t_bk t_of t_en t_ct) (pc + 3) lc (.ref (ad 2) :: rest)) : go_ G cells slots (wC ad s_bk s_ln s_kd s_vl s_ct k_ce k_bc m_ra m_up m_on m_lo m_hi m_mo m_ma m_li n_rg n_sb n_st n_pl n_z n_n n_h n_c n_en n_so n_co n_sc l_bk l_of l_en l_ct t_bk t_of t_en t_ct) pc lc (.ref (ad 1) :: rest) := go_get X inS 1 rfl rfl 0 (by decide) (wT1 30 rfl rfl) rfl rfl d k
theorem gt_P_36 (X : cx_ G ad cc RP fr lo n) (d : decode cc pc = .ok (.getfield 36, 3)) (k : go_ G cells slots (wC ad s_bk s_ln s_kd s_vl s_ct k_ce k_bc m_ra m_up m_on m_lo m_hi m_mo m_ma m_li n_rg n_sb n_st n_pl n_z n_n n_h n_c n_en n_so n_co n_sc l_bk l_of l_en l_ct t_bk t_of t_en t_ct) (pc + 3) lc (.ref (ad 3) :: rest)) : go_ G cells slots (wC ad s_bk s_ln s_kd s_vl s_ct k_ce k_bc m_ra m_up m_on m_lo m_hi m_mo m_ma m_li n_rg n_sb n_st n_pl n_z n_n n_h n_c n_en n_so n_co n_sc l_bk l_of l_en l_ct t_bk t_of t_en t_ct) pc lc (.ref (ad 1) :: rest) := go_get X inS 1 rfl rfl 1 (by decide) (wT1 32 rfl rfl) rfl rfl d k
theorem gt_P_9L (X : cx_ G ad cc RP fr lo n) (d : decode cc pc = .ok (.getfield 9, 3)) (k : go_ G cells slots (wC ad s_bk s_ln s_kd s_vl s_ct k_ce k_bc m_ra m_up m_on m_lo m_hi m_mo m_ma m_li n_rg n_sb n_st n_pl n_z n_n n_h n_c n_en n_so n_co n_sc l_bk l_of l_en l_ct t_bk t_of t_en t_ct) (pc + 3) lc (.ref (ad 15) :: rest)) : go_ G cells slots (wC ad s_bk s_ln s_kd s_vl s_ct k_ce k_bc m_ra m_up m_on m_lo m_hi m_mo m_ma m_li n_rg n_sb n_st n_pl n_z n_n n_h n_c n_en n_so n_co n_sc l_bk l_of l_en l_ct t_bk t_of t_en t_ct) pc lc (.ref (ad 14) :: rest) := go_get X inP 14 rfl rfl 0 (by decide) (wT1 171 rfl rfl) rfl rfl d k
theorem gt_P_9T (X : cx_ G ad cc RP fr lo n) (d : decode cc pc = .ok (.getfield 9, 3)) (k : go_ G cells slots (wC ad s_bk s_ln s_kd s_vl s_ct k_ce k_bc m_ra m_up m_on m_lo m_hi m_mo m_ma m_li n_rg n_sb n_st n_pl n_z n_n n_h n_c n_en n_so n_co n_sc l_bk l_of l_en l_ct t_bk t_of t_en t_ct) (pc + 3) lc (.ref (ad 19) :: rest)) : go_ G cells slots (wC ad s_bk s_ln s_kd s_vl s_ct k_ce k_bc m_ra m_up m_on m_lo m_hi m_mo m_ma m_li n_rg n_sb n_st n_pl n_z n_n n_h n_c n_en n_so n_co n_sc l_bk l_of l_en l_ct t_bk t_of t_en t_ct) pc lc (.ref (ad 18) :: rest) := go_get X inP 18 rfl rfl 0 (by decide) (wT1 171 rfl rfl) rfl rfl d k
theorem gt_Q_100 (X : cx_ G ad cc RQ fr lo n) (d : decode cc pc = .ok (.getfield 100, 3)) (k : go_ G cells slots (wM ad q_code q_many q_pin q_size q_bytes q_kind q_bank q_address q_full q_linked q_packedBank q_packedAddress q_banks q_memory q_register q_stack q_place q_zero q_less q_half q_carry q_enabled q_soon q_ram q_low q_top q_mode q_state q_sent q_out) (pc + 3) lc (.int q_many :: rest)) : go_ G cells slots (wM ad q_code q_many q_pin q_size q_bytes q_kind q_bank q_address q_full q_linked q_packedBank q_packedAddress q_banks q_memory q_register q_stack q_place q_zero q_less q_half q_carry q_enabled q_soon q_ram q_low q_top q_mode q_state q_sent q_out) pc lc (.ref (ad 30) :: rest) := go_get X inQ 0 rfl rfl 1 (by decide) (wT3 183 rfl rfl) rfl rfl d k
theorem gt_Q_114 (X : cx_ G ad cc RQ fr lo n) (d : decode cc pc = .ok (.getfield 114, 3)) (k : go_ G cells slots (wM ad q_code q_many q_pin q_size q_bytes q_kind q_bank q_address q_full q_linked q_packedBank q_packedAddress q_banks q_memory q_register q_stack q_place q_zero q_less q_half q_carry q_enabled q_soon q_ram q_low q_top q_mode q_state q_sent q_out) (pc + 3) lc (.int q_banks :: rest)) : go_ G cells slots (wM ad q_code q_many q_pin q_size q_bytes q_kind q_bank q_address q_full q_linked q_packedBank q_packedAddress q_banks q_memory q_register q_stack q_place q_zero q_less q_half q_carry q_enabled q_soon q_ram q_low q_top q_mode q_state q_sent q_out) pc lc (.ref (ad 30) :: rest) := go_get X inQ 0 rfl rfl 12 (by decide) (wT3 194 rfl rfl) rfl rfl d k
theorem gt_Q_13 (X : cx_ G ad cc RQ fr lo n) (d : decode cc pc = .ok (.getfield 13, 3)) (k : go_ G cells slots (wM ad q_code q_many q_pin q_size q_bytes q_kind q_bank q_address q_full q_linked q_packedBank q_packedAddress q_banks q_memory q_register q_stack q_place q_zero q_less q_half q_carry q_enabled q_soon q_ram q_low q_top q_mode q_state q_sent q_out) (pc + 3) lc (.ref (ad 32) :: rest)) : go_ G cells slots (wM ad q_code q_many q_pin q_size q_bytes q_kind q_bank q_address q_full q_linked q_packedBank q_packedAddress q_banks q_memory q_register q_stack q_place q_zero q_less q_half q_carry q_enabled q_soon q_ram q_low q_top q_mode q_state q_sent q_out) pc lc (.ref (ad 30) :: rest) := go_get X inQ 0 rfl rfl 3 (by decide) (wT3 185 rfl rfl) rfl rfl d k
theorem gt_Q_143 (X : cx_ G ad cc RQ fr lo n) (d : decode cc pc = .ok (.getfield 143, 3)) (k : go_ G cells slots (wM ad q_code q_many q_pin q_size q_bytes q_kind q_bank q_address q_full q_linked q_packedBank q_packedAddress q_banks q_memory q_register q_stack q_place q_zero q_less q_half q_carry q_enabled q_soon q_ram q_low q_top q_mode q_state q_sent q_out) (pc + 3) lc (.int q_linked :: rest)) : go_ G cells slots (wM ad q_code q_many q_pin q_size q_bytes q_kind q_bank q_address q_full q_linked q_packedBank q_packedAddress q_banks q_memory q_register q_stack q_place q_zero q_less q_half q_carry q_enabled q_soon q_ram q_low q_top q_mode q_state q_sent q_out) pc lc (.ref (ad 30) :: rest) := go_get X inQ 0 rfl rfl 9 (by decide) (wT3 191 rfl rfl) rfl rfl d k
theorem gt_Q_16 (X : cx_ G ad cc RQ fr lo n) (d : decode cc pc = .ok (.getfield 16, 3)) (k : go_ G cells slots (wM ad q_code q_many q_pin q_size q_bytes q_kind q_bank q_address q_full q_linked q_packedBank q_packedAddress q_banks q_memory q_register q_stack q_place q_zero q_less q_half q_carry q_enabled q_soon q_ram q_low q_top q_mode q_state q_sent q_out) (pc + 3) lc (.ref (ad 33) :: rest)) : go_ G cells slots (wM ad q_code q_many q_pin q_size q_bytes q_kind q_bank q_address q_full q_linked q_packedBank q_packedAddress q_banks q_memory q_register q_stack q_place q_zero q_less q_half q_carry q_enabled q_soon q_ram q_low q_top q_mode q_state q_sent q_out) pc lc (.ref (ad 30) :: rest) := go_get X inQ 0 rfl rfl 4 (by decide) (wT3 186 rfl rfl) rfl rfl d k
theorem gt_Q_19 (X : cx_ G ad cc RQ fr lo n) (d : decode cc pc = .ok (.getfield 19, 3)) (k : go_ G cells slots (wM ad q_code q_many q_pin q_size q_bytes q_kind q_bank q_address q_full q_linked q_packedBank q_packedAddress q_banks q_memory q_register q_stack q_place q_zero q_less q_half q_carry q_enabled q_soon q_ram q_low q_top q_mode q_state q_sent q_out) (pc + 3) lc (.ref (ad 34) :: rest)) : go_ G cells slots (wM ad q_code q_many q_pin q_size q_bytes q_kind q_bank q_address q_full q_linked q_packedBank q_packedAddress q_banks q_memory q_register q_stack q_place q_zero q_less q_half q_carry q_enabled q_soon q_ram q_low q_top q_mode q_state q_sent q_out) pc lc (.ref (ad 30) :: rest) := go_get X inQ 0 rfl rfl 5 (by decide) (wT3 187 rfl rfl) rfl rfl d k
theorem gt_Q_22 (X : cx_ G ad cc RQ fr lo n) (d : decode cc pc = .ok (.getfield 22, 3)) (k : go_ G cells slots (wM ad q_code q_many q_pin q_size q_bytes q_kind q_bank q_address q_full q_linked q_packedBank q_packedAddress q_banks q_memory q_register q_stack q_place q_zero q_less q_half q_carry q_enabled q_soon q_ram q_low q_top q_mode q_state q_sent q_out) (pc + 3) lc (.ref (ad 35) :: rest)) : go_ G cells slots (wM ad q_code q_many q_pin q_size q_bytes q_kind q_bank q_address q_full q_linked q_packedBank q_packedAddress q_banks q_memory q_register q_stack q_place q_zero q_less q_half q_carry q_enabled q_soon q_ram q_low q_top q_mode q_state q_sent q_out) pc lc (.ref (ad 30) :: rest) := go_get X inQ 0 rfl rfl 6 (by decide) (wT3 188 rfl rfl) rfl rfl d k
theorem gt_Q_25 (X : cx_ G ad cc RQ fr lo n) (d : decode cc pc = .ok (.getfield 25, 3)) (k : go_ G cells slots (wM ad q_code q_many q_pin q_size q_bytes q_kind q_bank q_address q_full q_linked q_packedBank q_packedAddress q_banks q_memory q_register q_stack q_place q_zero q_less q_half q_carry q_enabled q_soon q_ram q_low q_top q_mode q_state q_sent q_out) (pc + 3) lc (.ref (ad 36) :: rest)) : go_ G cells slots (wM ad q_code q_many q_pin q_size q_bytes q_kind q_bank q_address q_full q_linked q_packedBank q_packedAddress q_banks q_memory q_register q_stack q_place q_zero q_less q_half q_carry q_enabled q_soon q_ram q_low q_top q_mode q_state q_sent q_out) pc lc (.ref (ad 30) :: rest) := go_get X inQ 0 rfl rfl 7 (by decide) (wT3 189 rfl rfl) rfl rfl d k
theorem gt_Q_28 (X : cx_ G ad cc RQ fr lo n) (d : decode cc pc = .ok (.getfield 28, 3)) (k : go_ G cells slots (wM ad q_code q_many q_pin q_size q_bytes q_kind q_bank q_address q_full q_linked q_packedBank q_packedAddress q_banks q_memory q_register q_stack q_place q_zero q_less q_half q_carry q_enabled q_soon q_ram q_low q_top q_mode q_state q_sent q_out) (pc + 3) lc (.ref (ad 37) :: rest)) : go_ G cells slots (wM ad q_code q_many q_pin q_size q_bytes q_kind q_bank q_address q_full q_linked q_packedBank q_packedAddress q_banks q_memory q_register q_stack q_place q_zero q_less q_half q_carry q_enabled q_soon q_ram q_low q_top q_mode q_state q_sent q_out) pc lc (.ref (ad 30) :: rest) := go_get X inQ 0 rfl rfl 8 (by decide) (wT3 190 rfl rfl) rfl rfl d k
theorem gt_Q_31 (X : cx_ G ad cc RQ fr lo n) (d : decode cc pc = .ok (.getfield 31, 3)) (k : go_ G cells slots (wM ad q_code q_many q_pin q_size q_bytes q_kind q_bank q_address q_full q_linked q_packedBank q_packedAddress q_banks q_memory q_register q_stack q_place q_zero q_less q_half q_carry q_enabled q_soon q_ram q_low q_top q_mode q_state q_sent q_out) (pc + 3) lc (.ref (ad 38) :: rest)) : go_ G cells slots (wM ad q_code q_many q_pin q_size q_bytes q_kind q_bank q_address q_full q_linked q_packedBank q_packedAddress q_banks q_memory q_register q_stack q_place q_zero q_less q_half q_carry q_enabled q_soon q_ram q_low q_top q_mode q_state q_sent q_out) pc lc (.ref (ad 30) :: rest) := go_get X inQ 0 rfl rfl 10 (by decide) (wT3 192 rfl rfl) rfl rfl d k
theorem gt_Q_34 (X : cx_ G ad cc RQ fr lo n) (d : decode cc pc = .ok (.getfield 34, 3)) (k : go_ G cells slots (wM ad q_code q_many q_pin q_size q_bytes q_kind q_bank q_address q_full q_linked q_packedBank q_packedAddress q_banks q_memory q_register q_stack q_place q_zero q_less q_half q_carry q_enabled q_soon q_ram q_low q_top q_mode q_state q_sent q_out) (pc + 3) lc (.ref (ad 39) :: rest)) : go_ G cells slots (wM ad q_code q_many q_pin q_size q_bytes q_kind q_bank q_address q_full q_linked q_packedBank q_packedAddress q_banks q_memory q_register q_stack q_place q_zero q_less q_half q_carry q_enabled q_soon q_ram q_low q_top q_mode q_state q_sent q_out) pc lc (.ref (ad 30) :: rest) := go_get X inQ 0 rfl rfl 11 (by decide) (wT3 193 rfl rfl) rfl rfl d k
theorem gt_Q_37 (X : cx_ G ad cc RQ fr lo n) (d : decode cc pc = .ok (.getfield 37, 3)) (k : go_ G cells slots (wM ad q_code q_many q_pin q_size q_bytes q_kind q_bank q_address q_full q_linked q_packedBank q_packedAddress q_banks q_memory q_register q_stack q_place q_zero q_less q_half q_carry q_enabled q_soon q_ram q_low q_top q_mode q_state q_sent q_out) (pc + 3) lc (.ref (ad 40) :: rest)) : go_ G cells slots (wM ad q_code q_many q_pin q_size q_bytes q_kind q_bank q_address q_full q_linked q_packedBank q_packedAddress q_banks q_memory q_register q_stack q_place q_zero q_less q_half q_carry q_enabled q_soon q_ram q_low q_top q_mode q_state q_sent q_out) pc lc (.ref (ad 30) :: rest) := go_get X inQ 0 rfl rfl 13 (by decide) (wT3 195 rfl rfl) rfl rfl d k
theorem gt_Q_40 (X : cx_ G ad cc RQ fr lo n) (d : decode cc pc = .ok (.getfield 40, 3)) (k : go_ G cells slots (wM ad q_code q_many q_pin q_size q_bytes q_kind q_bank q_address q_full q_linked q_packedBank q_packedAddress q_banks q_memory q_register q_stack q_place q_zero q_less q_half q_carry q_enabled q_soon q_ram q_low q_top q_mode q_state q_sent q_out) (pc + 3) lc (.ref (ad 41) :: rest)) : go_ G cells slots (wM ad q_code q_many q_pin q_size q_bytes q_kind q_bank q_address q_full q_linked q_packedBank q_packedAddress q_banks q_memory q_register q_stack q_place q_zero q_less q_half q_carry q_enabled q_soon q_ram q_low q_top q_mode q_state q_sent q_out) pc lc (.ref (ad 30) :: rest) := go_get X inQ 0 rfl rfl 14 (by decide) (wT3 196 rfl rfl) rfl rfl d k
theorem gt_Q_43 (X : cx_ G ad cc RQ fr lo n) (d : decode cc pc = .ok (.getfield 43, 3)) (k : go_ G cells slots (wM ad q_code q_many q_pin q_size q_bytes q_kind q_bank q_address q_full q_linked q_packedBank q_packedAddress q_banks q_memory q_register q_stack q_place q_zero q_less q_half q_carry q_enabled q_soon q_ram q_low q_top q_mode q_state q_sent q_out) (pc + 3) lc (.ref (ad 42) :: rest)) : go_ G cells slots (wM ad q_code q_many q_pin q_size q_bytes q_kind q_bank q_address q_full q_linked q_packedBank q_packedAddress q_banks q_memory q_register q_stack q_place q_zero q_less q_half q_carry q_enabled q_soon q_ram q_low q_top q_mode q_state q_sent q_out) pc lc (.ref (ad 30) :: rest) := go_get X inQ 0 rfl rfl 29 (by decide) (wT3 211 rfl rfl) rfl rfl d k
theorem gt_Q_49 (X : cx_ G ad cc RQ fr lo n) (d : decode cc pc = .ok (.getfield 49, 3)) (k : go_ G cells slots (wM ad q_code q_many q_pin q_size q_bytes q_kind q_bank q_address q_full q_linked q_packedBank q_packedAddress q_banks q_memory q_register q_stack q_place q_zero q_less q_half q_carry q_enabled q_soon q_ram q_low q_top q_mode q_state q_sent q_out) (pc + 3) lc (.int q_code :: rest)) : go_ G cells slots (wM ad q_code q_many q_pin q_size q_bytes q_kind q_bank q_address q_full q_linked q_packedBank q_packedAddress q_banks q_memory q_register q_stack q_place q_zero q_less q_half q_carry q_enabled q_soon q_ram q_low q_top q_mode q_state q_sent q_out) pc lc (.ref (ad 30) :: rest) := go_get X inQ 0 rfl rfl 0 (by decide) (wT3 182 rfl rfl) rfl rfl d k
theorem gt_Q_53 (X : cx_ G ad cc RQ fr lo n) (d : decode cc pc = .ok (.getfield 53, 3)) (k : go_ G cells slots (wM ad q_code q_many q_pin q_size q_bytes q_kind q_bank q_address q_full q_linked q_packedBank q_packedAddress q_banks q_memory q_register q_stack q_place q_zero q_less q_half q_carry q_enabled q_soon q_ram q_low q_top q_mode q_state q_sent q_out) (pc + 3) lc (.int q_stack :: rest)) : go_ G cells slots (wM ad q_code q_many q_pin q_size q_bytes q_kind q_bank q_address q_full q_linked q_packedBank q_packedAddress q_banks q_memory q_register q_stack q_place q_zero q_less q_half q_carry q_enabled q_soon q_ram q_low q_top q_mode q_state q_sent q_out) pc lc (.ref (ad 30) :: rest) := go_get X inQ 0 rfl rfl 15 (by decide) (wT3 197 rfl rfl) rfl rfl d k
theorem gt_Q_56 (X : cx_ G ad cc RQ fr lo n) (d : decode cc pc = .ok (.getfield 56, 3)) (k : go_ G cells slots (wM ad q_code q_many q_pin q_size q_bytes q_kind q_bank q_address q_full q_linked q_packedBank q_packedAddress q_banks q_memory q_register q_stack q_place q_zero q_less q_half q_carry q_enabled q_soon q_ram q_low q_top q_mode q_state q_sent q_out) (pc + 3) lc (.int q_place :: rest)) : go_ G cells slots (wM ad q_code q_many q_pin q_size q_bytes q_kind q_bank q_address q_full q_linked q_packedBank q_packedAddress q_banks q_memory q_register q_stack q_place q_zero q_less q_half q_carry q_enabled q_soon q_ram q_low q_top q_mode q_state q_sent q_out) pc lc (.ref (ad 30) :: rest) := go_get X inQ 0 rfl rfl 16 (by decide) (wT3 198 rfl rfl) rfl rfl d k
theorem gt_Q_59 (X : cx_ G ad cc RQ fr lo n) (d : decode cc pc = .ok (.getfield 59, 3)) (k : go_ G cells slots (wM ad q_code q_many q_pin q_size q_bytes q_kind q_bank q_address q_full q_linked q_packedBank q_packedAddress q_banks q_memory q_register q_stack q_place q_zero q_less q_half q_carry q_enabled q_soon q_ram q_low q_top q_mode q_state q_sent q_out) (pc + 3) lc (.int q_zero :: rest)) : go_ G cells slots (wM ad q_code q_many q_pin q_size q_bytes q_kind q_bank q_address q_full q_linked q_packedBank q_packedAddress q_banks q_memory q_register q_stack q_place q_zero q_less q_half q_carry q_enabled q_soon q_ram q_low q_top q_mode q_state q_sent q_out) pc lc (.ref (ad 30) :: rest) := go_get X inQ 0 rfl rfl 17 (by decide) (wT3 199 rfl rfl) rfl rfl d k
theorem gt_Q_63 (X : cx_ G ad cc RQ fr lo n) (d : decode cc pc = .ok (.getfield 63, 3)) (k : go_ G cells slots (wM ad q_code q_many q_pin q_size q_bytes q_kind q_bank q_address q_full q_linked q_packedBank q_packedAddress q_banks q_memory q_register q_stack q_place q_zero q_less q_half q_carry q_enabled q_soon q_ram q_low q_top q_mode q_state q_sent q_out) (pc + 3) lc (.int q_less :: rest)) : go_ G cells slots (wM ad q_code q_many q_pin q_size q_bytes q_kind q_bank q_address q_full q_linked q_packedBank q_packedAddress q_banks q_memory q_register q_stack q_place q_zero q_less q_half q_carry q_enabled q_soon q_ram q_low q_top q_mode q_state q_sent q_out) pc lc (.ref (ad 30) :: rest) := go_get X inQ 0 rfl rfl 18 (by decide) (wT3 200 rfl rfl) rfl rfl d k
theorem gt_Q_66 (X : cx_ G ad cc RQ fr lo n) (d : decode cc pc = .ok (.getfield 66, 3)) (k : go_ G cells slots (wM ad q_code q_many q_pin q_size q_bytes q_kind q_bank q_address q_full q_linked q_packedBank q_packedAddress q_banks q_memory q_register q_stack q_place q_zero q_less q_half q_carry q_enabled q_soon q_ram q_low q_top q_mode q_state q_sent q_out) (pc + 3) lc (.int q_half :: rest)) : go_ G cells slots (wM ad q_code q_many q_pin q_size q_bytes q_kind q_bank q_address q_full q_linked q_packedBank q_packedAddress q_banks q_memory q_register q_stack q_place q_zero q_less q_half q_carry q_enabled q_soon q_ram q_low q_top q_mode q_state q_sent q_out) pc lc (.ref (ad 30) :: rest) := go_get X inQ 0 rfl rfl 19 (by decide) (wT3 201 rfl rfl) rfl rfl d k
theorem gt_Q_69 (X : cx_ G ad cc RQ fr lo n) (d : decode cc pc = .ok (.getfield 69, 3)) (k : go_ G cells slots (wM ad q_code q_many q_pin q_size q_bytes q_kind q_bank q_address q_full q_linked q_packedBank q_packedAddress q_banks q_memory q_register q_stack q_place q_zero q_less q_half q_carry q_enabled q_soon q_ram q_low q_top q_mode q_state q_sent q_out) (pc + 3) lc (.int q_carry :: rest)) : go_ G cells slots (wM ad q_code q_many q_pin q_size q_bytes q_kind q_bank q_address q_full q_linked q_packedBank q_packedAddress q_banks q_memory q_register q_stack q_place q_zero q_less q_half q_carry q_enabled q_soon q_ram q_low q_top q_mode q_state q_sent q_out) pc lc (.ref (ad 30) :: rest) := go_get X inQ 0 rfl rfl 20 (by decide) (wT3 202 rfl rfl) rfl rfl d k
theorem gt_Q_7 (X : cx_ G ad cc RQ fr lo n) (d : decode cc pc = .ok (.getfield 7, 3)) (k : go_ G cells slots (wM ad q_code q_many q_pin q_size q_bytes q_kind q_bank q_address q_full q_linked q_packedBank q_packedAddress q_banks q_memory q_register q_stack q_place q_zero q_less q_half q_carry q_enabled q_soon q_ram q_low q_top q_mode q_state q_sent q_out) (pc + 3) lc (.ref (ad 31) :: rest)) : go_ G cells slots (wM ad q_code q_many q_pin q_size q_bytes q_kind q_bank q_address q_full q_linked q_packedBank q_packedAddress q_banks q_memory q_register q_stack q_place q_zero q_less q_half q_carry q_enabled q_soon q_ram q_low q_top q_mode q_state q_sent q_out) pc lc (.ref (ad 30) :: rest) := go_get X inQ 0 rfl rfl 2 (by decide) (wT3 184 rfl rfl) rfl rfl d k
theorem gt_Q_72 (X : cx_ G ad cc RQ fr lo n) (d : decode cc pc = .ok (.getfield 72, 3)) (k : go_ G cells slots (wM ad q_code q_many q_pin q_size q_bytes q_kind q_bank q_address q_full q_linked q_packedBank q_packedAddress q_banks q_memory q_register q_stack q_place q_zero q_less q_half q_carry q_enabled q_soon q_ram q_low q_top q_mode q_state q_sent q_out) (pc + 3) lc (.int q_enabled :: rest)) : go_ G cells slots (wM ad q_code q_many q_pin q_size q_bytes q_kind q_bank q_address q_full q_linked q_packedBank q_packedAddress q_banks q_memory q_register q_stack q_place q_zero q_less q_half q_carry q_enabled q_soon q_ram q_low q_top q_mode q_state q_sent q_out) pc lc (.ref (ad 30) :: rest) := go_get X inQ 0 rfl rfl 21 (by decide) (wT3 203 rfl rfl) rfl rfl d k
theorem gt_Q_75 (X : cx_ G ad cc RQ fr lo n) (d : decode cc pc = .ok (.getfield 75, 3)) (k : go_ G cells slots (wM ad q_code q_many q_pin q_size q_bytes q_kind q_bank q_address q_full q_linked q_packedBank q_packedAddress q_banks q_memory q_register q_stack q_place q_zero q_less q_half q_carry q_enabled q_soon q_ram q_low q_top q_mode q_state q_sent q_out) (pc + 3) lc (.int q_soon :: rest)) : go_ G cells slots (wM ad q_code q_many q_pin q_size q_bytes q_kind q_bank q_address q_full q_linked q_packedBank q_packedAddress q_banks q_memory q_register q_stack q_place q_zero q_less q_half q_carry q_enabled q_soon q_ram q_low q_top q_mode q_state q_sent q_out) pc lc (.ref (ad 30) :: rest) := go_get X inQ 0 rfl rfl 22 (by decide) (wT3 204 rfl rfl) rfl rfl d k
theorem gt_Q_78 (X : cx_ G ad cc RQ fr lo n) (d : decode cc pc = .ok (.getfield 78, 3)) (k : go_ G cells slots (wM ad q_code q_many q_pin q_size q_bytes q_kind q_bank q_address q_full q_linked q_packedBank q_packedAddress q_banks q_memory q_register q_stack q_place q_zero q_less q_half q_carry q_enabled q_soon q_ram q_low q_top q_mode q_state q_sent q_out) (pc + 3) lc (.int q_ram :: rest)) : go_ G cells slots (wM ad q_code q_many q_pin q_size q_bytes q_kind q_bank q_address q_full q_linked q_packedBank q_packedAddress q_banks q_memory q_register q_stack q_place q_zero q_less q_half q_carry q_enabled q_soon q_ram q_low q_top q_mode q_state q_sent q_out) pc lc (.ref (ad 30) :: rest) := go_get X inQ 0 rfl rfl 23 (by decide) (wT3 205 rfl rfl) rfl rfl d k
theorem gt_Q_81 (X : cx_ G ad cc RQ fr lo n) (d : decode cc pc = .ok (.getfield 81, 3)) (k : go_ G cells slots (wM ad q_code q_many q_pin q_size q_bytes q_kind q_bank q_address q_full q_linked q_packedBank q_packedAddress q_banks q_memory q_register q_stack q_place q_zero q_less q_half q_carry q_enabled q_soon q_ram q_low q_top q_mode q_state q_sent q_out) (pc + 3) lc (.int q_low :: rest)) : go_ G cells slots (wM ad q_code q_many q_pin q_size q_bytes q_kind q_bank q_address q_full q_linked q_packedBank q_packedAddress q_banks q_memory q_register q_stack q_place q_zero q_less q_half q_carry q_enabled q_soon q_ram q_low q_top q_mode q_state q_sent q_out) pc lc (.ref (ad 30) :: rest) := go_get X inQ 0 rfl rfl 24 (by decide) (wT3 206 rfl rfl) rfl rfl d k
theorem gt_Q_84 (X : cx_ G ad cc RQ fr lo n) (d : decode cc pc = .ok (.getfield 84, 3)) (k : go_ G cells slots (wM ad q_code q_many q_pin q_size q_bytes q_kind q_bank q_address q_full q_linked q_packedBank q_packedAddress q_banks q_memory q_register q_stack q_place q_zero q_less q_half q_carry q_enabled q_soon q_ram q_low q_top q_mode q_state q_sent q_out) (pc + 3) lc (.int q_top :: rest)) : go_ G cells slots (wM ad q_code q_many q_pin q_size q_bytes q_kind q_bank q_address q_full q_linked q_packedBank q_packedAddress q_banks q_memory q_register q_stack q_place q_zero q_less q_half q_carry q_enabled q_soon q_ram q_low q_top q_mode q_state q_sent q_out) pc lc (.ref (ad 30) :: rest) := go_get X inQ 0 rfl rfl 25 (by decide) (wT3 207 rfl rfl) rfl rfl d k
theorem gt_Q_87 (X : cx_ G ad cc RQ fr lo n) (d : decode cc pc = .ok (.getfield 87, 3)) (k : go_ G cells slots (wM ad q_code q_many q_pin q_size q_bytes q_kind q_bank q_address q_full q_linked q_packedBank q_packedAddress q_banks q_memory q_register q_stack q_place q_zero q_less q_half q_carry q_enabled q_soon q_ram q_low q_top q_mode q_state q_sent q_out) (pc + 3) lc (.int q_mode :: rest)) : go_ G cells slots (wM ad q_code q_many q_pin q_size q_bytes q_kind q_bank q_address q_full q_linked q_packedBank q_packedAddress q_banks q_memory q_register q_stack q_place q_zero q_less q_half q_carry q_enabled q_soon q_ram q_low q_top q_mode q_state q_sent q_out) pc lc (.ref (ad 30) :: rest) := go_get X inQ 0 rfl rfl 26 (by decide) (wT3 208 rfl rfl) rfl rfl d k
theorem gt_Q_90 (X : cx_ G ad cc RQ fr lo n) (d : decode cc pc = .ok (.getfield 90, 3)) (k : go_ G cells slots (wM ad q_code q_many q_pin q_size q_bytes q_kind q_bank q_address q_full q_linked q_packedBank q_packedAddress q_banks q_memory q_register q_stack q_place q_zero q_less q_half q_carry q_enabled q_soon q_ram q_low q_top q_mode q_state q_sent q_out) (pc + 3) lc (.int q_state :: rest)) : go_ G cells slots (wM ad q_code q_many q_pin q_size q_bytes q_kind q_bank q_address q_full q_linked q_packedBank q_packedAddress q_banks q_memory q_register q_stack q_place q_zero q_less q_half q_carry q_enabled q_soon q_ram q_low q_top q_mode q_state q_sent q_out) pc lc (.ref (ad 30) :: rest) := go_get X inQ 0 rfl rfl 27 (by decide) (wT3 209 rfl rfl) rfl rfl d k
theorem gt_Q_93 (X : cx_ G ad cc RQ fr lo n) (d : decode cc pc = .ok (.getfield 93, 3)) (k : go_ G cells slots (wM ad q_code q_many q_pin q_size q_bytes q_kind q_bank q_address q_full q_linked q_packedBank q_packedAddress q_banks q_memory q_register q_stack q_place q_zero q_less q_half q_carry q_enabled q_soon q_ram q_low q_top q_mode q_state q_sent q_out) (pc + 3) lc (.int q_sent :: rest)) : go_ G cells slots (wM ad q_code q_many q_pin q_size q_bytes q_kind q_bank q_address q_full q_linked q_packedBank q_packedAddress q_banks q_memory q_register q_stack q_place q_zero q_less q_half q_carry q_enabled q_soon q_ram q_low q_top q_mode q_state q_sent q_out) pc lc (.ref (ad 30) :: rest) := go_get X inQ 0 rfl rfl 28 (by decide) (wT3 210 rfl rfl) rfl rfl d k
theorem gt_S_15 (X : cx_ G ad cc RS fr lo n) (d : decode cc pc = .ok (.getfield 15, 3)) (k : go_ G cells slots (wC ad s_bk s_ln s_kd s_vl s_ct k_ce k_bc m_ra m_up m_on m_lo m_hi m_mo m_ma m_li n_rg n_sb n_st n_pl n_z n_n n_h n_c n_en n_so n_co n_sc l_bk l_of l_en l_ct t_bk t_of t_en t_ct) (pc + 3) lc (.ref (ad 3) :: rest)) : go_ G cells slots (wC ad s_bk s_ln s_kd s_vl s_ct k_ce k_bc m_ra m_up m_on m_lo m_hi m_mo m_ma m_li n_rg n_sb n_st n_pl n_z n_n n_h n_c n_en n_so n_co n_sc l_bk l_of l_en l_ct t_bk t_of t_en t_ct) pc lc (.ref (ad 1) :: rest) := go_get X inS 1 rfl rfl 1 (by decide) (wT1 31 rfl rfl) rfl rfl d k
theorem gt_S_18 (X : cx_ G ad cc RS fr lo n) (d : decode cc pc = .ok (.getfield 18, 3)) (k : go_ G cells slots (wC ad s_bk s_ln s_kd s_vl s_ct k_ce k_bc m_ra m_up m_on m_lo m_hi m_mo m_ma m_li n_rg n_sb n_st n_pl n_z n_n n_h n_c n_en n_so n_co n_sc l_bk l_of l_en l_ct t_bk t_of t_en t_ct) (pc + 3) lc (.ref (ad 4) :: rest)) : go_ G cells slots (wC ad s_bk s_ln s_kd s_vl s_ct k_ce k_bc m_ra m_up m_on m_lo m_hi m_mo m_ma m_li n_rg n_sb n_st n_pl n_z n_n n_h n_c n_en n_so n_co n_sc l_bk l_of l_en l_ct t_bk t_of t_en t_ct) pc lc (.ref (ad 1) :: rest) := go_get X inS 1 rfl rfl 2 (by decide) (wT1 34 rfl rfl) rfl rfl d k
theorem gt_S_21 (X : cx_ G ad cc RS fr lo n) (d : decode cc pc = .ok (.getfield 21, 3)) (k : go_ G cells slots (wC ad s_bk s_ln s_kd s_vl s_ct k_ce k_bc m_ra m_up m_on m_lo m_hi m_mo m_ma m_li n_rg n_sb n_st n_pl n_z n_n n_h n_c n_en n_so n_co n_sc l_bk l_of l_en l_ct t_bk t_of t_en t_ct) (pc + 3) lc (.ref (ad 5) :: rest)) : go_ G cells slots (wC ad s_bk s_ln s_kd s_vl s_ct k_ce k_bc m_ra m_up m_on m_lo m_hi m_mo m_ma m_li n_rg n_sb n_st n_pl n_z n_n n_h n_c n_en n_so n_co n_sc l_bk l_of l_en l_ct t_bk t_of t_en t_ct) pc lc (.ref (ad 1) :: rest) := go_get X inS 1 rfl rfl 3 (by decide) (wT1 36 rfl rfl) rfl rfl d k
theorem gt_S_24 (X : cx_ G ad cc RS fr lo n) (d : decode cc pc = .ok (.getfield 24, 3)) (k : go_ G cells slots (wC ad s_bk s_ln s_kd s_vl s_ct k_ce k_bc m_ra m_up m_on m_lo m_hi m_mo m_ma m_li n_rg n_sb n_st n_pl n_z n_n n_h n_c n_en n_so n_co n_sc l_bk l_of l_en l_ct t_bk t_of t_en t_ct) (pc + 3) lc (.int s_ct :: rest)) : go_ G cells slots (wC ad s_bk s_ln s_kd s_vl s_ct k_ce k_bc m_ra m_up m_on m_lo m_hi m_mo m_ma m_li n_rg n_sb n_st n_pl n_z n_n n_h n_c n_en n_so n_co n_sc l_bk l_of l_en l_ct t_bk t_of t_en t_ct) pc lc (.ref (ad 1) :: rest) := go_get X inS 1 rfl rfl 4 (by decide) (wT1 38 rfl rfl) rfl rfl d k
theorem gt_S_9 (X : cx_ G ad cc RS fr lo n) (d : decode cc pc = .ok (.getfield 9, 3)) (k : go_ G cells slots (wC ad s_bk s_ln s_kd s_vl s_ct k_ce k_bc m_ra m_up m_on m_lo m_hi m_mo m_ma m_li n_rg n_sb n_st n_pl n_z n_n n_h n_c n_en n_so n_co n_sc l_bk l_of l_en l_ct t_bk t_of t_en t_ct) (pc + 3) lc (.ref (ad 2) :: rest)) : go_ G cells slots (wC ad s_bk s_ln s_kd s_vl s_ct k_ce k_bc m_ra m_up m_on m_lo m_hi m_mo m_ma m_li n_rg n_sb n_st n_pl n_z n_n n_h n_c n_en n_so n_co n_sc l_bk l_of l_en l_ct t_bk t_of t_en t_ct) pc lc (.ref (ad 1) :: rest) := go_get X inS 1 rfl rfl 0 (by decide) (wT1 29 rfl rfl) rfl rfl d k
theorem pt_D_118 (X : cx_ G ad cc RD fr lo n) {x : Int32} (d : decode cc pc = .ok (.putfield 118, 3)) (k : go_ G cells slots (wC ad s_bk s_ln s_kd s_vl s_ct k_ce k_bc m_ra m_up m_on m_lo m_hi m_mo m_ma x n_rg n_sb n_st n_pl n_z n_n n_h n_c n_en n_so n_co n_sc l_bk l_of l_en l_ct t_bk t_of t_en t_ct) (pc + 3) lc rest) : go_ G cells slots (wC ad s_bk s_ln s_kd s_vl s_ct k_ce k_bc m_ra m_up m_on m_lo m_hi m_mo m_ma m_li n_rg n_sb n_st n_pl n_z n_n n_h n_c n_en n_so n_co n_sc l_bk l_of l_en l_ct t_bk t_of t_en t_ct) pc lc (.int x :: .ref (ad 8) :: rest) := go_put (ws' := (wC ad s_bk s_ln s_kd s_vl s_ct k_ce k_bc m_ra m_up m_on m_lo m_hi m_mo m_ma x n_rg n_sb n_st n_pl n_z n_n n_h n_c n_en n_so n_co n_sc l_bk l_of l_en l_ct t_bk t_of t_en t_ct)) X inM tM tM_ok nM_ok 8 rfl rfl 8 (by decide) (wT1 84 rfl rfl) rfl rfl (ty := .int) (by decide +kernel) rfl rfl (Nat.le_of_ble_eq_true rfl) rfl d k
theorem pt_D_54 (X : cx_ G ad cc RD fr lo n) {x : Int32} (d : decode cc pc = .ok (.putfield 54, 3)) (k : go_ G cells slots (wC ad s_bk s_ln s_kd s_vl x k_ce k_bc m_ra m_up m_on m_lo m_hi m_mo m_ma m_li n_rg n_sb n_st n_pl n_z n_n n_h n_c n_en n_so n_co n_sc l_bk l_of l_en l_ct t_bk t_of t_en t_ct) (pc + 3) lc rest) : go_ G cells slots (wC ad s_bk s_ln s_kd s_vl s_ct k_ce k_bc m_ra m_up m_on m_lo m_hi m_mo m_ma m_li n_rg n_sb n_st n_pl n_z n_n n_h n_c n_en n_so n_co n_sc l_bk l_of l_en l_ct t_bk t_of t_en t_ct) pc lc (.int x :: .ref (ad 1) :: rest) := go_put (ws' := (wC ad s_bk s_ln s_kd s_vl x k_ce k_bc m_ra m_up m_on m_lo m_hi m_mo m_ma m_li n_rg n_sb n_st n_pl n_z n_n n_h n_c n_en n_so n_co n_sc l_bk l_of l_en l_ct t_bk t_of t_en t_ct)) X inS tS tS_ok nS_ok 1 rfl rfl 4 (by decide) (wT1 40 rfl rfl) rfl rfl (ty := .int) (by decide +kernel) rfl rfl (Nat.le_of_ble_eq_true rfl) rfl d k
theorem pt_K_15 (X : cx_ G ad cc RK fr lo n) {x : Int32} (d : decode cc pc = .ok (.putfield 15, 3)) (k : go_ G cells slots (wC ad s_bk s_ln s_kd s_vl s_ct k_ce x m_ra m_up m_on m_lo m_hi m_mo m_ma m_li n_rg n_sb n_st n_pl n_z n_n n_h n_c n_en n_so n_co n_sc l_bk l_of l_en l_ct t_bk t_of t_en t_ct) (pc + 3) lc rest) : go_ G cells slots (wC ad s_bk s_ln s_kd s_vl s_ct k_ce k_bc m_ra m_up m_on m_lo m_hi m_mo m_ma m_li n_rg n_sb n_st n_pl n_z n_n n_h n_c n_en n_so n_co n_sc l_bk l_of l_en l_ct t_bk t_of t_en t_ct) pc lc (.int x :: .ref (ad 6) :: rest) := go_put (ws' := (wC ad s_bk s_ln s_kd s_vl s_ct k_ce x m_ra m_up m_on m_lo m_hi m_mo m_ma m_li n_rg n_sb n_st n_pl n_z n_n n_h n_c n_en n_so n_co n_sc l_bk l_of l_en l_ct t_bk t_of t_en t_ct)) X inK tK tK_ok nK_ok 6 rfl rfl 1 (by decide) (wT1 62 rfl rfl) rfl rfl (ty := .int) (by decide +kernel) rfl rfl (Nat.le_of_ble_eq_true rfl) rfl d k
theorem pt_M_22 (X : cx_ G ad cc RM fr lo n) {x : Int32} (hz : x = 0 ∨ x = 1) (d : decode cc pc = .ok (.putfield 22, 3)) (k : go_ G cells slots (wC ad s_bk s_ln s_kd s_vl s_ct k_ce k_bc m_ra m_up x m_lo m_hi m_mo m_ma m_li n_rg n_sb n_st n_pl n_z n_n n_h n_c n_en n_so n_co n_sc l_bk l_of l_en l_ct t_bk t_of t_en t_ct) (pc + 3) lc rest) : go_ G cells slots (wC ad s_bk s_ln s_kd s_vl s_ct k_ce k_bc m_ra m_up m_on m_lo m_hi m_mo m_ma m_li n_rg n_sb n_st n_pl n_z n_n n_h n_c n_en n_so n_co n_sc l_bk l_of l_en l_ct t_bk t_of t_en t_ct) pc lc (.int x :: .ref (ad 8) :: rest) := go_put (ws' := (wC ad s_bk s_ln s_kd s_vl s_ct k_ce k_bc m_ra m_up x m_lo m_hi m_mo m_ma m_li n_rg n_sb n_st n_pl n_z n_n n_h n_c n_en n_so n_co n_sc l_bk l_of l_en l_ct t_bk t_of t_en t_ct)) X inM tM tM_ok nM_ok 8 rfl rfl 3 (by decide) (wT1 77 rfl rfl) rfl rfl (ty := .boolean) (by decide +kernel) (by rcases hz with rfl | rfl <;> rfl) (by rcases hz with rfl | rfl <;> rfl) (Nat.le_of_ble_eq_true rfl) rfl d k
theorem pt_M_26 (X : cx_ G ad cc RM fr lo n) {x : Int32} (d : decode cc pc = .ok (.putfield 26, 3)) (k : go_ G cells slots (wC ad s_bk s_ln s_kd s_vl s_ct k_ce k_bc m_ra m_up m_on x m_hi m_mo m_ma m_li n_rg n_sb n_st n_pl n_z n_n n_h n_c n_en n_so n_co n_sc l_bk l_of l_en l_ct t_bk t_of t_en t_ct) (pc + 3) lc rest) : go_ G cells slots (wC ad s_bk s_ln s_kd s_vl s_ct k_ce k_bc m_ra m_up m_on m_lo m_hi m_mo m_ma m_li n_rg n_sb n_st n_pl n_z n_n n_h n_c n_en n_so n_co n_sc l_bk l_of l_en l_ct t_bk t_of t_en t_ct) pc lc (.int x :: .ref (ad 8) :: rest) := go_put (ws' := (wC ad s_bk s_ln s_kd s_vl s_ct k_ce k_bc m_ra m_up m_on x m_hi m_mo m_ma m_li n_rg n_sb n_st n_pl n_z n_n n_h n_c n_en n_so n_co n_sc l_bk l_of l_en l_ct t_bk t_of t_en t_ct)) X inM tM tM_ok nM_ok 8 rfl rfl 4 (by decide) (wT1 78 rfl rfl) rfl rfl (ty := .int) (by decide +kernel) rfl rfl (Nat.le_of_ble_eq_true rfl) rfl d k
theorem pt_M_30 (X : cx_ G ad cc RM fr lo n) {x : Int32} (d : decode cc pc = .ok (.putfield 30, 3)) (k : go_ G cells slots (wC ad s_bk s_ln s_kd s_vl s_ct k_ce k_bc m_ra m_up m_on m_lo x m_mo m_ma m_li n_rg n_sb n_st n_pl n_z n_n n_h n_c n_en n_so n_co n_sc l_bk l_of l_en l_ct t_bk t_of t_en t_ct) (pc + 3) lc rest) : go_ G cells slots (wC ad s_bk s_ln s_kd s_vl s_ct k_ce k_bc m_ra m_up m_on m_lo m_hi m_mo m_ma m_li n_rg n_sb n_st n_pl n_z n_n n_h n_c n_en n_so n_co n_sc l_bk l_of l_en l_ct t_bk t_of t_en t_ct) pc lc (.int x :: .ref (ad 8) :: rest) := go_put (ws' := (wC ad s_bk s_ln s_kd s_vl s_ct k_ce k_bc m_ra m_up m_on m_lo x m_mo m_ma m_li n_rg n_sb n_st n_pl n_z n_n n_h n_c n_en n_so n_co n_sc l_bk l_of l_en l_ct t_bk t_of t_en t_ct)) X inM tM tM_ok nM_ok 8 rfl rfl 5 (by decide) (wT1 79 rfl rfl) rfl rfl (ty := .int) (by decide +kernel) rfl rfl (Nat.le_of_ble_eq_true rfl) rfl d k
theorem pt_M_33 (X : cx_ G ad cc RM fr lo n) {x : Int32} (d : decode cc pc = .ok (.putfield 33, 3)) (k : go_ G cells slots (wC ad s_bk s_ln s_kd s_vl s_ct k_ce k_bc m_ra m_up m_on m_lo m_hi x m_ma m_li n_rg n_sb n_st n_pl n_z n_n n_h n_c n_en n_so n_co n_sc l_bk l_of l_en l_ct t_bk t_of t_en t_ct) (pc + 3) lc rest) : go_ G cells slots (wC ad s_bk s_ln s_kd s_vl s_ct k_ce k_bc m_ra m_up m_on m_lo m_hi m_mo m_ma m_li n_rg n_sb n_st n_pl n_z n_n n_h n_c n_en n_so n_co n_sc l_bk l_of l_en l_ct t_bk t_of t_en t_ct) pc lc (.int x :: .ref (ad 8) :: rest) := go_put (ws' := (wC ad s_bk s_ln s_kd s_vl s_ct k_ce k_bc m_ra m_up m_on m_lo m_hi x m_ma m_li n_rg n_sb n_st n_pl n_z n_n n_h n_c n_en n_so n_co n_sc l_bk l_of l_en l_ct t_bk t_of t_en t_ct)) X inM tM tM_ok nM_ok 8 rfl rfl 6 (by decide) (wT1 80 rfl rfl) rfl rfl (ty := .int) (by decide +kernel) rfl rfl (Nat.le_of_ble_eq_true rfl) rfl d k
theorem pt_M_36 (X : cx_ G ad cc RM fr lo n) {x : Int32} (d : decode cc pc = .ok (.putfield 36, 3)) (k : go_ G cells slots (wC ad s_bk s_ln s_kd s_vl s_ct k_ce k_bc m_ra m_up m_on m_lo m_hi m_mo x m_li n_rg n_sb n_st n_pl n_z n_n n_h n_c n_en n_so n_co n_sc l_bk l_of l_en l_ct t_bk t_of t_en t_ct) (pc + 3) lc rest) : go_ G cells slots (wC ad s_bk s_ln s_kd s_vl s_ct k_ce k_bc m_ra m_up m_on m_lo m_hi m_mo m_ma m_li n_rg n_sb n_st n_pl n_z n_n n_h n_c n_en n_so n_co n_sc l_bk l_of l_en l_ct t_bk t_of t_en t_ct) pc lc (.int x :: .ref (ad 8) :: rest) := go_put (ws' := (wC ad s_bk s_ln s_kd s_vl s_ct k_ce k_bc m_ra m_up m_on m_lo m_hi m_mo x m_li n_rg n_sb n_st n_pl n_z n_n n_h n_c n_en n_so n_co n_sc l_bk l_of l_en l_ct t_bk t_of t_en t_ct)) X inM tM tM_ok nM_ok 8 rfl rfl 7 (by decide) (wT1 81 rfl rfl) rfl rfl (ty := .int) (by decide +kernel) rfl rfl (Nat.le_of_ble_eq_true rfl) rfl d k
theorem pt_M_39 (X : cx_ G ad cc RM fr lo n) {x : Int32} (d : decode cc pc = .ok (.putfield 39, 3)) (k : go_ G cells slots (wC ad s_bk s_ln s_kd s_vl s_ct k_ce k_bc m_ra m_up m_on m_lo m_hi m_mo m_ma x n_rg n_sb n_st n_pl n_z n_n n_h n_c n_en n_so n_co n_sc l_bk l_of l_en l_ct t_bk t_of t_en t_ct) (pc + 3) lc rest) : go_ G cells slots (wC ad s_bk s_ln s_kd s_vl s_ct k_ce k_bc m_ra m_up m_on m_lo m_hi m_mo m_ma m_li n_rg n_sb n_st n_pl n_z n_n n_h n_c n_en n_so n_co n_sc l_bk l_of l_en l_ct t_bk t_of t_en t_ct) pc lc (.int x :: .ref (ad 8) :: rest) := go_put (ws' := (wC ad s_bk s_ln s_kd s_vl s_ct k_ce k_bc m_ra m_up m_on m_lo m_hi m_mo m_ma x n_rg n_sb n_st n_pl n_z n_n n_h n_c n_en n_so n_co n_sc l_bk l_of l_en l_ct t_bk t_of t_en t_ct)) X inM tM tM_ok nM_ok 8 rfl rfl 8 (by decide) (wT1 82 rfl rfl) rfl rfl (ty := .int) (by decide +kernel) rfl rfl (Nat.le_of_ble_eq_true rfl) rfl d k
theorem pt_N_128 (X : cx_ G ad cc RN fr lo n) {x : Int32} (hz : x = 0 ∨ x = 1) (d : decode cc pc = .ok (.putfield 128, 3)) (k : go_ G cells slots (wC ad s_bk s_ln s_kd s_vl s_ct k_ce k_bc m_ra m_up m_on m_lo m_hi m_mo m_ma m_li n_rg n_sb n_st n_pl n_z n_n n_h x n_en n_so n_co n_sc l_bk l_of l_en l_ct t_bk t_of t_en t_ct) (pc + 3) lc rest) : go_ G cells slots (wC ad s_bk s_ln s_kd s_vl s_ct k_ce k_bc m_ra m_up m_on m_lo m_hi m_mo m_ma m_li n_rg n_sb n_st n_pl n_z n_n n_h n_c n_en n_so n_co n_sc l_bk l_of l_en l_ct t_bk t_of t_en t_ct) pc lc (.int x :: .ref (ad 11) :: rest) := go_put (ws' := (wC ad s_bk s_ln s_kd s_vl s_ct k_ce k_bc m_ra m_up m_on m_lo m_hi m_mo m_ma m_li n_rg n_sb n_st n_pl n_z n_n n_h x n_en n_so n_co n_sc l_bk l_of l_en l_ct t_bk t_of t_en t_ct)) X inN tN tN_ok nN_ok 11 rfl rfl 7 (by decide) (wT1 129 rfl rfl) rfl rfl (ty := .boolean) (by decide +kernel) (by rcases hz with rfl | rfl <;> rfl) (by rcases hz with rfl | rfl <;> rfl) (Nat.le_of_ble_eq_true rfl) rfl d k
theorem pt_N_25 (X : cx_ G ad cc RN fr lo n) {x : Int32} (d : decode cc pc = .ok (.putfield 25, 3)) (k : go_ G cells slots (wC ad s_bk s_ln s_kd s_vl s_ct k_ce k_bc m_ra m_up m_on m_lo m_hi m_mo m_ma m_li n_rg n_sb x n_pl n_z n_n n_h n_c n_en n_so n_co n_sc l_bk l_of l_en l_ct t_bk t_of t_en t_ct) (pc + 3) lc rest) : go_ G cells slots (wC ad s_bk s_ln s_kd s_vl s_ct k_ce k_bc m_ra m_up m_on m_lo m_hi m_mo m_ma m_li n_rg n_sb n_st n_pl n_z n_n n_h n_c n_en n_so n_co n_sc l_bk l_of l_en l_ct t_bk t_of t_en t_ct) pc lc (.int x :: .ref (ad 11) :: rest) := go_put (ws' := (wC ad s_bk s_ln s_kd s_vl s_ct k_ce k_bc m_ra m_up m_on m_lo m_hi m_mo m_ma m_li n_rg n_sb x n_pl n_z n_n n_h n_c n_en n_so n_co n_sc l_bk l_of l_en l_ct t_bk t_of t_en t_ct)) X inN tN tN_ok nN_ok 11 rfl rfl 2 (by decide) (wT1 124 rfl rfl) rfl rfl (ty := .int) (by decide +kernel) rfl rfl (Nat.le_of_ble_eq_true rfl) rfl d k
theorem pt_N_29 (X : cx_ G ad cc RN fr lo n) {x : Int32} (d : decode cc pc = .ok (.putfield 29, 3)) (k : go_ G cells slots (wC ad s_bk s_ln s_kd s_vl s_ct k_ce k_bc m_ra m_up m_on m_lo m_hi m_mo m_ma m_li n_rg n_sb n_st x n_z n_n n_h n_c n_en n_so n_co n_sc l_bk l_of l_en l_ct t_bk t_of t_en t_ct) (pc + 3) lc rest) : go_ G cells slots (wC ad s_bk s_ln s_kd s_vl s_ct k_ce k_bc m_ra m_up m_on m_lo m_hi m_mo m_ma m_li n_rg n_sb n_st n_pl n_z n_n n_h n_c n_en n_so n_co n_sc l_bk l_of l_en l_ct t_bk t_of t_en t_ct) pc lc (.int x :: .ref (ad 11) :: rest) := go_put (ws' := (wC ad s_bk s_ln s_kd s_vl s_ct k_ce k_bc m_ra m_up m_on m_lo m_hi m_mo m_ma m_li n_rg n_sb n_st x n_z n_n n_h n_c n_en n_so n_co n_sc l_bk l_of l_en l_ct t_bk t_of t_en t_ct)) X inN tN tN_ok nN_ok 11 rfl rfl 3 (by decide) (wT1 125 rfl rfl) rfl rfl (ty := .int) (by decide +kernel) rfl rfl (Nat.le_of_ble_eq_true rfl) rfl d k
theorem pt_N_36 (X : cx_ G ad cc RN fr lo n) {x : Int32} (hz : x = 0 ∨ x = 1) (d : decode cc pc = .ok (.putfield 36, 3)) (k : go_ G cells slots (wC ad s_bk s_ln s_kd s_vl s_ct k_ce k_bc m_ra m_up m_on m_lo m_hi m_mo m_ma m_li n_rg n_sb n_st n_pl n_z n_n n_h n_c x n_so n_co n_sc l_bk l_of l_en l_ct t_bk t_of t_en t_ct) (pc + 3) lc rest) : go_ G cells slots (wC ad s_bk s_ln s_kd s_vl s_ct k_ce k_bc m_ra m_up m_on m_lo m_hi m_mo m_ma m_li n_rg n_sb n_st n_pl n_z n_n n_h n_c n_en n_so n_co n_sc l_bk l_of l_en l_ct t_bk t_of t_en t_ct) pc lc (.int x :: .ref (ad 11) :: rest) := go_put (ws' := (wC ad s_bk s_ln s_kd s_vl s_ct k_ce k_bc m_ra m_up m_on m_lo m_hi m_mo m_ma m_li n_rg n_sb n_st n_pl n_z n_n n_h n_c x n_so n_co n_sc l_bk l_of l_en l_ct t_bk t_of t_en t_ct)) X inN tN tN_ok nN_ok 11 rfl rfl 8 (by decide) (wT1 130 rfl rfl) rfl rfl (ty := .boolean) (by decide +kernel) (by rcases hz with rfl | rfl <;> rfl) (by rcases hz with rfl | rfl <;> rfl) (Nat.le_of_ble_eq_true rfl) rfl d k
theorem pt_N_40 (X : cx_ G ad cc RN fr lo n) {x : Int32} (hz : x = 0 ∨ x = 1) (d : decode cc pc = .ok (.putfield 40, 3)) (k : go_ G cells slots (wC ad s_bk s_ln s_kd s_vl s_ct k_ce k_bc m_ra m_up m_on m_lo m_hi m_mo m_ma m_li n_rg n_sb n_st n_pl n_z n_n n_h n_c n_en x n_co n_sc l_bk l_of l_en l_ct t_bk t_of t_en t_ct) (pc + 3) lc rest) : go_ G cells slots (wC ad s_bk s_ln s_kd s_vl s_ct k_ce k_bc m_ra m_up m_on m_lo m_hi m_mo m_ma m_li n_rg n_sb n_st n_pl n_z n_n n_h n_c n_en n_so n_co n_sc l_bk l_of l_en l_ct t_bk t_of t_en t_ct) pc lc (.int x :: .ref (ad 11) :: rest) := go_put (ws' := (wC ad s_bk s_ln s_kd s_vl s_ct k_ce k_bc m_ra m_up m_on m_lo m_hi m_mo m_ma m_li n_rg n_sb n_st n_pl n_z n_n n_h n_c n_en x n_co n_sc l_bk l_of l_en l_ct t_bk t_of t_en t_ct)) X inN tN tN_ok nN_ok 11 rfl rfl 9 (by decide) (wT1 131 rfl rfl) rfl rfl (ty := .boolean) (by decide +kernel) (by rcases hz with rfl | rfl <;> rfl) (by rcases hz with rfl | rfl <;> rfl) (Nat.le_of_ble_eq_true rfl) rfl d k
theorem pt_N_43 (X : cx_ G ad cc RN fr lo n) {x : Int32} (d : decode cc pc = .ok (.putfield 43, 3)) (k : go_ G cells slots (wC ad s_bk s_ln s_kd s_vl s_ct k_ce k_bc m_ra m_up m_on m_lo m_hi m_mo m_ma m_li n_rg n_sb n_st n_pl n_z n_n n_h n_c n_en n_so x n_sc l_bk l_of l_en l_ct t_bk t_of t_en t_ct) (pc + 3) lc rest) : go_ G cells slots (wC ad s_bk s_ln s_kd s_vl s_ct k_ce k_bc m_ra m_up m_on m_lo m_hi m_mo m_ma m_li n_rg n_sb n_st n_pl n_z n_n n_h n_c n_en n_so n_co n_sc l_bk l_of l_en l_ct t_bk t_of t_en t_ct) pc lc (.int x :: .ref (ad 11) :: rest) := go_put (ws' := (wC ad s_bk s_ln s_kd s_vl s_ct k_ce k_bc m_ra m_up m_on m_lo m_hi m_mo m_ma m_li n_rg n_sb n_st n_pl n_z n_n n_h n_c n_en n_so x n_sc l_bk l_of l_en l_ct t_bk t_of t_en t_ct)) X inN tN tN_ok nN_ok 11 rfl rfl 10 (by decide) (wT1 132 rfl rfl) rfl rfl (ty := .int) (by decide +kernel) rfl rfl (Nat.le_of_ble_eq_true rfl) rfl d k
theorem pt_N_46 (X : cx_ G ad cc RN fr lo n) {x : Int32} (d : decode cc pc = .ok (.putfield 46, 3)) (k : go_ G cells slots (wC ad s_bk s_ln s_kd s_vl s_ct k_ce k_bc m_ra m_up m_on m_lo m_hi m_mo m_ma m_li n_rg n_sb n_st n_pl n_z n_n n_h n_c n_en n_so n_co x l_bk l_of l_en l_ct t_bk t_of t_en t_ct) (pc + 3) lc rest) : go_ G cells slots (wC ad s_bk s_ln s_kd s_vl s_ct k_ce k_bc m_ra m_up m_on m_lo m_hi m_mo m_ma m_li n_rg n_sb n_st n_pl n_z n_n n_h n_c n_en n_so n_co n_sc l_bk l_of l_en l_ct t_bk t_of t_en t_ct) pc lc (.int x :: .ref (ad 11) :: rest) := go_put (ws' := (wC ad s_bk s_ln s_kd s_vl s_ct k_ce k_bc m_ra m_up m_on m_lo m_hi m_mo m_ma m_li n_rg n_sb n_st n_pl n_z n_n n_h n_c n_en n_so n_co x l_bk l_of l_en l_ct t_bk t_of t_en t_ct)) X inN tN tN_ok nN_ok 11 rfl rfl 11 (by decide) (wT1 134 rfl rfl) rfl rfl (ty := .int) (by decide +kernel) rfl rfl (Nat.le_of_ble_eq_true rfl) rfl d k
theorem pt_N_58 (X : cx_ G ad cc RN fr lo n) {x : Int32} (hz : x = 0 ∨ x = 1) (d : decode cc pc = .ok (.putfield 58, 3)) (k : go_ G cells slots (wC ad s_bk s_ln s_kd s_vl s_ct k_ce k_bc m_ra m_up m_on m_lo m_hi m_mo m_ma m_li n_rg n_sb n_st n_pl x n_n n_h n_c n_en n_so n_co n_sc l_bk l_of l_en l_ct t_bk t_of t_en t_ct) (pc + 3) lc rest) : go_ G cells slots (wC ad s_bk s_ln s_kd s_vl s_ct k_ce k_bc m_ra m_up m_on m_lo m_hi m_mo m_ma m_li n_rg n_sb n_st n_pl n_z n_n n_h n_c n_en n_so n_co n_sc l_bk l_of l_en l_ct t_bk t_of t_en t_ct) pc lc (.int x :: .ref (ad 11) :: rest) := go_put (ws' := (wC ad s_bk s_ln s_kd s_vl s_ct k_ce k_bc m_ra m_up m_on m_lo m_hi m_mo m_ma m_li n_rg n_sb n_st n_pl x n_n n_h n_c n_en n_so n_co n_sc l_bk l_of l_en l_ct t_bk t_of t_en t_ct)) X inN tN tN_ok nN_ok 11 rfl rfl 4 (by decide) (wT1 126 rfl rfl) rfl rfl (ty := .boolean) (by decide +kernel) (by rcases hz with rfl | rfl <;> rfl) (by rcases hz with rfl | rfl <;> rfl) (Nat.le_of_ble_eq_true rfl) rfl d k
theorem pt_N_61 (X : cx_ G ad cc RN fr lo n) {x : Int32} (hz : x = 0 ∨ x = 1) (d : decode cc pc = .ok (.putfield 61, 3)) (k : go_ G cells slots (wC ad s_bk s_ln s_kd s_vl s_ct k_ce k_bc m_ra m_up m_on m_lo m_hi m_mo m_ma m_li n_rg n_sb n_st n_pl n_z x n_h n_c n_en n_so n_co n_sc l_bk l_of l_en l_ct t_bk t_of t_en t_ct) (pc + 3) lc rest) : go_ G cells slots (wC ad s_bk s_ln s_kd s_vl s_ct k_ce k_bc m_ra m_up m_on m_lo m_hi m_mo m_ma m_li n_rg n_sb n_st n_pl n_z n_n n_h n_c n_en n_so n_co n_sc l_bk l_of l_en l_ct t_bk t_of t_en t_ct) pc lc (.int x :: .ref (ad 11) :: rest) := go_put (ws' := (wC ad s_bk s_ln s_kd s_vl s_ct k_ce k_bc m_ra m_up m_on m_lo m_hi m_mo m_ma m_li n_rg n_sb n_st n_pl n_z x n_h n_c n_en n_so n_co n_sc l_bk l_of l_en l_ct t_bk t_of t_en t_ct)) X inN tN tN_ok nN_ok 11 rfl rfl 5 (by decide) (wT1 127 rfl rfl) rfl rfl (ty := .boolean) (by decide +kernel) (by rcases hz with rfl | rfl <;> rfl) (by rcases hz with rfl | rfl <;> rfl) (Nat.le_of_ble_eq_true rfl) rfl d k
theorem pt_N_64 (X : cx_ G ad cc RN fr lo n) {x : Int32} (hz : x = 0 ∨ x = 1) (d : decode cc pc = .ok (.putfield 64, 3)) (k : go_ G cells slots (wC ad s_bk s_ln s_kd s_vl s_ct k_ce k_bc m_ra m_up m_on m_lo m_hi m_mo m_ma m_li n_rg n_sb n_st n_pl n_z n_n x n_c n_en n_so n_co n_sc l_bk l_of l_en l_ct t_bk t_of t_en t_ct) (pc + 3) lc rest) : go_ G cells slots (wC ad s_bk s_ln s_kd s_vl s_ct k_ce k_bc m_ra m_up m_on m_lo m_hi m_mo m_ma m_li n_rg n_sb n_st n_pl n_z n_n n_h n_c n_en n_so n_co n_sc l_bk l_of l_en l_ct t_bk t_of t_en t_ct) pc lc (.int x :: .ref (ad 11) :: rest) := go_put (ws' := (wC ad s_bk s_ln s_kd s_vl s_ct k_ce k_bc m_ra m_up m_on m_lo m_hi m_mo m_ma m_li n_rg n_sb n_st n_pl n_z n_n x n_c n_en n_so n_co n_sc l_bk l_of l_en l_ct t_bk t_of t_en t_ct)) X inN tN tN_ok nN_ok 11 rfl rfl 6 (by decide) (wT1 128 rfl rfl) rfl rfl (ty := .boolean) (by decide +kernel) (by rcases hz with rfl | rfl <;> rfl) (by rcases hz with rfl | rfl <;> rfl) (Nat.le_of_ble_eq_true rfl) rfl d k
theorem pt_N_94 (X : cx_ G ad cc RN fr lo n) {x : Int32} (d : decode cc pc = .ok (.putfield 94, 3)) (k : go_ G cells slots (wC ad s_bk s_ln s_kd s_vl s_ct k_ce k_bc m_ra m_up m_on m_lo m_hi m_mo m_ma x n_rg n_sb n_st n_pl n_z n_n n_h n_c n_en n_so n_co n_sc l_bk l_of l_en l_ct t_bk t_of t_en t_ct) (pc + 3) lc rest) : go_ G cells slots (wC ad s_bk s_ln s_kd s_vl s_ct k_ce k_bc m_ra m_up m_on m_lo m_hi m_mo m_ma m_li n_rg n_sb n_st n_pl n_z n_n n_h n_c n_en n_so n_co n_sc l_bk l_of l_en l_ct t_bk t_of t_en t_ct) pc lc (.int x :: .ref (ad 8) :: rest) := go_put (ws' := (wC ad s_bk s_ln s_kd s_vl s_ct k_ce k_bc m_ra m_up m_on m_lo m_hi m_mo m_ma x n_rg n_sb n_st n_pl n_z n_n n_h n_c n_en n_so n_co n_sc l_bk l_of l_en l_ct t_bk t_of t_en t_ct)) X inM tM tM_ok nM_ok 8 rfl rfl 8 (by decide) (wT1 83 rfl rfl) rfl rfl (ty := .int) (by decide +kernel) rfl rfl (Nat.le_of_ble_eq_true rfl) rfl d k
theorem pt_P_27T (X : cx_ G ad cc RP fr lo n) {x : Int32} (d : decode cc pc = .ok (.putfield 27, 3)) (k : go_ G cells slots (wC ad s_bk s_ln s_kd s_vl s_ct k_ce k_bc m_ra m_up m_on m_lo m_hi m_mo m_ma m_li n_rg n_sb n_st n_pl n_z n_n n_h n_c n_en n_so n_co n_sc l_bk l_of l_en l_ct t_bk t_of t_en x) (pc + 3) lc rest) : go_ G cells slots (wC ad s_bk s_ln s_kd s_vl s_ct k_ce k_bc m_ra m_up m_on m_lo m_hi m_mo m_ma m_li n_rg n_sb n_st n_pl n_z n_n n_h n_c n_en n_so n_co n_sc l_bk l_of l_en l_ct t_bk t_of t_en t_ct) pc lc (.int x :: .ref (ad 18) :: rest) := go_put (ws' := (wC ad s_bk s_ln s_kd s_vl s_ct k_ce k_bc m_ra m_up m_on m_lo m_hi m_mo m_ma m_li n_rg n_sb n_st n_pl n_z n_n n_h n_c n_en n_so n_co n_sc l_bk l_of l_en l_ct t_bk t_of t_en x)) X inP tP tP_ok nP_ok 18 rfl rfl 3 (by decide) (wT1 177 rfl rfl) rfl rfl (ty := .int) (by decide +kernel) rfl rfl (Nat.le_of_ble_eq_true rfl) rfl d k
theorem pt_Q_100 (X : cx_ G ad cc RQ fr lo n) {x : Int32} (d : decode cc pc = .ok (.putfield 100, 3)) (k : go_ G cells slots (wM ad q_code x q_pin q_size q_bytes q_kind q_bank q_address q_full q_linked q_packedBank q_packedAddress q_banks q_memory q_register q_stack q_place q_zero q_less q_half q_carry q_enabled q_soon q_ram q_low q_top q_mode q_state q_sent q_out) (pc + 3) lc rest) : go_ G cells slots (wM ad q_code q_many q_pin q_size q_bytes q_kind q_bank q_address q_full q_linked q_packedBank q_packedAddress q_banks q_memory q_register q_stack q_place q_zero q_less q_half q_carry q_enabled q_soon q_ram q_low q_top q_mode q_state q_sent q_out) pc lc (.int x :: .ref (ad 30) :: rest) := go_put (ws' := (wM ad q_code x q_pin q_size q_bytes q_kind q_bank q_address q_full q_linked q_packedBank q_packedAddress q_banks q_memory q_register q_stack q_place q_zero q_less q_half q_carry q_enabled q_soon q_ram q_low q_top q_mode q_state q_sent q_out)) X inQ tQ tQ_ok nQ_ok 0 rfl rfl 1 (by decide) (wT3 183 rfl rfl) rfl rfl (ty := .int) (by decide +kernel) rfl rfl (Nat.le_of_ble_eq_true rfl) rfl d k
theorem pt_Q_114 (X : cx_ G ad cc RQ fr lo n) {x : Int32} (d : decode cc pc = .ok (.putfield 114, 3)) (k : go_ G cells slots (wM ad q_code q_many q_pin q_size q_bytes q_kind q_bank q_address q_full q_linked q_packedBank q_packedAddress x q_memory q_register q_stack q_place q_zero q_less q_half q_carry q_enabled q_soon q_ram q_low q_top q_mode q_state q_sent q_out) (pc + 3) lc rest) : go_ G cells slots (wM ad q_code q_many q_pin q_size q_bytes q_kind q_bank q_address q_full q_linked q_packedBank q_packedAddress q_banks q_memory q_register q_stack q_place q_zero q_less q_half q_carry q_enabled q_soon q_ram q_low q_top q_mode q_state q_sent q_out) pc lc (.int x :: .ref (ad 30) :: rest) := go_put (ws' := (wM ad q_code q_many q_pin q_size q_bytes q_kind q_bank q_address q_full q_linked q_packedBank q_packedAddress x q_memory q_register q_stack q_place q_zero q_less q_half q_carry q_enabled q_soon q_ram q_low q_top q_mode q_state q_sent q_out)) X inQ tQ tQ_ok nQ_ok 0 rfl rfl 12 (by decide) (wT3 194 rfl rfl) rfl rfl (ty := .int) (by decide +kernel) rfl rfl (Nat.le_of_ble_eq_true rfl) rfl d k
theorem pt_Q_143 (X : cx_ G ad cc RQ fr lo n) {x : Int32} (d : decode cc pc = .ok (.putfield 143, 3)) (k : go_ G cells slots (wM ad q_code q_many q_pin q_size q_bytes q_kind q_bank q_address q_full x q_packedBank q_packedAddress q_banks q_memory q_register q_stack q_place q_zero q_less q_half q_carry q_enabled q_soon q_ram q_low q_top q_mode q_state q_sent q_out) (pc + 3) lc rest) : go_ G cells slots (wM ad q_code q_many q_pin q_size q_bytes q_kind q_bank q_address q_full q_linked q_packedBank q_packedAddress q_banks q_memory q_register q_stack q_place q_zero q_less q_half q_carry q_enabled q_soon q_ram q_low q_top q_mode q_state q_sent q_out) pc lc (.int x :: .ref (ad 30) :: rest) := go_put (ws' := (wM ad q_code q_many q_pin q_size q_bytes q_kind q_bank q_address q_full x q_packedBank q_packedAddress q_banks q_memory q_register q_stack q_place q_zero q_less q_half q_carry q_enabled q_soon q_ram q_low q_top q_mode q_state q_sent q_out)) X inQ tQ tQ_ok nQ_ok 0 rfl rfl 9 (by decide) (wT3 191 rfl rfl) rfl rfl (ty := .int) (by decide +kernel) rfl rfl (Nat.le_of_ble_eq_true rfl) rfl d k
theorem pt_Q_49 (X : cx_ G ad cc RQ fr lo n) {x : Int32} (d : decode cc pc = .ok (.putfield 49, 3)) (k : go_ G cells slots (wM ad x q_many q_pin q_size q_bytes q_kind q_bank q_address q_full q_linked q_packedBank q_packedAddress q_banks q_memory q_register q_stack q_place q_zero q_less q_half q_carry q_enabled q_soon q_ram q_low q_top q_mode q_state q_sent q_out) (pc + 3) lc rest) : go_ G cells slots (wM ad q_code q_many q_pin q_size q_bytes q_kind q_bank q_address q_full q_linked q_packedBank q_packedAddress q_banks q_memory q_register q_stack q_place q_zero q_less q_half q_carry q_enabled q_soon q_ram q_low q_top q_mode q_state q_sent q_out) pc lc (.int x :: .ref (ad 30) :: rest) := go_put (ws' := (wM ad x q_many q_pin q_size q_bytes q_kind q_bank q_address q_full q_linked q_packedBank q_packedAddress q_banks q_memory q_register q_stack q_place q_zero q_less q_half q_carry q_enabled q_soon q_ram q_low q_top q_mode q_state q_sent q_out)) X inQ tQ tQ_ok nQ_ok 0 rfl rfl 0 (by decide) (wT3 182 rfl rfl) rfl rfl (ty := .int) (by decide +kernel) rfl rfl (Nat.le_of_ble_eq_true rfl) rfl d k
theorem pt_Q_53 (X : cx_ G ad cc RQ fr lo n) {x : Int32} (d : decode cc pc = .ok (.putfield 53, 3)) (k : go_ G cells slots (wM ad q_code q_many q_pin q_size q_bytes q_kind q_bank q_address q_full q_linked q_packedBank q_packedAddress q_banks q_memory q_register x q_place q_zero q_less q_half q_carry q_enabled q_soon q_ram q_low q_top q_mode q_state q_sent q_out) (pc + 3) lc rest) : go_ G cells slots (wM ad q_code q_many q_pin q_size q_bytes q_kind q_bank q_address q_full q_linked q_packedBank q_packedAddress q_banks q_memory q_register q_stack q_place q_zero q_less q_half q_carry q_enabled q_soon q_ram q_low q_top q_mode q_state q_sent q_out) pc lc (.int x :: .ref (ad 30) :: rest) := go_put (ws' := (wM ad q_code q_many q_pin q_size q_bytes q_kind q_bank q_address q_full q_linked q_packedBank q_packedAddress q_banks q_memory q_register x q_place q_zero q_less q_half q_carry q_enabled q_soon q_ram q_low q_top q_mode q_state q_sent q_out)) X inQ tQ tQ_ok nQ_ok 0 rfl rfl 15 (by decide) (wT3 197 rfl rfl) rfl rfl (ty := .int) (by decide +kernel) rfl rfl (Nat.le_of_ble_eq_true rfl) rfl d k
theorem pt_Q_56 (X : cx_ G ad cc RQ fr lo n) {x : Int32} (d : decode cc pc = .ok (.putfield 56, 3)) (k : go_ G cells slots (wM ad q_code q_many q_pin q_size q_bytes q_kind q_bank q_address q_full q_linked q_packedBank q_packedAddress q_banks q_memory q_register q_stack x q_zero q_less q_half q_carry q_enabled q_soon q_ram q_low q_top q_mode q_state q_sent q_out) (pc + 3) lc rest) : go_ G cells slots (wM ad q_code q_many q_pin q_size q_bytes q_kind q_bank q_address q_full q_linked q_packedBank q_packedAddress q_banks q_memory q_register q_stack q_place q_zero q_less q_half q_carry q_enabled q_soon q_ram q_low q_top q_mode q_state q_sent q_out) pc lc (.int x :: .ref (ad 30) :: rest) := go_put (ws' := (wM ad q_code q_many q_pin q_size q_bytes q_kind q_bank q_address q_full q_linked q_packedBank q_packedAddress q_banks q_memory q_register q_stack x q_zero q_less q_half q_carry q_enabled q_soon q_ram q_low q_top q_mode q_state q_sent q_out)) X inQ tQ tQ_ok nQ_ok 0 rfl rfl 16 (by decide) (wT3 198 rfl rfl) rfl rfl (ty := .int) (by decide +kernel) rfl rfl (Nat.le_of_ble_eq_true rfl) rfl d k
theorem pt_Q_59 (X : cx_ G ad cc RQ fr lo n) {x : Int32} (hz : x = 0 ∨ x = 1) (d : decode cc pc = .ok (.putfield 59, 3)) (k : go_ G cells slots (wM ad q_code q_many q_pin q_size q_bytes q_kind q_bank q_address q_full q_linked q_packedBank q_packedAddress q_banks q_memory q_register q_stack q_place x q_less q_half q_carry q_enabled q_soon q_ram q_low q_top q_mode q_state q_sent q_out) (pc + 3) lc rest) : go_ G cells slots (wM ad q_code q_many q_pin q_size q_bytes q_kind q_bank q_address q_full q_linked q_packedBank q_packedAddress q_banks q_memory q_register q_stack q_place q_zero q_less q_half q_carry q_enabled q_soon q_ram q_low q_top q_mode q_state q_sent q_out) pc lc (.int x :: .ref (ad 30) :: rest) := go_put (ws' := (wM ad q_code q_many q_pin q_size q_bytes q_kind q_bank q_address q_full q_linked q_packedBank q_packedAddress q_banks q_memory q_register q_stack q_place x q_less q_half q_carry q_enabled q_soon q_ram q_low q_top q_mode q_state q_sent q_out)) X inQ tQ tQ_ok nQ_ok 0 rfl rfl 17 (by decide) (wT3 199 rfl rfl) rfl rfl (ty := .boolean) (by decide +kernel) (by rcases hz with rfl | rfl <;> rfl) (by rcases hz with rfl | rfl <;> rfl) (Nat.le_of_ble_eq_true rfl) rfl d k
theorem pt_Q_63 (X : cx_ G ad cc RQ fr lo n) {x : Int32} (hz : x = 0 ∨ x = 1) (d : decode cc pc = .ok (.putfield 63, 3)) (k : go_ G cells slots (wM ad q_code q_many q_pin q_size q_bytes q_kind q_bank q_address q_full q_linked q_packedBank q_packedAddress q_banks q_memory q_register q_stack q_place q_zero x q_half q_carry q_enabled q_soon q_ram q_low q_top q_mode q_state q_sent q_out) (pc + 3) lc rest) : go_ G cells slots (wM ad q_code q_many q_pin q_size q_bytes q_kind q_bank q_address q_full q_linked q_packedBank q_packedAddress q_banks q_memory q_register q_stack q_place q_zero q_less q_half q_carry q_enabled q_soon q_ram q_low q_top q_mode q_state q_sent q_out) pc lc (.int x :: .ref (ad 30) :: rest) := go_put (ws' := (wM ad q_code q_many q_pin q_size q_bytes q_kind q_bank q_address q_full q_linked q_packedBank q_packedAddress q_banks q_memory q_register q_stack q_place q_zero x q_half q_carry q_enabled q_soon q_ram q_low q_top q_mode q_state q_sent q_out)) X inQ tQ tQ_ok nQ_ok 0 rfl rfl 18 (by decide) (wT3 200 rfl rfl) rfl rfl (ty := .boolean) (by decide +kernel) (by rcases hz with rfl | rfl <;> rfl) (by rcases hz with rfl | rfl <;> rfl) (Nat.le_of_ble_eq_true rfl) rfl d k
theorem pt_Q_66 (X : cx_ G ad cc RQ fr lo n) {x : Int32} (hz : x = 0 ∨ x = 1) (d : decode cc pc = .ok (.putfield 66, 3)) (k : go_ G cells slots (wM ad q_code q_many q_pin q_size q_bytes q_kind q_bank q_address q_full q_linked q_packedBank q_packedAddress q_banks q_memory q_register q_stack q_place q_zero q_less x q_carry q_enabled q_soon q_ram q_low q_top q_mode q_state q_sent q_out) (pc + 3) lc rest) : go_ G cells slots (wM ad q_code q_many q_pin q_size q_bytes q_kind q_bank q_address q_full q_linked q_packedBank q_packedAddress q_banks q_memory q_register q_stack q_place q_zero q_less q_half q_carry q_enabled q_soon q_ram q_low q_top q_mode q_state q_sent q_out) pc lc (.int x :: .ref (ad 30) :: rest) := go_put (ws' := (wM ad q_code q_many q_pin q_size q_bytes q_kind q_bank q_address q_full q_linked q_packedBank q_packedAddress q_banks q_memory q_register q_stack q_place q_zero q_less x q_carry q_enabled q_soon q_ram q_low q_top q_mode q_state q_sent q_out)) X inQ tQ tQ_ok nQ_ok 0 rfl rfl 19 (by decide) (wT3 201 rfl rfl) rfl rfl (ty := .boolean) (by decide +kernel) (by rcases hz with rfl | rfl <;> rfl) (by rcases hz with rfl | rfl <;> rfl) (Nat.le_of_ble_eq_true rfl) rfl d k
theorem pt_Q_69 (X : cx_ G ad cc RQ fr lo n) {x : Int32} (hz : x = 0 ∨ x = 1) (d : decode cc pc = .ok (.putfield 69, 3)) (k : go_ G cells slots (wM ad q_code q_many q_pin q_size q_bytes q_kind q_bank q_address q_full q_linked q_packedBank q_packedAddress q_banks q_memory q_register q_stack q_place q_zero q_less q_half x q_enabled q_soon q_ram q_low q_top q_mode q_state q_sent q_out) (pc + 3) lc rest) : go_ G cells slots (wM ad q_code q_many q_pin q_size q_bytes q_kind q_bank q_address q_full q_linked q_packedBank q_packedAddress q_banks q_memory q_register q_stack q_place q_zero q_less q_half q_carry q_enabled q_soon q_ram q_low q_top q_mode q_state q_sent q_out) pc lc (.int x :: .ref (ad 30) :: rest) := go_put (ws' := (wM ad q_code q_many q_pin q_size q_bytes q_kind q_bank q_address q_full q_linked q_packedBank q_packedAddress q_banks q_memory q_register q_stack q_place q_zero q_less q_half x q_enabled q_soon q_ram q_low q_top q_mode q_state q_sent q_out)) X inQ tQ tQ_ok nQ_ok 0 rfl rfl 20 (by decide) (wT3 202 rfl rfl) rfl rfl (ty := .boolean) (by decide +kernel) (by rcases hz with rfl | rfl <;> rfl) (by rcases hz with rfl | rfl <;> rfl) (Nat.le_of_ble_eq_true rfl) rfl d k
theorem pt_Q_72 (X : cx_ G ad cc RQ fr lo n) {x : Int32} (hz : x = 0 ∨ x = 1) (d : decode cc pc = .ok (.putfield 72, 3)) (k : go_ G cells slots (wM ad q_code q_many q_pin q_size q_bytes q_kind q_bank q_address q_full q_linked q_packedBank q_packedAddress q_banks q_memory q_register q_stack q_place q_zero q_less q_half q_carry x q_soon q_ram q_low q_top q_mode q_state q_sent q_out) (pc + 3) lc rest) : go_ G cells slots (wM ad q_code q_many q_pin q_size q_bytes q_kind q_bank q_address q_full q_linked q_packedBank q_packedAddress q_banks q_memory q_register q_stack q_place q_zero q_less q_half q_carry q_enabled q_soon q_ram q_low q_top q_mode q_state q_sent q_out) pc lc (.int x :: .ref (ad 30) :: rest) := go_put (ws' := (wM ad q_code q_many q_pin q_size q_bytes q_kind q_bank q_address q_full q_linked q_packedBank q_packedAddress q_banks q_memory q_register q_stack q_place q_zero q_less q_half q_carry x q_soon q_ram q_low q_top q_mode q_state q_sent q_out)) X inQ tQ tQ_ok nQ_ok 0 rfl rfl 21 (by decide) (wT3 203 rfl rfl) rfl rfl (ty := .boolean) (by decide +kernel) (by rcases hz with rfl | rfl <;> rfl) (by rcases hz with rfl | rfl <;> rfl) (Nat.le_of_ble_eq_true rfl) rfl d k
theorem pt_Q_75 (X : cx_ G ad cc RQ fr lo n) {x : Int32} (hz : x = 0 ∨ x = 1) (d : decode cc pc = .ok (.putfield 75, 3)) (k : go_ G cells slots (wM ad q_code q_many q_pin q_size q_bytes q_kind q_bank q_address q_full q_linked q_packedBank q_packedAddress q_banks q_memory q_register q_stack q_place q_zero q_less q_half q_carry q_enabled x q_ram q_low q_top q_mode q_state q_sent q_out) (pc + 3) lc rest) : go_ G cells slots (wM ad q_code q_many q_pin q_size q_bytes q_kind q_bank q_address q_full q_linked q_packedBank q_packedAddress q_banks q_memory q_register q_stack q_place q_zero q_less q_half q_carry q_enabled q_soon q_ram q_low q_top q_mode q_state q_sent q_out) pc lc (.int x :: .ref (ad 30) :: rest) := go_put (ws' := (wM ad q_code q_many q_pin q_size q_bytes q_kind q_bank q_address q_full q_linked q_packedBank q_packedAddress q_banks q_memory q_register q_stack q_place q_zero q_less q_half q_carry q_enabled x q_ram q_low q_top q_mode q_state q_sent q_out)) X inQ tQ tQ_ok nQ_ok 0 rfl rfl 22 (by decide) (wT3 204 rfl rfl) rfl rfl (ty := .boolean) (by decide +kernel) (by rcases hz with rfl | rfl <;> rfl) (by rcases hz with rfl | rfl <;> rfl) (Nat.le_of_ble_eq_true rfl) rfl d k
theorem pt_Q_78 (X : cx_ G ad cc RQ fr lo n) {x : Int32} (hz : x = 0 ∨ x = 1) (d : decode cc pc = .ok (.putfield 78, 3)) (k : go_ G cells slots (wM ad q_code q_many q_pin q_size q_bytes q_kind q_bank q_address q_full q_linked q_packedBank q_packedAddress q_banks q_memory q_register q_stack q_place q_zero q_less q_half q_carry q_enabled q_soon x q_low q_top q_mode q_state q_sent q_out) (pc + 3) lc rest) : go_ G cells slots (wM ad q_code q_many q_pin q_size q_bytes q_kind q_bank q_address q_full q_linked q_packedBank q_packedAddress q_banks q_memory q_register q_stack q_place q_zero q_less q_half q_carry q_enabled q_soon q_ram q_low q_top q_mode q_state q_sent q_out) pc lc (.int x :: .ref (ad 30) :: rest) := go_put (ws' := (wM ad q_code q_many q_pin q_size q_bytes q_kind q_bank q_address q_full q_linked q_packedBank q_packedAddress q_banks q_memory q_register q_stack q_place q_zero q_less q_half q_carry q_enabled q_soon x q_low q_top q_mode q_state q_sent q_out)) X inQ tQ tQ_ok nQ_ok 0 rfl rfl 23 (by decide) (wT3 205 rfl rfl) rfl rfl (ty := .boolean) (by decide +kernel) (by rcases hz with rfl | rfl <;> rfl) (by rcases hz with rfl | rfl <;> rfl) (Nat.le_of_ble_eq_true rfl) rfl d k
theorem pt_Q_81 (X : cx_ G ad cc RQ fr lo n) {x : Int32} (d : decode cc pc = .ok (.putfield 81, 3)) (k : go_ G cells slots (wM ad q_code q_many q_pin q_size q_bytes q_kind q_bank q_address q_full q_linked q_packedBank q_packedAddress q_banks q_memory q_register q_stack q_place q_zero q_less q_half q_carry q_enabled q_soon q_ram x q_top q_mode q_state q_sent q_out) (pc + 3) lc rest) : go_ G cells slots (wM ad q_code q_many q_pin q_size q_bytes q_kind q_bank q_address q_full q_linked q_packedBank q_packedAddress q_banks q_memory q_register q_stack q_place q_zero q_less q_half q_carry q_enabled q_soon q_ram q_low q_top q_mode q_state q_sent q_out) pc lc (.int x :: .ref (ad 30) :: rest) := go_put (ws' := (wM ad q_code q_many q_pin q_size q_bytes q_kind q_bank q_address q_full q_linked q_packedBank q_packedAddress q_banks q_memory q_register q_stack q_place q_zero q_less q_half q_carry q_enabled q_soon q_ram x q_top q_mode q_state q_sent q_out)) X inQ tQ tQ_ok nQ_ok 0 rfl rfl 24 (by decide) (wT3 206 rfl rfl) rfl rfl (ty := .int) (by decide +kernel) rfl rfl (Nat.le_of_ble_eq_true rfl) rfl d k
theorem pt_Q_84 (X : cx_ G ad cc RQ fr lo n) {x : Int32} (d : decode cc pc = .ok (.putfield 84, 3)) (k : go_ G cells slots (wM ad q_code q_many q_pin q_size q_bytes q_kind q_bank q_address q_full q_linked q_packedBank q_packedAddress q_banks q_memory q_register q_stack q_place q_zero q_less q_half q_carry q_enabled q_soon q_ram q_low x q_mode q_state q_sent q_out) (pc + 3) lc rest) : go_ G cells slots (wM ad q_code q_many q_pin q_size q_bytes q_kind q_bank q_address q_full q_linked q_packedBank q_packedAddress q_banks q_memory q_register q_stack q_place q_zero q_less q_half q_carry q_enabled q_soon q_ram q_low q_top q_mode q_state q_sent q_out) pc lc (.int x :: .ref (ad 30) :: rest) := go_put (ws' := (wM ad q_code q_many q_pin q_size q_bytes q_kind q_bank q_address q_full q_linked q_packedBank q_packedAddress q_banks q_memory q_register q_stack q_place q_zero q_less q_half q_carry q_enabled q_soon q_ram q_low x q_mode q_state q_sent q_out)) X inQ tQ tQ_ok nQ_ok 0 rfl rfl 25 (by decide) (wT3 207 rfl rfl) rfl rfl (ty := .int) (by decide +kernel) rfl rfl (Nat.le_of_ble_eq_true rfl) rfl d k
theorem pt_Q_87 (X : cx_ G ad cc RQ fr lo n) {x : Int32} (d : decode cc pc = .ok (.putfield 87, 3)) (k : go_ G cells slots (wM ad q_code q_many q_pin q_size q_bytes q_kind q_bank q_address q_full q_linked q_packedBank q_packedAddress q_banks q_memory q_register q_stack q_place q_zero q_less q_half q_carry q_enabled q_soon q_ram q_low q_top x q_state q_sent q_out) (pc + 3) lc rest) : go_ G cells slots (wM ad q_code q_many q_pin q_size q_bytes q_kind q_bank q_address q_full q_linked q_packedBank q_packedAddress q_banks q_memory q_register q_stack q_place q_zero q_less q_half q_carry q_enabled q_soon q_ram q_low q_top q_mode q_state q_sent q_out) pc lc (.int x :: .ref (ad 30) :: rest) := go_put (ws' := (wM ad q_code q_many q_pin q_size q_bytes q_kind q_bank q_address q_full q_linked q_packedBank q_packedAddress q_banks q_memory q_register q_stack q_place q_zero q_less q_half q_carry q_enabled q_soon q_ram q_low q_top x q_state q_sent q_out)) X inQ tQ tQ_ok nQ_ok 0 rfl rfl 26 (by decide) (wT3 208 rfl rfl) rfl rfl (ty := .int) (by decide +kernel) rfl rfl (Nat.le_of_ble_eq_true rfl) rfl d k
theorem pt_Q_90 (X : cx_ G ad cc RQ fr lo n) {x : Int32} (d : decode cc pc = .ok (.putfield 90, 3)) (k : go_ G cells slots (wM ad q_code q_many q_pin q_size q_bytes q_kind q_bank q_address q_full q_linked q_packedBank q_packedAddress q_banks q_memory q_register q_stack q_place q_zero q_less q_half q_carry q_enabled q_soon q_ram q_low q_top q_mode x q_sent q_out) (pc + 3) lc rest) : go_ G cells slots (wM ad q_code q_many q_pin q_size q_bytes q_kind q_bank q_address q_full q_linked q_packedBank q_packedAddress q_banks q_memory q_register q_stack q_place q_zero q_less q_half q_carry q_enabled q_soon q_ram q_low q_top q_mode q_state q_sent q_out) pc lc (.int x :: .ref (ad 30) :: rest) := go_put (ws' := (wM ad q_code q_many q_pin q_size q_bytes q_kind q_bank q_address q_full q_linked q_packedBank q_packedAddress q_banks q_memory q_register q_stack q_place q_zero q_less q_half q_carry q_enabled q_soon q_ram q_low q_top q_mode x q_sent q_out)) X inQ tQ tQ_ok nQ_ok 0 rfl rfl 27 (by decide) (wT3 209 rfl rfl) rfl rfl (ty := .int) (by decide +kernel) rfl rfl (Nat.le_of_ble_eq_true rfl) rfl d k
theorem pt_Q_93 (X : cx_ G ad cc RQ fr lo n) {x : Int32} (d : decode cc pc = .ok (.putfield 93, 3)) (k : go_ G cells slots (wM ad q_code q_many q_pin q_size q_bytes q_kind q_bank q_address q_full q_linked q_packedBank q_packedAddress q_banks q_memory q_register q_stack q_place q_zero q_less q_half q_carry q_enabled q_soon q_ram q_low q_top q_mode q_state x q_out) (pc + 3) lc rest) : go_ G cells slots (wM ad q_code q_many q_pin q_size q_bytes q_kind q_bank q_address q_full q_linked q_packedBank q_packedAddress q_banks q_memory q_register q_stack q_place q_zero q_less q_half q_carry q_enabled q_soon q_ram q_low q_top q_mode q_state q_sent q_out) pc lc (.int x :: .ref (ad 30) :: rest) := go_put (ws' := (wM ad q_code q_many q_pin q_size q_bytes q_kind q_bank q_address q_full q_linked q_packedBank q_packedAddress q_banks q_memory q_register q_stack q_place q_zero q_less q_half q_carry q_enabled q_soon q_ram q_low q_top q_mode q_state x q_out)) X inQ tQ tQ_ok nQ_ok 0 rfl rfl 28 (by decide) (wT3 210 rfl rfl) rfl rfl (ty := .int) (by decide +kernel) rfl rfl (Nat.le_of_ble_eq_true rfl) rfl d k
theorem pt_S_24 (X : cx_ G ad cc RS fr lo n) {x : Int32} (d : decode cc pc = .ok (.putfield 24, 3)) (k : go_ G cells slots (wC ad s_bk s_ln s_kd s_vl x k_ce k_bc m_ra m_up m_on m_lo m_hi m_mo m_ma m_li n_rg n_sb n_st n_pl n_z n_n n_h n_c n_en n_so n_co n_sc l_bk l_of l_en l_ct t_bk t_of t_en t_ct) (pc + 3) lc rest) : go_ G cells slots (wC ad s_bk s_ln s_kd s_vl s_ct k_ce k_bc m_ra m_up m_on m_lo m_hi m_mo m_ma m_li n_rg n_sb n_st n_pl n_z n_n n_h n_c n_en n_so n_co n_sc l_bk l_of l_en l_ct t_bk t_of t_en t_ct) pc lc (.int x :: .ref (ad 1) :: rest) := go_put (ws' := (wC ad s_bk s_ln s_kd s_vl x k_ce k_bc m_ra m_up m_on m_lo m_hi m_mo m_ma m_li n_rg n_sb n_st n_pl n_z n_n n_h n_c n_en n_so n_co n_sc l_bk l_of l_en l_ct t_bk t_of t_en t_ct)) X inS tS tS_ok nS_ok 1 rfl rfl 4 (by decide) (wT1 38 rfl rfl) rfl rfl (ty := .int) (by decide +kernel) rfl rfl (Nat.le_of_ble_eq_true rfl) rfl d k
theorem ar_s_bk (X : cx_ G ad cc own fr lo n) {i : Int32} (hin : vp_in i 10) (d : decode cc pc = .ok (.iaload, 1)) (k : go_ G cells slots (wC ad s_bk s_ln s_kd s_vl s_ct k_ce k_bc m_ra m_up m_on m_lo m_hi m_mo m_ma m_li n_rg n_sb n_st n_pl n_z n_n n_h n_c n_en n_so n_co n_sc l_bk l_of l_en l_ct t_bk t_of t_en t_ct) (pc + 1) lc (.int (s_bk i.toNatClampNeg) :: rest)) : go_ G cells slots (wC ad s_bk s_ln s_kd s_vl s_ct k_ce k_bc m_ra m_up m_on m_lo m_hi m_mo m_ma m_li n_rg n_sb n_st n_pl n_z n_n n_h n_c n_en n_so n_co n_sc l_bk l_of l_en l_ct t_bk t_of t_en t_ct) pc lc (.int i :: .ref (ad 2) :: rest) := go_iald X 2 rfl hin d k
theorem as_s_bk (X : cx_ G ad cc own fr lo n) {i x : Int32} (hin : vp_in i 10) (d : decode cc pc = .ok (.iastore, 1)) (k : go_ G cells slots (wC ad (upd s_bk i.toNatClampNeg x) s_ln s_kd s_vl s_ct k_ce k_bc m_ra m_up m_on m_lo m_hi m_mo m_ma m_li n_rg n_sb n_st n_pl n_z n_n n_h n_c n_en n_so n_co n_sc l_bk l_of l_en l_ct t_bk t_of t_en t_ct) (pc + 1) lc rest) : go_ G cells slots (wC ad s_bk s_ln s_kd s_vl s_ct k_ce k_bc m_ra m_up m_on m_lo m_hi m_mo m_ma m_li n_rg n_sb n_st n_pl n_z n_n n_h n_c n_en n_so n_co n_sc l_bk l_of l_en l_ct t_bk t_of t_en t_ct) pc lc (.int x :: .int i :: .ref (ad 2) :: rest) := go_iast X 2 rfl hin rfl d k
theorem ar_s_ln (X : cx_ G ad cc own fr lo n) {i : Int32} (hin : vp_in i 10) (d : decode cc pc = .ok (.iaload, 1)) (k : go_ G cells slots (wC ad s_bk s_ln s_kd s_vl s_ct k_ce k_bc m_ra m_up m_on m_lo m_hi m_mo m_ma m_li n_rg n_sb n_st n_pl n_z n_n n_h n_c n_en n_so n_co n_sc l_bk l_of l_en l_ct t_bk t_of t_en t_ct) (pc + 1) lc (.int (s_ln i.toNatClampNeg) :: rest)) : go_ G cells slots (wC ad s_bk s_ln s_kd s_vl s_ct k_ce k_bc m_ra m_up m_on m_lo m_hi m_mo m_ma m_li n_rg n_sb n_st n_pl n_z n_n n_h n_c n_en n_so n_co n_sc l_bk l_of l_en l_ct t_bk t_of t_en t_ct) pc lc (.int i :: .ref (ad 3) :: rest) := go_iald X 3 rfl hin d k
theorem as_s_ln (X : cx_ G ad cc own fr lo n) {i x : Int32} (hin : vp_in i 10) (d : decode cc pc = .ok (.iastore, 1)) (k : go_ G cells slots (wC ad s_bk (upd s_ln i.toNatClampNeg x) s_kd s_vl s_ct k_ce k_bc m_ra m_up m_on m_lo m_hi m_mo m_ma m_li n_rg n_sb n_st n_pl n_z n_n n_h n_c n_en n_so n_co n_sc l_bk l_of l_en l_ct t_bk t_of t_en t_ct) (pc + 1) lc rest) : go_ G cells slots (wC ad s_bk s_ln s_kd s_vl s_ct k_ce k_bc m_ra m_up m_on m_lo m_hi m_mo m_ma m_li n_rg n_sb n_st n_pl n_z n_n n_h n_c n_en n_so n_co n_sc l_bk l_of l_en l_ct t_bk t_of t_en t_ct) pc lc (.int x :: .int i :: .ref (ad 3) :: rest) := go_iast X 3 rfl hin rfl d k
theorem ar_s_kd (X : cx_ G ad cc own fr lo n) {i : Int32} (hin : vp_in i 480) (d : decode cc pc = .ok (.iaload, 1)) (k : go_ G cells slots (wC ad s_bk s_ln s_kd s_vl s_ct k_ce k_bc m_ra m_up m_on m_lo m_hi m_mo m_ma m_li n_rg n_sb n_st n_pl n_z n_n n_h n_c n_en n_so n_co n_sc l_bk l_of l_en l_ct t_bk t_of t_en t_ct) (pc + 1) lc (.int (s_kd i.toNatClampNeg) :: rest)) : go_ G cells slots (wC ad s_bk s_ln s_kd s_vl s_ct k_ce k_bc m_ra m_up m_on m_lo m_hi m_mo m_ma m_li n_rg n_sb n_st n_pl n_z n_n n_h n_c n_en n_so n_co n_sc l_bk l_of l_en l_ct t_bk t_of t_en t_ct) pc lc (.int i :: .ref (ad 4) :: rest) := go_iald X 4 rfl hin d k
theorem as_s_kd (X : cx_ G ad cc own fr lo n) {i x : Int32} (hin : vp_in i 480) (d : decode cc pc = .ok (.iastore, 1)) (k : go_ G cells slots (wC ad s_bk s_ln (upd s_kd i.toNatClampNeg x) s_vl s_ct k_ce k_bc m_ra m_up m_on m_lo m_hi m_mo m_ma m_li n_rg n_sb n_st n_pl n_z n_n n_h n_c n_en n_so n_co n_sc l_bk l_of l_en l_ct t_bk t_of t_en t_ct) (pc + 1) lc rest) : go_ G cells slots (wC ad s_bk s_ln s_kd s_vl s_ct k_ce k_bc m_ra m_up m_on m_lo m_hi m_mo m_ma m_li n_rg n_sb n_st n_pl n_z n_n n_h n_c n_en n_so n_co n_sc l_bk l_of l_en l_ct t_bk t_of t_en t_ct) pc lc (.int x :: .int i :: .ref (ad 4) :: rest) := go_iast X 4 rfl hin rfl d k
theorem ar_s_vl (X : cx_ G ad cc own fr lo n) {i : Int32} (hin : vp_in i 480) (d : decode cc pc = .ok (.iaload, 1)) (k : go_ G cells slots (wC ad s_bk s_ln s_kd s_vl s_ct k_ce k_bc m_ra m_up m_on m_lo m_hi m_mo m_ma m_li n_rg n_sb n_st n_pl n_z n_n n_h n_c n_en n_so n_co n_sc l_bk l_of l_en l_ct t_bk t_of t_en t_ct) (pc + 1) lc (.int (s_vl i.toNatClampNeg) :: rest)) : go_ G cells slots (wC ad s_bk s_ln s_kd s_vl s_ct k_ce k_bc m_ra m_up m_on m_lo m_hi m_mo m_ma m_li n_rg n_sb n_st n_pl n_z n_n n_h n_c n_en n_so n_co n_sc l_bk l_of l_en l_ct t_bk t_of t_en t_ct) pc lc (.int i :: .ref (ad 5) :: rest) := go_iald X 5 rfl hin d k
theorem as_s_vl (X : cx_ G ad cc own fr lo n) {i x : Int32} (hin : vp_in i 480) (d : decode cc pc = .ok (.iastore, 1)) (k : go_ G cells slots (wC ad s_bk s_ln s_kd (upd s_vl i.toNatClampNeg x) s_ct k_ce k_bc m_ra m_up m_on m_lo m_hi m_mo m_ma m_li n_rg n_sb n_st n_pl n_z n_n n_h n_c n_en n_so n_co n_sc l_bk l_of l_en l_ct t_bk t_of t_en t_ct) (pc + 1) lc rest) : go_ G cells slots (wC ad s_bk s_ln s_kd s_vl s_ct k_ce k_bc m_ra m_up m_on m_lo m_hi m_mo m_ma m_li n_rg n_sb n_st n_pl n_z n_n n_h n_c n_en n_so n_co n_sc l_bk l_of l_en l_ct t_bk t_of t_en t_ct) pc lc (.int x :: .int i :: .ref (ad 5) :: rest) := go_iast X 5 rfl hin rfl d k
theorem ar_k_ce (X : cx_ G ad cc own fr lo n) {i : Int32} (hin : vp_in i 512) (d : decode cc pc = .ok (.iaload, 1)) (k : go_ G cells slots (wC ad s_bk s_ln s_kd s_vl s_ct k_ce k_bc m_ra m_up m_on m_lo m_hi m_mo m_ma m_li n_rg n_sb n_st n_pl n_z n_n n_h n_c n_en n_so n_co n_sc l_bk l_of l_en l_ct t_bk t_of t_en t_ct) (pc + 1) lc (.int (k_ce i.toNatClampNeg) :: rest)) : go_ G cells slots (wC ad s_bk s_ln s_kd s_vl s_ct k_ce k_bc m_ra m_up m_on m_lo m_hi m_mo m_ma m_li n_rg n_sb n_st n_pl n_z n_n n_h n_c n_en n_so n_co n_sc l_bk l_of l_en l_ct t_bk t_of t_en t_ct) pc lc (.int i :: .ref (ad 7) :: rest) := go_iald X 7 rfl hin d k
theorem as_k_ce (X : cx_ G ad cc own fr lo n) {i x : Int32} (hin : vp_in i 512) (d : decode cc pc = .ok (.iastore, 1)) (k : go_ G cells slots (wC ad s_bk s_ln s_kd s_vl s_ct (upd k_ce i.toNatClampNeg x) k_bc m_ra m_up m_on m_lo m_hi m_mo m_ma m_li n_rg n_sb n_st n_pl n_z n_n n_h n_c n_en n_so n_co n_sc l_bk l_of l_en l_ct t_bk t_of t_en t_ct) (pc + 1) lc rest) : go_ G cells slots (wC ad s_bk s_ln s_kd s_vl s_ct k_ce k_bc m_ra m_up m_on m_lo m_hi m_mo m_ma m_li n_rg n_sb n_st n_pl n_z n_n n_h n_c n_en n_so n_co n_sc l_bk l_of l_en l_ct t_bk t_of t_en t_ct) pc lc (.int x :: .int i :: .ref (ad 7) :: rest) := go_iast X 7 rfl hin rfl d k
theorem ar_m_ra (X : cx_ G ad cc own fr lo n) {i : Int32} (hin : vp_in i 128) (d : decode cc pc = .ok (.iaload, 1)) (k : go_ G cells slots (wC ad s_bk s_ln s_kd s_vl s_ct k_ce k_bc m_ra m_up m_on m_lo m_hi m_mo m_ma m_li n_rg n_sb n_st n_pl n_z n_n n_h n_c n_en n_so n_co n_sc l_bk l_of l_en l_ct t_bk t_of t_en t_ct) (pc + 1) lc (.int (m_ra i.toNatClampNeg) :: rest)) : go_ G cells slots (wC ad s_bk s_ln s_kd s_vl s_ct k_ce k_bc m_ra m_up m_on m_lo m_hi m_mo m_ma m_li n_rg n_sb n_st n_pl n_z n_n n_h n_c n_en n_so n_co n_sc l_bk l_of l_en l_ct t_bk t_of t_en t_ct) pc lc (.int i :: .ref (ad 9) :: rest) := go_iald X 9 rfl hin d k
theorem as_m_ra (X : cx_ G ad cc own fr lo n) {i x : Int32} (hin : vp_in i 128) (d : decode cc pc = .ok (.iastore, 1)) (k : go_ G cells slots (wC ad s_bk s_ln s_kd s_vl s_ct k_ce k_bc (upd m_ra i.toNatClampNeg x) m_up m_on m_lo m_hi m_mo m_ma m_li n_rg n_sb n_st n_pl n_z n_n n_h n_c n_en n_so n_co n_sc l_bk l_of l_en l_ct t_bk t_of t_en t_ct) (pc + 1) lc rest) : go_ G cells slots (wC ad s_bk s_ln s_kd s_vl s_ct k_ce k_bc m_ra m_up m_on m_lo m_hi m_mo m_ma m_li n_rg n_sb n_st n_pl n_z n_n n_h n_c n_en n_so n_co n_sc l_bk l_of l_en l_ct t_bk t_of t_en t_ct) pc lc (.int x :: .int i :: .ref (ad 9) :: rest) := go_iast X 9 rfl hin rfl d k
theorem ar_m_up (X : cx_ G ad cc own fr lo n) {i : Int32} (hin : vp_in i 62) (d : decode cc pc = .ok (.iaload, 1)) (k : go_ G cells slots (wC ad s_bk s_ln s_kd s_vl s_ct k_ce k_bc m_ra m_up m_on m_lo m_hi m_mo m_ma m_li n_rg n_sb n_st n_pl n_z n_n n_h n_c n_en n_so n_co n_sc l_bk l_of l_en l_ct t_bk t_of t_en t_ct) (pc + 1) lc (.int (m_up i.toNatClampNeg) :: rest)) : go_ G cells slots (wC ad s_bk s_ln s_kd s_vl s_ct k_ce k_bc m_ra m_up m_on m_lo m_hi m_mo m_ma m_li n_rg n_sb n_st n_pl n_z n_n n_h n_c n_en n_so n_co n_sc l_bk l_of l_en l_ct t_bk t_of t_en t_ct) pc lc (.int i :: .ref (ad 10) :: rest) := go_iald X 10 rfl hin d k
theorem as_m_up (X : cx_ G ad cc own fr lo n) {i x : Int32} (hin : vp_in i 62) (d : decode cc pc = .ok (.iastore, 1)) (k : go_ G cells slots (wC ad s_bk s_ln s_kd s_vl s_ct k_ce k_bc m_ra (upd m_up i.toNatClampNeg x) m_on m_lo m_hi m_mo m_ma m_li n_rg n_sb n_st n_pl n_z n_n n_h n_c n_en n_so n_co n_sc l_bk l_of l_en l_ct t_bk t_of t_en t_ct) (pc + 1) lc rest) : go_ G cells slots (wC ad s_bk s_ln s_kd s_vl s_ct k_ce k_bc m_ra m_up m_on m_lo m_hi m_mo m_ma m_li n_rg n_sb n_st n_pl n_z n_n n_h n_c n_en n_so n_co n_sc l_bk l_of l_en l_ct t_bk t_of t_en t_ct) pc lc (.int x :: .int i :: .ref (ad 10) :: rest) := go_iast X 10 rfl hin rfl d k
theorem ar_n_rg (X : cx_ G ad cc own fr lo n) {i : Int32} (hin : vp_in i 8) (d : decode cc pc = .ok (.iaload, 1)) (k : go_ G cells slots (wC ad s_bk s_ln s_kd s_vl s_ct k_ce k_bc m_ra m_up m_on m_lo m_hi m_mo m_ma m_li n_rg n_sb n_st n_pl n_z n_n n_h n_c n_en n_so n_co n_sc l_bk l_of l_en l_ct t_bk t_of t_en t_ct) (pc + 1) lc (.int (n_rg i.toNatClampNeg) :: rest)) : go_ G cells slots (wC ad s_bk s_ln s_kd s_vl s_ct k_ce k_bc m_ra m_up m_on m_lo m_hi m_mo m_ma m_li n_rg n_sb n_st n_pl n_z n_n n_h n_c n_en n_so n_co n_sc l_bk l_of l_en l_ct t_bk t_of t_en t_ct) pc lc (.int i :: .ref (ad 12) :: rest) := go_iald X 12 rfl hin d k
theorem as_n_rg (X : cx_ G ad cc own fr lo n) {i x : Int32} (hin : vp_in i 8) (d : decode cc pc = .ok (.iastore, 1)) (k : go_ G cells slots (wC ad s_bk s_ln s_kd s_vl s_ct k_ce k_bc m_ra m_up m_on m_lo m_hi m_mo m_ma m_li (upd n_rg i.toNatClampNeg x) n_sb n_st n_pl n_z n_n n_h n_c n_en n_so n_co n_sc l_bk l_of l_en l_ct t_bk t_of t_en t_ct) (pc + 1) lc rest) : go_ G cells slots (wC ad s_bk s_ln s_kd s_vl s_ct k_ce k_bc m_ra m_up m_on m_lo m_hi m_mo m_ma m_li n_rg n_sb n_st n_pl n_z n_n n_h n_c n_en n_so n_co n_sc l_bk l_of l_en l_ct t_bk t_of t_en t_ct) pc lc (.int x :: .int i :: .ref (ad 12) :: rest) := go_iast X 12 rfl hin rfl d k
theorem ar_n_sb (X : cx_ G ad cc own fr lo n) {i : Int32} (hin : vp_in i 100) (d : decode cc pc = .ok (.iaload, 1)) (k : go_ G cells slots (wC ad s_bk s_ln s_kd s_vl s_ct k_ce k_bc m_ra m_up m_on m_lo m_hi m_mo m_ma m_li n_rg n_sb n_st n_pl n_z n_n n_h n_c n_en n_so n_co n_sc l_bk l_of l_en l_ct t_bk t_of t_en t_ct) (pc + 1) lc (.int (n_sb i.toNatClampNeg) :: rest)) : go_ G cells slots (wC ad s_bk s_ln s_kd s_vl s_ct k_ce k_bc m_ra m_up m_on m_lo m_hi m_mo m_ma m_li n_rg n_sb n_st n_pl n_z n_n n_h n_c n_en n_so n_co n_sc l_bk l_of l_en l_ct t_bk t_of t_en t_ct) pc lc (.int i :: .ref (ad 13) :: rest) := go_iald X 13 rfl hin d k
theorem as_n_sb (X : cx_ G ad cc own fr lo n) {i x : Int32} (hin : vp_in i 100) (d : decode cc pc = .ok (.iastore, 1)) (k : go_ G cells slots (wC ad s_bk s_ln s_kd s_vl s_ct k_ce k_bc m_ra m_up m_on m_lo m_hi m_mo m_ma m_li n_rg (upd n_sb i.toNatClampNeg x) n_st n_pl n_z n_n n_h n_c n_en n_so n_co n_sc l_bk l_of l_en l_ct t_bk t_of t_en t_ct) (pc + 1) lc rest) : go_ G cells slots (wC ad s_bk s_ln s_kd s_vl s_ct k_ce k_bc m_ra m_up m_on m_lo m_hi m_mo m_ma m_li n_rg n_sb n_st n_pl n_z n_n n_h n_c n_en n_so n_co n_sc l_bk l_of l_en l_ct t_bk t_of t_en t_ct) pc lc (.int x :: .int i :: .ref (ad 13) :: rest) := go_iast X 13 rfl hin rfl d k
theorem ar_l_bk (X : cx_ G ad cc own fr lo n) {i : Int32} (hin : vp_in i 10) (d : decode cc pc = .ok (.iaload, 1)) (k : go_ G cells slots (wC ad s_bk s_ln s_kd s_vl s_ct k_ce k_bc m_ra m_up m_on m_lo m_hi m_mo m_ma m_li n_rg n_sb n_st n_pl n_z n_n n_h n_c n_en n_so n_co n_sc l_bk l_of l_en l_ct t_bk t_of t_en t_ct) (pc + 1) lc (.int (l_bk i.toNatClampNeg) :: rest)) : go_ G cells slots (wC ad s_bk s_ln s_kd s_vl s_ct k_ce k_bc m_ra m_up m_on m_lo m_hi m_mo m_ma m_li n_rg n_sb n_st n_pl n_z n_n n_h n_c n_en n_so n_co n_sc l_bk l_of l_en l_ct t_bk t_of t_en t_ct) pc lc (.int i :: .ref (ad 15) :: rest) := go_iald X 15 rfl hin d k
theorem as_l_bk (X : cx_ G ad cc own fr lo n) {i x : Int32} (hin : vp_in i 10) (d : decode cc pc = .ok (.iastore, 1)) (k : go_ G cells slots (wC ad s_bk s_ln s_kd s_vl s_ct k_ce k_bc m_ra m_up m_on m_lo m_hi m_mo m_ma m_li n_rg n_sb n_st n_pl n_z n_n n_h n_c n_en n_so n_co n_sc (upd l_bk i.toNatClampNeg x) l_of l_en l_ct t_bk t_of t_en t_ct) (pc + 1) lc rest) : go_ G cells slots (wC ad s_bk s_ln s_kd s_vl s_ct k_ce k_bc m_ra m_up m_on m_lo m_hi m_mo m_ma m_li n_rg n_sb n_st n_pl n_z n_n n_h n_c n_en n_so n_co n_sc l_bk l_of l_en l_ct t_bk t_of t_en t_ct) pc lc (.int x :: .int i :: .ref (ad 15) :: rest) := go_iast X 15 rfl hin rfl d k
theorem ar_l_of (X : cx_ G ad cc own fr lo n) {i : Int32} (hin : vp_in i 10) (d : decode cc pc = .ok (.iaload, 1)) (k : go_ G cells slots (wC ad s_bk s_ln s_kd s_vl s_ct k_ce k_bc m_ra m_up m_on m_lo m_hi m_mo m_ma m_li n_rg n_sb n_st n_pl n_z n_n n_h n_c n_en n_so n_co n_sc l_bk l_of l_en l_ct t_bk t_of t_en t_ct) (pc + 1) lc (.int (l_of i.toNatClampNeg) :: rest)) : go_ G cells slots (wC ad s_bk s_ln s_kd s_vl s_ct k_ce k_bc m_ra m_up m_on m_lo m_hi m_mo m_ma m_li n_rg n_sb n_st n_pl n_z n_n n_h n_c n_en n_so n_co n_sc l_bk l_of l_en l_ct t_bk t_of t_en t_ct) pc lc (.int i :: .ref (ad 16) :: rest) := go_iald X 16 rfl hin d k
theorem as_l_of (X : cx_ G ad cc own fr lo n) {i x : Int32} (hin : vp_in i 10) (d : decode cc pc = .ok (.iastore, 1)) (k : go_ G cells slots (wC ad s_bk s_ln s_kd s_vl s_ct k_ce k_bc m_ra m_up m_on m_lo m_hi m_mo m_ma m_li n_rg n_sb n_st n_pl n_z n_n n_h n_c n_en n_so n_co n_sc l_bk (upd l_of i.toNatClampNeg x) l_en l_ct t_bk t_of t_en t_ct) (pc + 1) lc rest) : go_ G cells slots (wC ad s_bk s_ln s_kd s_vl s_ct k_ce k_bc m_ra m_up m_on m_lo m_hi m_mo m_ma m_li n_rg n_sb n_st n_pl n_z n_n n_h n_c n_en n_so n_co n_sc l_bk l_of l_en l_ct t_bk t_of t_en t_ct) pc lc (.int x :: .int i :: .ref (ad 16) :: rest) := go_iast X 16 rfl hin rfl d k
theorem ar_l_en (X : cx_ G ad cc own fr lo n) {i : Int32} (hin : vp_in i 8) (d : decode cc pc = .ok (.iaload, 1)) (k : go_ G cells slots (wC ad s_bk s_ln s_kd s_vl s_ct k_ce k_bc m_ra m_up m_on m_lo m_hi m_mo m_ma m_li n_rg n_sb n_st n_pl n_z n_n n_h n_c n_en n_so n_co n_sc l_bk l_of l_en l_ct t_bk t_of t_en t_ct) (pc + 1) lc (.int (l_en i.toNatClampNeg) :: rest)) : go_ G cells slots (wC ad s_bk s_ln s_kd s_vl s_ct k_ce k_bc m_ra m_up m_on m_lo m_hi m_mo m_ma m_li n_rg n_sb n_st n_pl n_z n_n n_h n_c n_en n_so n_co n_sc l_bk l_of l_en l_ct t_bk t_of t_en t_ct) pc lc (.int i :: .ref (ad 17) :: rest) := go_iald X 17 rfl hin d k
theorem as_l_en (X : cx_ G ad cc own fr lo n) {i x : Int32} (hin : vp_in i 8) (d : decode cc pc = .ok (.iastore, 1)) (k : go_ G cells slots (wC ad s_bk s_ln s_kd s_vl s_ct k_ce k_bc m_ra m_up m_on m_lo m_hi m_mo m_ma m_li n_rg n_sb n_st n_pl n_z n_n n_h n_c n_en n_so n_co n_sc l_bk l_of (upd l_en i.toNatClampNeg x) l_ct t_bk t_of t_en t_ct) (pc + 1) lc rest) : go_ G cells slots (wC ad s_bk s_ln s_kd s_vl s_ct k_ce k_bc m_ra m_up m_on m_lo m_hi m_mo m_ma m_li n_rg n_sb n_st n_pl n_z n_n n_h n_c n_en n_so n_co n_sc l_bk l_of l_en l_ct t_bk t_of t_en t_ct) pc lc (.int x :: .int i :: .ref (ad 17) :: rest) := go_iast X 17 rfl hin rfl d k
theorem ar_t_bk (X : cx_ G ad cc own fr lo n) {i : Int32} (hin : vp_in i 10) (d : decode cc pc = .ok (.iaload, 1)) (k : go_ G cells slots (wC ad s_bk s_ln s_kd s_vl s_ct k_ce k_bc m_ra m_up m_on m_lo m_hi m_mo m_ma m_li n_rg n_sb n_st n_pl n_z n_n n_h n_c n_en n_so n_co n_sc l_bk l_of l_en l_ct t_bk t_of t_en t_ct) (pc + 1) lc (.int (t_bk i.toNatClampNeg) :: rest)) : go_ G cells slots (wC ad s_bk s_ln s_kd s_vl s_ct k_ce k_bc m_ra m_up m_on m_lo m_hi m_mo m_ma m_li n_rg n_sb n_st n_pl n_z n_n n_h n_c n_en n_so n_co n_sc l_bk l_of l_en l_ct t_bk t_of t_en t_ct) pc lc (.int i :: .ref (ad 19) :: rest) := go_iald X 19 rfl hin d k
theorem as_t_bk (X : cx_ G ad cc own fr lo n) {i x : Int32} (hin : vp_in i 10) (d : decode cc pc = .ok (.iastore, 1)) (k : go_ G cells slots (wC ad s_bk s_ln s_kd s_vl s_ct k_ce k_bc m_ra m_up m_on m_lo m_hi m_mo m_ma m_li n_rg n_sb n_st n_pl n_z n_n n_h n_c n_en n_so n_co n_sc l_bk l_of l_en l_ct (upd t_bk i.toNatClampNeg x) t_of t_en t_ct) (pc + 1) lc rest) : go_ G cells slots (wC ad s_bk s_ln s_kd s_vl s_ct k_ce k_bc m_ra m_up m_on m_lo m_hi m_mo m_ma m_li n_rg n_sb n_st n_pl n_z n_n n_h n_c n_en n_so n_co n_sc l_bk l_of l_en l_ct t_bk t_of t_en t_ct) pc lc (.int x :: .int i :: .ref (ad 19) :: rest) := go_iast X 19 rfl hin rfl d k
theorem ar_t_of (X : cx_ G ad cc own fr lo n) {i : Int32} (hin : vp_in i 10) (d : decode cc pc = .ok (.iaload, 1)) (k : go_ G cells slots (wC ad s_bk s_ln s_kd s_vl s_ct k_ce k_bc m_ra m_up m_on m_lo m_hi m_mo m_ma m_li n_rg n_sb n_st n_pl n_z n_n n_h n_c n_en n_so n_co n_sc l_bk l_of l_en l_ct t_bk t_of t_en t_ct) (pc + 1) lc (.int (t_of i.toNatClampNeg) :: rest)) : go_ G cells slots (wC ad s_bk s_ln s_kd s_vl s_ct k_ce k_bc m_ra m_up m_on m_lo m_hi m_mo m_ma m_li n_rg n_sb n_st n_pl n_z n_n n_h n_c n_en n_so n_co n_sc l_bk l_of l_en l_ct t_bk t_of t_en t_ct) pc lc (.int i :: .ref (ad 20) :: rest) := go_iald X 20 rfl hin d k
theorem as_t_of (X : cx_ G ad cc own fr lo n) {i x : Int32} (hin : vp_in i 10) (d : decode cc pc = .ok (.iastore, 1)) (k : go_ G cells slots (wC ad s_bk s_ln s_kd s_vl s_ct k_ce k_bc m_ra m_up m_on m_lo m_hi m_mo m_ma m_li n_rg n_sb n_st n_pl n_z n_n n_h n_c n_en n_so n_co n_sc l_bk l_of l_en l_ct t_bk (upd t_of i.toNatClampNeg x) t_en t_ct) (pc + 1) lc rest) : go_ G cells slots (wC ad s_bk s_ln s_kd s_vl s_ct k_ce k_bc m_ra m_up m_on m_lo m_hi m_mo m_ma m_li n_rg n_sb n_st n_pl n_z n_n n_h n_c n_en n_so n_co n_sc l_bk l_of l_en l_ct t_bk t_of t_en t_ct) pc lc (.int x :: .int i :: .ref (ad 20) :: rest) := go_iast X 20 rfl hin rfl d k
theorem ar_t_en (X : cx_ G ad cc own fr lo n) {i : Int32} (hin : vp_in i 8) (d : decode cc pc = .ok (.iaload, 1)) (k : go_ G cells slots (wC ad s_bk s_ln s_kd s_vl s_ct k_ce k_bc m_ra m_up m_on m_lo m_hi m_mo m_ma m_li n_rg n_sb n_st n_pl n_z n_n n_h n_c n_en n_so n_co n_sc l_bk l_of l_en l_ct t_bk t_of t_en t_ct) (pc + 1) lc (.int (t_en i.toNatClampNeg) :: rest)) : go_ G cells slots (wC ad s_bk s_ln s_kd s_vl s_ct k_ce k_bc m_ra m_up m_on m_lo m_hi m_mo m_ma m_li n_rg n_sb n_st n_pl n_z n_n n_h n_c n_en n_so n_co n_sc l_bk l_of l_en l_ct t_bk t_of t_en t_ct) pc lc (.int i :: .ref (ad 21) :: rest) := go_iald X 21 rfl hin d k
theorem as_t_en (X : cx_ G ad cc own fr lo n) {i x : Int32} (hin : vp_in i 8) (d : decode cc pc = .ok (.iastore, 1)) (k : go_ G cells slots (wC ad s_bk s_ln s_kd s_vl s_ct k_ce k_bc m_ra m_up m_on m_lo m_hi m_mo m_ma m_li n_rg n_sb n_st n_pl n_z n_n n_h n_c n_en n_so n_co n_sc l_bk l_of l_en l_ct t_bk t_of (upd t_en i.toNatClampNeg x) t_ct) (pc + 1) lc rest) : go_ G cells slots (wC ad s_bk s_ln s_kd s_vl s_ct k_ce k_bc m_ra m_up m_on m_lo m_hi m_mo m_ma m_li n_rg n_sb n_st n_pl n_z n_n n_h n_c n_en n_so n_co n_sc l_bk l_of l_en l_ct t_bk t_of t_en t_ct) pc lc (.int x :: .int i :: .ref (ad 21) :: rest) := go_iast X 21 rfl hin rfl d k
theorem ar_q_pin (X : cx_ G ad cc own fr lo n) {i : Int32} (hin : vp_in i 10) (d : decode cc pc = .ok (.iaload, 1)) (k : go_ G cells slots (wM ad q_code q_many q_pin q_size q_bytes q_kind q_bank q_address q_full q_linked q_packedBank q_packedAddress q_banks q_memory q_register q_stack q_place q_zero q_less q_half q_carry q_enabled q_soon q_ram q_low q_top q_mode q_state q_sent q_out) (pc + 1) lc (.int (q_pin i.toNatClampNeg) :: rest)) : go_ G cells slots (wM ad q_code q_many q_pin q_size q_bytes q_kind q_bank q_address q_full q_linked q_packedBank q_packedAddress q_banks q_memory q_register q_stack q_place q_zero q_less q_half q_carry q_enabled q_soon q_ram q_low q_top q_mode q_state q_sent q_out) pc lc (.int i :: .ref (ad 31) :: rest) := go_iald X 1 rfl hin d k
theorem as_q_pin (X : cx_ G ad cc own fr lo n) {i x : Int32} (hin : vp_in i 10) (d : decode cc pc = .ok (.iastore, 1)) (k : go_ G cells slots (wM ad q_code q_many (upd q_pin i.toNatClampNeg x) q_size q_bytes q_kind q_bank q_address q_full q_linked q_packedBank q_packedAddress q_banks q_memory q_register q_stack q_place q_zero q_less q_half q_carry q_enabled q_soon q_ram q_low q_top q_mode q_state q_sent q_out) (pc + 1) lc rest) : go_ G cells slots (wM ad q_code q_many q_pin q_size q_bytes q_kind q_bank q_address q_full q_linked q_packedBank q_packedAddress q_banks q_memory q_register q_stack q_place q_zero q_less q_half q_carry q_enabled q_soon q_ram q_low q_top q_mode q_state q_sent q_out) pc lc (.int x :: .int i :: .ref (ad 31) :: rest) := go_iast X 1 rfl hin rfl d k
theorem ar_q_size (X : cx_ G ad cc own fr lo n) {i : Int32} (hin : vp_in i 10) (d : decode cc pc = .ok (.iaload, 1)) (k : go_ G cells slots (wM ad q_code q_many q_pin q_size q_bytes q_kind q_bank q_address q_full q_linked q_packedBank q_packedAddress q_banks q_memory q_register q_stack q_place q_zero q_less q_half q_carry q_enabled q_soon q_ram q_low q_top q_mode q_state q_sent q_out) (pc + 1) lc (.int (q_size i.toNatClampNeg) :: rest)) : go_ G cells slots (wM ad q_code q_many q_pin q_size q_bytes q_kind q_bank q_address q_full q_linked q_packedBank q_packedAddress q_banks q_memory q_register q_stack q_place q_zero q_less q_half q_carry q_enabled q_soon q_ram q_low q_top q_mode q_state q_sent q_out) pc lc (.int i :: .ref (ad 32) :: rest) := go_iald X 2 rfl hin d k
theorem as_q_size (X : cx_ G ad cc own fr lo n) {i x : Int32} (hin : vp_in i 10) (d : decode cc pc = .ok (.iastore, 1)) (k : go_ G cells slots (wM ad q_code q_many q_pin (upd q_size i.toNatClampNeg x) q_bytes q_kind q_bank q_address q_full q_linked q_packedBank q_packedAddress q_banks q_memory q_register q_stack q_place q_zero q_less q_half q_carry q_enabled q_soon q_ram q_low q_top q_mode q_state q_sent q_out) (pc + 1) lc rest) : go_ G cells slots (wM ad q_code q_many q_pin q_size q_bytes q_kind q_bank q_address q_full q_linked q_packedBank q_packedAddress q_banks q_memory q_register q_stack q_place q_zero q_less q_half q_carry q_enabled q_soon q_ram q_low q_top q_mode q_state q_sent q_out) pc lc (.int x :: .int i :: .ref (ad 32) :: rest) := go_iast X 2 rfl hin rfl d k
theorem ar_q_bytes (X : cx_ G ad cc own fr lo n) {i : Int32} (hin : vp_in i 480) (d : decode cc pc = .ok (.iaload, 1)) (k : go_ G cells slots (wM ad q_code q_many q_pin q_size q_bytes q_kind q_bank q_address q_full q_linked q_packedBank q_packedAddress q_banks q_memory q_register q_stack q_place q_zero q_less q_half q_carry q_enabled q_soon q_ram q_low q_top q_mode q_state q_sent q_out) (pc + 1) lc (.int (q_bytes i.toNatClampNeg) :: rest)) : go_ G cells slots (wM ad q_code q_many q_pin q_size q_bytes q_kind q_bank q_address q_full q_linked q_packedBank q_packedAddress q_banks q_memory q_register q_stack q_place q_zero q_less q_half q_carry q_enabled q_soon q_ram q_low q_top q_mode q_state q_sent q_out) pc lc (.int i :: .ref (ad 33) :: rest) := go_iald X 3 rfl hin d k
theorem as_q_bytes (X : cx_ G ad cc own fr lo n) {i x : Int32} (hin : vp_in i 480) (d : decode cc pc = .ok (.iastore, 1)) (k : go_ G cells slots (wM ad q_code q_many q_pin q_size (upd q_bytes i.toNatClampNeg x) q_kind q_bank q_address q_full q_linked q_packedBank q_packedAddress q_banks q_memory q_register q_stack q_place q_zero q_less q_half q_carry q_enabled q_soon q_ram q_low q_top q_mode q_state q_sent q_out) (pc + 1) lc rest) : go_ G cells slots (wM ad q_code q_many q_pin q_size q_bytes q_kind q_bank q_address q_full q_linked q_packedBank q_packedAddress q_banks q_memory q_register q_stack q_place q_zero q_less q_half q_carry q_enabled q_soon q_ram q_low q_top q_mode q_state q_sent q_out) pc lc (.int x :: .int i :: .ref (ad 33) :: rest) := go_iast X 3 rfl hin rfl d k
theorem ar_q_kind (X : cx_ G ad cc own fr lo n) {i : Int32} (hin : vp_in i 480) (d : decode cc pc = .ok (.iaload, 1)) (k : go_ G cells slots (wM ad q_code q_many q_pin q_size q_bytes q_kind q_bank q_address q_full q_linked q_packedBank q_packedAddress q_banks q_memory q_register q_stack q_place q_zero q_less q_half q_carry q_enabled q_soon q_ram q_low q_top q_mode q_state q_sent q_out) (pc + 1) lc (.int (q_kind i.toNatClampNeg) :: rest)) : go_ G cells slots (wM ad q_code q_many q_pin q_size q_bytes q_kind q_bank q_address q_full q_linked q_packedBank q_packedAddress q_banks q_memory q_register q_stack q_place q_zero q_less q_half q_carry q_enabled q_soon q_ram q_low q_top q_mode q_state q_sent q_out) pc lc (.int i :: .ref (ad 34) :: rest) := go_iald X 4 rfl hin d k
theorem as_q_kind (X : cx_ G ad cc own fr lo n) {i x : Int32} (hin : vp_in i 480) (d : decode cc pc = .ok (.iastore, 1)) (k : go_ G cells slots (wM ad q_code q_many q_pin q_size q_bytes (upd q_kind i.toNatClampNeg x) q_bank q_address q_full q_linked q_packedBank q_packedAddress q_banks q_memory q_register q_stack q_place q_zero q_less q_half q_carry q_enabled q_soon q_ram q_low q_top q_mode q_state q_sent q_out) (pc + 1) lc rest) : go_ G cells slots (wM ad q_code q_many q_pin q_size q_bytes q_kind q_bank q_address q_full q_linked q_packedBank q_packedAddress q_banks q_memory q_register q_stack q_place q_zero q_less q_half q_carry q_enabled q_soon q_ram q_low q_top q_mode q_state q_sent q_out) pc lc (.int x :: .int i :: .ref (ad 34) :: rest) := go_iast X 4 rfl hin rfl d k
theorem ar_q_bank (X : cx_ G ad cc own fr lo n) {i : Int32} (hin : vp_in i 10) (d : decode cc pc = .ok (.iaload, 1)) (k : go_ G cells slots (wM ad q_code q_many q_pin q_size q_bytes q_kind q_bank q_address q_full q_linked q_packedBank q_packedAddress q_banks q_memory q_register q_stack q_place q_zero q_less q_half q_carry q_enabled q_soon q_ram q_low q_top q_mode q_state q_sent q_out) (pc + 1) lc (.int (q_bank i.toNatClampNeg) :: rest)) : go_ G cells slots (wM ad q_code q_many q_pin q_size q_bytes q_kind q_bank q_address q_full q_linked q_packedBank q_packedAddress q_banks q_memory q_register q_stack q_place q_zero q_less q_half q_carry q_enabled q_soon q_ram q_low q_top q_mode q_state q_sent q_out) pc lc (.int i :: .ref (ad 35) :: rest) := go_iald X 5 rfl hin d k
theorem as_q_bank (X : cx_ G ad cc own fr lo n) {i x : Int32} (hin : vp_in i 10) (d : decode cc pc = .ok (.iastore, 1)) (k : go_ G cells slots (wM ad q_code q_many q_pin q_size q_bytes q_kind (upd q_bank i.toNatClampNeg x) q_address q_full q_linked q_packedBank q_packedAddress q_banks q_memory q_register q_stack q_place q_zero q_less q_half q_carry q_enabled q_soon q_ram q_low q_top q_mode q_state q_sent q_out) (pc + 1) lc rest) : go_ G cells slots (wM ad q_code q_many q_pin q_size q_bytes q_kind q_bank q_address q_full q_linked q_packedBank q_packedAddress q_banks q_memory q_register q_stack q_place q_zero q_less q_half q_carry q_enabled q_soon q_ram q_low q_top q_mode q_state q_sent q_out) pc lc (.int x :: .int i :: .ref (ad 35) :: rest) := go_iast X 5 rfl hin rfl d k
theorem ar_q_address (X : cx_ G ad cc own fr lo n) {i : Int32} (hin : vp_in i 10) (d : decode cc pc = .ok (.iaload, 1)) (k : go_ G cells slots (wM ad q_code q_many q_pin q_size q_bytes q_kind q_bank q_address q_full q_linked q_packedBank q_packedAddress q_banks q_memory q_register q_stack q_place q_zero q_less q_half q_carry q_enabled q_soon q_ram q_low q_top q_mode q_state q_sent q_out) (pc + 1) lc (.int (q_address i.toNatClampNeg) :: rest)) : go_ G cells slots (wM ad q_code q_many q_pin q_size q_bytes q_kind q_bank q_address q_full q_linked q_packedBank q_packedAddress q_banks q_memory q_register q_stack q_place q_zero q_less q_half q_carry q_enabled q_soon q_ram q_low q_top q_mode q_state q_sent q_out) pc lc (.int i :: .ref (ad 36) :: rest) := go_iald X 6 rfl hin d k
theorem as_q_address (X : cx_ G ad cc own fr lo n) {i x : Int32} (hin : vp_in i 10) (d : decode cc pc = .ok (.iastore, 1)) (k : go_ G cells slots (wM ad q_code q_many q_pin q_size q_bytes q_kind q_bank (upd q_address i.toNatClampNeg x) q_full q_linked q_packedBank q_packedAddress q_banks q_memory q_register q_stack q_place q_zero q_less q_half q_carry q_enabled q_soon q_ram q_low q_top q_mode q_state q_sent q_out) (pc + 1) lc rest) : go_ G cells slots (wM ad q_code q_many q_pin q_size q_bytes q_kind q_bank q_address q_full q_linked q_packedBank q_packedAddress q_banks q_memory q_register q_stack q_place q_zero q_less q_half q_carry q_enabled q_soon q_ram q_low q_top q_mode q_state q_sent q_out) pc lc (.int x :: .int i :: .ref (ad 36) :: rest) := go_iast X 6 rfl hin rfl d k
theorem ar_q_full (X : cx_ G ad cc own fr lo n) {i : Int32} (hin : vp_in i 8) (d : decode cc pc = .ok (.iaload, 1)) (k : go_ G cells slots (wM ad q_code q_many q_pin q_size q_bytes q_kind q_bank q_address q_full q_linked q_packedBank q_packedAddress q_banks q_memory q_register q_stack q_place q_zero q_less q_half q_carry q_enabled q_soon q_ram q_low q_top q_mode q_state q_sent q_out) (pc + 1) lc (.int (q_full i.toNatClampNeg) :: rest)) : go_ G cells slots (wM ad q_code q_many q_pin q_size q_bytes q_kind q_bank q_address q_full q_linked q_packedBank q_packedAddress q_banks q_memory q_register q_stack q_place q_zero q_less q_half q_carry q_enabled q_soon q_ram q_low q_top q_mode q_state q_sent q_out) pc lc (.int i :: .ref (ad 37) :: rest) := go_iald X 7 rfl hin d k
theorem as_q_full (X : cx_ G ad cc own fr lo n) {i x : Int32} (hin : vp_in i 8) (d : decode cc pc = .ok (.iastore, 1)) (k : go_ G cells slots (wM ad q_code q_many q_pin q_size q_bytes q_kind q_bank q_address (upd q_full i.toNatClampNeg x) q_linked q_packedBank q_packedAddress q_banks q_memory q_register q_stack q_place q_zero q_less q_half q_carry q_enabled q_soon q_ram q_low q_top q_mode q_state q_sent q_out) (pc + 1) lc rest) : go_ G cells slots (wM ad q_code q_many q_pin q_size q_bytes q_kind q_bank q_address q_full q_linked q_packedBank q_packedAddress q_banks q_memory q_register q_stack q_place q_zero q_less q_half q_carry q_enabled q_soon q_ram q_low q_top q_mode q_state q_sent q_out) pc lc (.int x :: .int i :: .ref (ad 37) :: rest) := go_iast X 7 rfl hin rfl d k
theorem ar_q_packedBank (X : cx_ G ad cc own fr lo n) {i : Int32} (hin : vp_in i 10) (d : decode cc pc = .ok (.iaload, 1)) (k : go_ G cells slots (wM ad q_code q_many q_pin q_size q_bytes q_kind q_bank q_address q_full q_linked q_packedBank q_packedAddress q_banks q_memory q_register q_stack q_place q_zero q_less q_half q_carry q_enabled q_soon q_ram q_low q_top q_mode q_state q_sent q_out) (pc + 1) lc (.int (q_packedBank i.toNatClampNeg) :: rest)) : go_ G cells slots (wM ad q_code q_many q_pin q_size q_bytes q_kind q_bank q_address q_full q_linked q_packedBank q_packedAddress q_banks q_memory q_register q_stack q_place q_zero q_less q_half q_carry q_enabled q_soon q_ram q_low q_top q_mode q_state q_sent q_out) pc lc (.int i :: .ref (ad 38) :: rest) := go_iald X 8 rfl hin d k
theorem as_q_packedBank (X : cx_ G ad cc own fr lo n) {i x : Int32} (hin : vp_in i 10) (d : decode cc pc = .ok (.iastore, 1)) (k : go_ G cells slots (wM ad q_code q_many q_pin q_size q_bytes q_kind q_bank q_address q_full q_linked (upd q_packedBank i.toNatClampNeg x) q_packedAddress q_banks q_memory q_register q_stack q_place q_zero q_less q_half q_carry q_enabled q_soon q_ram q_low q_top q_mode q_state q_sent q_out) (pc + 1) lc rest) : go_ G cells slots (wM ad q_code q_many q_pin q_size q_bytes q_kind q_bank q_address q_full q_linked q_packedBank q_packedAddress q_banks q_memory q_register q_stack q_place q_zero q_less q_half q_carry q_enabled q_soon q_ram q_low q_top q_mode q_state q_sent q_out) pc lc (.int x :: .int i :: .ref (ad 38) :: rest) := go_iast X 8 rfl hin rfl d k
theorem ar_q_packedAddress (X : cx_ G ad cc own fr lo n) {i : Int32} (hin : vp_in i 10) (d : decode cc pc = .ok (.iaload, 1)) (k : go_ G cells slots (wM ad q_code q_many q_pin q_size q_bytes q_kind q_bank q_address q_full q_linked q_packedBank q_packedAddress q_banks q_memory q_register q_stack q_place q_zero q_less q_half q_carry q_enabled q_soon q_ram q_low q_top q_mode q_state q_sent q_out) (pc + 1) lc (.int (q_packedAddress i.toNatClampNeg) :: rest)) : go_ G cells slots (wM ad q_code q_many q_pin q_size q_bytes q_kind q_bank q_address q_full q_linked q_packedBank q_packedAddress q_banks q_memory q_register q_stack q_place q_zero q_less q_half q_carry q_enabled q_soon q_ram q_low q_top q_mode q_state q_sent q_out) pc lc (.int i :: .ref (ad 39) :: rest) := go_iald X 9 rfl hin d k
theorem as_q_packedAddress (X : cx_ G ad cc own fr lo n) {i x : Int32} (hin : vp_in i 10) (d : decode cc pc = .ok (.iastore, 1)) (k : go_ G cells slots (wM ad q_code q_many q_pin q_size q_bytes q_kind q_bank q_address q_full q_linked q_packedBank (upd q_packedAddress i.toNatClampNeg x) q_banks q_memory q_register q_stack q_place q_zero q_less q_half q_carry q_enabled q_soon q_ram q_low q_top q_mode q_state q_sent q_out) (pc + 1) lc rest) : go_ G cells slots (wM ad q_code q_many q_pin q_size q_bytes q_kind q_bank q_address q_full q_linked q_packedBank q_packedAddress q_banks q_memory q_register q_stack q_place q_zero q_less q_half q_carry q_enabled q_soon q_ram q_low q_top q_mode q_state q_sent q_out) pc lc (.int x :: .int i :: .ref (ad 39) :: rest) := go_iast X 9 rfl hin rfl d k
theorem ar_q_memory (X : cx_ G ad cc own fr lo n) {i : Int32} (hin : vp_in i 705) (d : decode cc pc = .ok (.iaload, 1)) (k : go_ G cells slots (wM ad q_code q_many q_pin q_size q_bytes q_kind q_bank q_address q_full q_linked q_packedBank q_packedAddress q_banks q_memory q_register q_stack q_place q_zero q_less q_half q_carry q_enabled q_soon q_ram q_low q_top q_mode q_state q_sent q_out) (pc + 1) lc (.int (q_memory i.toNatClampNeg) :: rest)) : go_ G cells slots (wM ad q_code q_many q_pin q_size q_bytes q_kind q_bank q_address q_full q_linked q_packedBank q_packedAddress q_banks q_memory q_register q_stack q_place q_zero q_less q_half q_carry q_enabled q_soon q_ram q_low q_top q_mode q_state q_sent q_out) pc lc (.int i :: .ref (ad 40) :: rest) := go_iald X 10 rfl hin d k
theorem as_q_memory (X : cx_ G ad cc own fr lo n) {i x : Int32} (hin : vp_in i 705) (d : decode cc pc = .ok (.iastore, 1)) (k : go_ G cells slots (wM ad q_code q_many q_pin q_size q_bytes q_kind q_bank q_address q_full q_linked q_packedBank q_packedAddress q_banks (upd q_memory i.toNatClampNeg x) q_register q_stack q_place q_zero q_less q_half q_carry q_enabled q_soon q_ram q_low q_top q_mode q_state q_sent q_out) (pc + 1) lc rest) : go_ G cells slots (wM ad q_code q_many q_pin q_size q_bytes q_kind q_bank q_address q_full q_linked q_packedBank q_packedAddress q_banks q_memory q_register q_stack q_place q_zero q_less q_half q_carry q_enabled q_soon q_ram q_low q_top q_mode q_state q_sent q_out) pc lc (.int x :: .int i :: .ref (ad 40) :: rest) := go_iast X 10 rfl hin rfl d k
theorem ar_q_register (X : cx_ G ad cc own fr lo n) {i : Int32} (hin : vp_in i 8) (d : decode cc pc = .ok (.iaload, 1)) (k : go_ G cells slots (wM ad q_code q_many q_pin q_size q_bytes q_kind q_bank q_address q_full q_linked q_packedBank q_packedAddress q_banks q_memory q_register q_stack q_place q_zero q_less q_half q_carry q_enabled q_soon q_ram q_low q_top q_mode q_state q_sent q_out) (pc + 1) lc (.int (q_register i.toNatClampNeg) :: rest)) : go_ G cells slots (wM ad q_code q_many q_pin q_size q_bytes q_kind q_bank q_address q_full q_linked q_packedBank q_packedAddress q_banks q_memory q_register q_stack q_place q_zero q_less q_half q_carry q_enabled q_soon q_ram q_low q_top q_mode q_state q_sent q_out) pc lc (.int i :: .ref (ad 41) :: rest) := go_iald X 11 rfl hin d k
theorem as_q_register (X : cx_ G ad cc own fr lo n) {i x : Int32} (hin : vp_in i 8) (d : decode cc pc = .ok (.iastore, 1)) (k : go_ G cells slots (wM ad q_code q_many q_pin q_size q_bytes q_kind q_bank q_address q_full q_linked q_packedBank q_packedAddress q_banks q_memory (upd q_register i.toNatClampNeg x) q_stack q_place q_zero q_less q_half q_carry q_enabled q_soon q_ram q_low q_top q_mode q_state q_sent q_out) (pc + 1) lc rest) : go_ G cells slots (wM ad q_code q_many q_pin q_size q_bytes q_kind q_bank q_address q_full q_linked q_packedBank q_packedAddress q_banks q_memory q_register q_stack q_place q_zero q_less q_half q_carry q_enabled q_soon q_ram q_low q_top q_mode q_state q_sent q_out) pc lc (.int x :: .int i :: .ref (ad 41) :: rest) := go_iast X 11 rfl hin rfl d k
theorem ar_q_out (X : cx_ G ad cc own fr lo n) {i : Int32} (hin : vp_in i 100) (d : decode cc pc = .ok (.iaload, 1)) (k : go_ G cells slots (wM ad q_code q_many q_pin q_size q_bytes q_kind q_bank q_address q_full q_linked q_packedBank q_packedAddress q_banks q_memory q_register q_stack q_place q_zero q_less q_half q_carry q_enabled q_soon q_ram q_low q_top q_mode q_state q_sent q_out) (pc + 1) lc (.int (q_out i.toNatClampNeg) :: rest)) : go_ G cells slots (wM ad q_code q_many q_pin q_size q_bytes q_kind q_bank q_address q_full q_linked q_packedBank q_packedAddress q_banks q_memory q_register q_stack q_place q_zero q_less q_half q_carry q_enabled q_soon q_ram q_low q_top q_mode q_state q_sent q_out) pc lc (.int i :: .ref (ad 42) :: rest) := go_iald X 12 rfl hin d k
theorem as_q_out (X : cx_ G ad cc own fr lo n) {i x : Int32} (hin : vp_in i 100) (d : decode cc pc = .ok (.iastore, 1)) (k : go_ G cells slots (wM ad q_code q_many q_pin q_size q_bytes q_kind q_bank q_address q_full q_linked q_packedBank q_packedAddress q_banks q_memory q_register q_stack q_place q_zero q_less q_half q_carry q_enabled q_soon q_ram q_low q_top q_mode q_state q_sent (upd q_out i.toNatClampNeg x)) (pc + 1) lc rest) : go_ G cells slots (wM ad q_code q_many q_pin q_size q_bytes q_kind q_bank q_address q_full q_linked q_packedBank q_packedAddress q_banks q_memory q_register q_stack q_place q_zero q_less q_half q_carry q_enabled q_soon q_ram q_low q_top q_mode q_state q_sent q_out) pc lc (.int x :: .int i :: .ref (ad 42) :: rest) := go_iast X 12 rfl hin rfl d k
end WW
end
section
/-! words, constants, places -/
theorem kc_b10 : (Int8.ofInt 10).toInt32 = (10 : Int32) := by decide
theorem kc_b100 : (Int8.ofInt 100).toInt32 = (100 : Int32) := by decide
theorem kc_b102 : (Int8.ofInt 102).toInt32 = (102 : Int32) := by decide
theorem kc_b11 : (Int8.ofInt 11).toInt32 = (11 : Int32) := by decide
theorem kc_b12 : (Int8.ofInt 12).toInt32 = (12 : Int32) := by decide
theorem kc_b127 : (Int8.ofInt 127).toInt32 = (127 : Int32) := by decide
theorem kc_b13 : (Int8.ofInt 13).toInt32 = (13 : Int32) := by decide
theorem kc_b14 : (Int8.ofInt 14).toInt32 = (14 : Int32) := by decide
theorem kc_b15 : (Int8.ofInt 15).toInt32 = (15 : Int32) := by decide
theorem kc_b16 : (Int8.ofInt 16).toInt32 = (16 : Int32) := by decide
theorem kc_b24 : (Int8.ofInt 24).toInt32 = (24 : Int32) := by decide
theorem kc_b28 : (Int8.ofInt 28).toInt32 = (28 : Int32) := by decide
theorem kc_b32 : (Int8.ofInt 32).toInt32 = (32 : Int32) := by decide
theorem kc_b48 : (Int8.ofInt 48).toInt32 = (48 : Int32) := by decide
theorem kc_b6 : (Int8.ofInt 6).toInt32 = (6 : Int32) := by decide
theorem kc_b64 : (Int8.ofInt 64).toInt32 = (64 : Int32) := by decide
theorem kc_b7 : (Int8.ofInt 7).toInt32 = (7 : Int32) := by decide
theorem kc_b8 : (Int8.ofInt 8).toInt32 = (8 : Int32) := by decide
theorem kc_b9 : (Int8.ofInt 9).toInt32 = (9 : Int32) := by decide
theorem kc_b96 : (Int8.ofInt 96).toInt32 = (96 : Int32) := by decide
theorem kc_b99 : (Int8.ofInt 99).toInt32 = (99 : Int32) := by decide
theorem kc_i0 : Int32.ofInt 0 = (0 : Int32) := by decide
theorem kc_i1 : Int32.ofInt 1 = (1 : Int32) := by decide
theorem kc_i2 : Int32.ofInt 2 = (2 : Int32) := by decide
theorem kc_i3 : Int32.ofInt 3 = (3 : Int32) := by decide
theorem kc_i4 : Int32.ofInt 4 = (4 : Int32) := by decide
theorem kc_i5 : Int32.ofInt 5 = (5 : Int32) := by decide
theorem kc_im1 : Int32.ofInt (-1) = (-1 : Int32) := by decide
theorem kc_s128 : (Int16.ofInt 128).toInt32 = (128 : Int32) := by decide
theorem kc_s153 : (Int16.ofInt 153).toInt32 = (153 : Int32) := by decide
theorem kc_s191 : (Int16.ofInt 191).toInt32 = (191 : Int32) := by decide
theorem kc_s192 : (Int16.ofInt 192).toInt32 = (192 : Int32) := by decide
theorem kc_s2000 : (Int16.ofInt 2000).toInt32 = (2000 : Int32) := by decide
theorem kc_s204 : (Int16.ofInt 204).toInt32 = (204 : Int32) := by decide
theorem kc_s206 : (Int16.ofInt 206).toInt32 = (206 : Int32) := by decide
theorem kc_s224 : (Int16.ofInt 224).toInt32 = (224 : Int32) := by decide
theorem kc_s232 : (Int16.ofInt 232).toInt32 = (232 : Int32) := by decide
theorem kc_s237 : (Int16.ofInt 237).toInt32 = (237 : Int32) := by decide
theorem kc_s240 : (Int16.ofInt 240).toInt32 = (240 : Int32) := by decide
theorem kc_s253 : (Int16.ofInt 253).toInt32 = (253 : Int32) := by decide
theorem kc_s254 : (Int16.ofInt 254).toInt32 = (254 : Int32) := by decide
theorem kc_s255 : (Int16.ofInt 255).toInt32 = (255 : Int32) := by decide
theorem kc_s256 : (Int16.ofInt 256).toInt32 = (256 : Int32) := by decide
theorem kc_s512 : (Int16.ofInt 512).toInt32 = (512 : Int32) := by decide
theorem kc_s640 : (Int16.ofInt 640).toInt32 = (640 : Int32) := by decide
theorem kc_s702 : (Int16.ofInt 702).toInt32 = (702 : Int32) := by decide
theorem kc_s703 : (Int16.ofInt 703).toInt32 = (703 : Int32) := by decide
theorem kc_s704 : (Int16.ofInt 704).toInt32 = (704 : Int32) := by decide
theorem kc_s705 : (Int16.ofInt 705).toInt32 = (705 : Int32) := by decide
theorem ki_m1 (x : Int32) : x + Int32.ofInt (-1) = x + (-1 : Int32) := by rw [show Int32.ofInt (-1) = (-1 : Int32) from by decide]
theorem ki_1 (x : Int32) : x + Int32.ofInt (1) = x + (1 : Int32) := by rw [show Int32.ofInt (1) = (1 : Int32) from by decide]
theorem ki_96 (x : Int32) : x + Int32.ofInt (96) = x + (96 : Int32) := by rw [show Int32.ofInt (96) = (96 : Int32) from by decide]
theorem vi_0_10 : vp_in (0 : Int32) 10 := by unfold vp_in; decide
theorem vi_1_512 : vp_in (1 : Int32) 512 := by unfold vp_in; decide
theorem vi_5_8 : vp_in (5 : Int32) 8 := by unfold vp_in; decide
theorem vi_6_512 : vp_in (6 : Int32) 512 := by unfold vp_in; decide
theorem vi_7_8 : vp_in (7 : Int32) 8 := by unfold vp_in; decide
theorem vi_13_512 : vp_in (13 : Int32) 512 := by unfold vp_in; decide
theorem vi_13_705 : vp_in (13 : Int32) 705 := by unfold vp_in; decide
theorem vi_14_512 : vp_in (14 : Int32) 512 := by unfold vp_in; decide
theorem vi_14_705 : vp_in (14 : Int32) 705 := by unfold vp_in; decide
theorem vi_15_512 : vp_in (15 : Int32) 512 := by unfold vp_in; decide
theorem vi_15_705 : vp_in (15 : Int32) 705 := by unfold vp_in; decide
theorem vi_702_705 : vp_in (702 : Int32) 705 := by unfold vp_in; decide
theorem vi_703_705 : vp_in (703 : Int32) 705 := by unfold vp_in; decide
theorem al_8 : Int32.ofNat 8 = (8 : Int32) := by decide
theorem al_62 : Int32.ofNat 62 = (62 : Int32) := by decide
theorem al_128 : Int32.ofNat 128 = (128 : Int32) := by decide
theorem mw_D_103 : Cond.methodLink RD 103 yP_addressOf ∈ wS := wT2 198 rfl rfl
theorem mw_D_106 : Cond.methodLink RD 106 yK_size ∈ wS := wT2 206 rfl rfl
theorem mw_D_112 : Cond.methodLink RD 112 yK_isMade ∈ wS := wT2 221 rfl rfl
theorem mw_D_115 : Cond.methodLink RD 115 yK_verdict ∈ wS := wT2 225 rfl rfl
theorem mw_D_121 : Cond.methodLink RD 121 yN_canGo ∈ wS := wT3 3 rfl rfl
theorem mw_D_124 : Cond.methodLink RD 124 yN_step ∈ wS := wT3 7 rfl rfl
theorem mw_D_130 : Cond.methodLink RD 130 yN_shown ∈ wS := wT3 142 rfl rfl
theorem mw_D_133 : Cond.methodLink RD 133 yM_read ∈ wS := wT3 157 rfl rfl
theorem mw_D_61 : Cond.methodLink RD 61 yS_open ∈ wS := wT2 71 rfl rfl
theorem mw_D_65 : Cond.methodLink RD 65 yS_canTake ∈ wS := wT2 82 rfl rfl
theorem mw_D_69 : Cond.methodLink RD 69 yS_append ∈ wS := wT2 86 rfl rfl
theorem mw_D_91 : Cond.methodLink RD 91 yN_begin ∈ wS := wT1 215 rfl rfl
theorem mw_K_19 : Cond.methodLink RK 19 yK_size ∈ wS := wT2 156 rfl rfl
theorem mw_K_28 : Cond.methodLink RK 28 yK_lay ∈ wS := wT2 160 rfl rfl
theorem mw_K_32 : Cond.methodLink RK 32 yP_addressOf ∈ wS := wT2 164 rfl rfl
theorem mw_K_38 : Cond.methodLink RK 38 yK_writeHead ∈ wS := wT2 168 rfl rfl
theorem mw_K_42 : Cond.fieldLink RK 42 "CartridgeDesk$Cartridge" "HEAD" "[I" ∈ wS := wT2 172 rfl rfl
theorem mw_K_45 : Cond.methodLink RK 45 yK_sizeCode ∈ wS := wT2 174 rfl rfl
theorem mw_K_48 : Cond.methodLink RK 48 yK_headCheck ∈ wS := wT2 178 rfl rfl
theorem mw_K_51 : Cond.methodLink RK 51 yK_imageCheck ∈ wS := wT2 182 rfl rfl
theorem mw_K_69 : Cond.constant RK 69 65535 ∈ wS := wT2 186 rfl rfl
theorem mw_M_42 : Cond.methodLink RM 42 yK_at ∈ wS := wT3 47 rfl rfl
theorem mw_M_48 : Cond.methodLink RM 48 yM_ramPlace ∈ wS := wT3 35 rfl rfl
theorem mw_M_52 : Cond.methodLink RM 52 yM_turnSwitch ∈ wS := wT3 31 rfl rfl
theorem mw_N_100 : Cond.methodLink RN 100 yN_obeySingle ∈ wS := wT3 55 rfl rfl
theorem mw_N_103 : Cond.methodLink RN 103 yN_obeyOnOne ∈ wS := wT3 75 rfl rfl
theorem mw_N_107 : Cond.methodLink RN 107 yN_set ∈ wS := wT3 87 rfl rfl
theorem mw_N_110 : Cond.methodLink RN 110 yN_calculate ∈ wS := wT3 99 rfl rfl
theorem mw_N_113 : Cond.methodLink RN 113 yN_obeyJump ∈ wS := wT3 115 rfl rfl
theorem mw_N_116 : Cond.methodLink RN 116 yN_obeyOnBits ∈ wS := wT3 123 rfl rfl
theorem mw_N_119 : Cond.methodLink RN 119 yN_endAs ∈ wS := wT3 59 rfl rfl
theorem mw_N_122 : Cond.methodLink RN 122 yN_pull ∈ wS := wT3 63 rfl rfl
theorem mw_N_125 : Cond.methodLink RN 125 yN_adjust ∈ wS := wT3 67 rfl rfl
theorem mw_N_131 : Cond.methodLink RN 131 yN_send ∈ wS := wT3 71 rfl rfl
theorem mw_N_134 : Cond.methodLink RN 134 yN_oneMore ∈ wS := wT3 83 rfl rfl
theorem mw_N_137 : Cond.methodLink RN 137 yN_oneLess ∈ wS := wT3 91 rfl rfl
theorem mw_N_140 : Cond.methodLink RN 140 yN_exchanged ∈ wS := wT3 95 rfl rfl
theorem mw_N_143 : Cond.methodLink RN 143 yN_holds ∈ wS := wT3 119 rfl rfl
theorem mw_N_147 : Cond.methodLink RN 147 yN_sum ∈ wS := wT3 103 rfl rfl
theorem mw_N_150 : Cond.methodLink RN 150 yN_difference ∈ wS := wT3 111 rfl rfl
theorem mw_N_153 : Cond.methodLink RN 153 yN_shifted ∈ wS := wT3 127 rfl rfl
theorem mw_N_156 : Cond.methodLink RN 156 yN_comesIn ∈ wS := wT3 131 rfl rfl
theorem mw_N_160 : Cond.methodLink RN 160 yM_read ∈ wS := wT3 43 rfl rfl
theorem mw_N_163 : Cond.methodLink RN 163 yM_write ∈ wS := wT3 27 rfl rfl
theorem mw_N_32 : Cond.methodLink RN 32 yN_setFlags ∈ wS := wT1 114 rfl rfl
theorem mw_N_49 : Cond.methodLink RN 49 yM_begin ∈ wS := wT1 118 rfl rfl
theorem mw_N_52 : Cond.methodLink RN 52 Lib.Math.min.name ∈ wS := wT3 169 rfl rfl
theorem mw_N_67 : Cond.methodLink RN 67 yN_carryBit ∈ wS := wT3 107 rfl rfl
theorem mw_N_71 : Cond.methodLink RN 71 yM_switches ∈ wS := wT3 146 rfl rfl
theorem mw_N_74 : Cond.methodLink RN 74 yN_get ∈ wS := wT3 79 rfl rfl
theorem mw_N_78 : Cond.methodLink RN 78 yM_askingLine ∈ wS := wT3 11 rfl rfl
theorem mw_N_81 : Cond.methodLink RN 81 yN_wakeFor ∈ wS := wT3 15 rfl rfl
theorem mw_N_85 : Cond.methodLink RN 85 yN_interruptFor ∈ wS := wT3 19 rfl rfl
theorem mw_N_88 : Cond.methodLink RN 88 yN_next ∈ wS := wT3 39 rfl rfl
theorem mw_N_91 : Cond.methodLink RN 91 yN_obey ∈ wS := wT3 51 rfl rfl
theorem mw_N_97 : Cond.methodLink RN 97 yN_push ∈ wS := wT3 23 rfl rfl
theorem mw_P_28 : Cond.methodLink RP 28 yP_packPinned ∈ wS := wT2 128 rfl rfl
theorem mw_P_32 : Cond.methodLink RP 32 yP_packFloating ∈ wS := wT2 140 rfl rfl
theorem mw_P_39 : Cond.methodLink RP 39 yP_fits ∈ wS := wT2 132 rfl rfl
theorem mw_P_43 : Cond.methodLink RP 43 yP_put ∈ wS := wT2 136 rfl rfl
theorem mw_P_47 : Cond.methodLink RP 47 yP_packLowest ∈ wS := wT2 144 rfl rfl
theorem mw_Q_103 : Cond.methodLink RQ 103 yQ_room ∈ wS := wT4 48 rfl rfl
theorem mw_Q_107 : Cond.methodLink RQ 107 yQ_append ∈ wS := wT4 52 rfl rfl
theorem mw_Q_111 : Cond.methodLink RQ 111 yQ_put ∈ wS := wT4 76 rfl rfl
theorem mw_Q_117 : Cond.constant RQ 117 65535 ∈ wS := wT4 100 rfl rfl
theorem mw_Q_118 : Cond.methodLink RQ 118 yQ_mark ∈ wS := wT4 88 rfl rfl
theorem mw_Q_122 : Cond.methodLink RQ 122 yQ_headByte ∈ wS := wT4 84 rfl rfl
theorem mw_Q_125 : Cond.methodLink RQ 125 yQ_headCheck ∈ wS := wT4 92 rfl rfl
theorem mw_Q_129 : Cond.methodLink RQ 129 yQ_imageCheck ∈ wS := wT4 96 rfl rfl
theorem mw_Q_132 : Cond.methodLink RQ 132 yQ_allKnown ∈ wS := wT4 68 rfl rfl
theorem mw_Q_136 : Cond.methodLink RQ 136 yQ_pack ∈ wS := wT4 72 rfl rfl
theorem mw_Q_139 : Cond.methodLink RQ 139 yQ_build ∈ wS := wT4 80 rfl rfl
theorem mw_Q_146 : Cond.methodLink RQ 146 yQ_refuse ∈ wS := wT4 105 rfl rfl
theorem mw_Q_149 : Cond.methodLink RQ 149 yQ_where ∈ wS := wT4 149 rfl rfl
theorem mw_Q_152 : Cond.methodLink RQ 152 yQ_read ∈ wS := wT4 161 rfl rfl
theorem mw_Q_155 : Cond.methodLink RQ 155 yQ_write ∈ wS := wT4 145 rfl rfl
theorem mw_Q_158 : Cond.methodLink RQ 158 yQ_add ∈ wS := wT4 193 rfl rfl
theorem mw_Q_162 : Cond.methodLink RQ 162 yQ_take ∈ wS := wT4 197 rfl rfl
theorem mw_Q_165 : Cond.methodLink RQ 165 yQ_plain ∈ wS := wT4 205 rfl rfl
theorem mw_Q_169 : Cond.methodLink RQ 169 yQ_get ∈ wS := wT4 185 rfl rfl
theorem mw_Q_172 : Cond.methodLink RQ 172 yQ_turned ∈ wS := wT4 225 rfl rfl
theorem mw_Q_176 : Cond.methodLink RQ 176 yQ_set ∈ wS := wT4 201 rfl rfl
theorem mw_Q_179 : Cond.methodLink RQ 179 yQ_stand ∈ wS := wT4 169 rfl rfl
theorem mw_Q_182 : Cond.methodLink RQ 182 yQ_adjust ∈ wS := wT4 173 rfl rfl
theorem mw_Q_185 : Cond.methodLink RQ 185 yQ_pop ∈ wS := wT4 177 rfl rfl
theorem mw_Q_188 : Cond.methodLink RQ 188 yQ_count ∈ wS := wT4 189 rfl rfl
theorem mw_Q_191 : Cond.methodLink RQ 191 yQ_push ∈ wS := wT4 141 rfl rfl
theorem mw_Q_194 : Cond.methodLink RQ 194 yQ_next ∈ wS := wT4 157 rfl rfl
theorem mw_Q_197 : Cond.methodLink RQ 197 yQ_holds ∈ wS := wT4 217 rfl rfl
theorem mw_Q_200 : Cond.methodLink RQ 200 yQ_few ∈ wS := wT4 165 rfl rfl
theorem mw_Q_203 : Cond.methodLink RQ 203 yQ_single ∈ wS := wT4 181 rfl rfl
theorem mw_Q_206 : Cond.methodLink RQ 206 yQ_reckon ∈ wS := wT4 209 rfl rfl
theorem mw_Q_209 : Cond.methodLink RQ 209 yQ_lead ∈ wS := wT4 213 rfl rfl
theorem mw_Q_212 : Cond.methodLink RQ 212 yQ_bits ∈ wS := wT4 221 rfl rfl
theorem mw_Q_215 : Cond.methodLink RQ 215 yQ_interrupt ∈ wS := wT4 137 rfl rfl
theorem mw_Q_218 : Cond.methodLink RQ 218 yQ_instruction ∈ wS := wT4 153 rfl rfl
theorem mw_Q_221 : Cond.methodLink RQ 221 yQ_step ∈ wS := wT4 133 rfl rfl
theorem mw_Q_46 : Cond.methodLink RQ 46 yQ_begin ∈ wS := wT3 178 rfl rfl
theorem mw_Q_96 : Cond.methodLink RQ 96 yQ_outside ∈ wS := wT4 41 rfl rfl
theorem me_D_clear : me_ yD_clear bD_clear 1 none RD 0 := ⟨wT1 208 rfl rfl, wT1 209 rfl rfl, wT1 1 rfl rfl, wT1 210 rfl rfl, ⟨rfl, by decide, by decide, by decide +kernel⟩⟩
theorem me_D_raise : me_ yD_raise bD_raise 2 none RD 1 := ⟨wT2 233 rfl rfl, wT2 234 rfl rfl, wT1 1 rfl rfl, wT2 235 rfl rfl, ⟨rfl, by decide, by decide, by decide +kernel⟩⟩
theorem me_D_sent : me_ yD_sent bD_sent 1 (some .int) RD 0 := ⟨wT1 221 rfl rfl, wT1 222 rfl rfl, wT1 1 rfl rfl, wT1 223 rfl rfl, ⟨rfl, by decide, by decide, by decide +kernel⟩⟩
theorem me_D_state : me_ yD_state bD_state 1 (some .int) RD 0 := ⟨wT1 217 rfl rfl, wT1 218 rfl rfl, wT1 1 rfl rfl, wT1 219 rfl rfl, ⟨rfl, by decide, by decide, by decide +kernel⟩⟩
theorem me_K_at : me_ yK_at bK_at 3 (some .int) RK 2 := ⟨wT3 48 rfl rfl, wT3 49 rfl rfl, wT1 3 rfl rfl, wT3 50 rfl rfl, ⟨rfl, by decide, by decide, by decide +kernel⟩⟩
theorem me_K_headCheck : me_ yK_headCheck bK_headCheck 3 (some .int) RK 0 := ⟨wT2 180 rfl rfl, wP1 (n := 2) 11 rfl, wT1 3 rfl rfl, wT2 181 rfl rfl, ⟨rfl, by decide, by decide, by decide +kernel⟩⟩
theorem me_K_isMade : me_ yK_isMade bK_isMade 1 (some .boolean) RK 0 := ⟨wT2 222 rfl rfl, wT2 223 rfl rfl, wT1 3 rfl rfl, wT2 224 rfl rfl, ⟨rfl, by decide, by decide, by decide +kernel⟩⟩
theorem me_K_size : me_ yK_size bK_size 1 (some .int) RK 0 := ⟨wT2 157 rfl rfl, wT2 158 rfl rfl, wT1 3 rfl rfl, wT2 159 rfl rfl, ⟨rfl, by decide, by decide, by decide +kernel⟩⟩
theorem me_K_sizeCode : me_ yK_sizeCode bK_sizeCode 1 (some .int) RK 0 := ⟨wT2 176 rfl rfl, wP1 (n := 2) 10 rfl, wT1 3 rfl rfl, wT2 177 rfl rfl, ⟨rfl, by decide, by decide, by decide +kernel⟩⟩
theorem me_N_canGo : me_ yN_canGo bN_canGo 1 (some .boolean) RN 0 := ⟨wT3 4 rfl rfl, wT3 5 rfl rfl, wT1 5 rfl rfl, wT3 6 rfl rfl, ⟨rfl, by decide, by decide, by decide +kernel⟩⟩
theorem me_N_carryBit : me_ yN_carryBit bN_carryBit 1 (some .int) RN 0 := ⟨wT3 109 rfl rfl, wP3 (n := 13) 1 rfl, wT1 5 rfl rfl, wT3 110 rfl rfl, ⟨rfl, by decide, by decide, by decide +kernel⟩⟩
theorem me_N_endAs : me_ yN_endAs bN_endAs 2 none RN 1 := ⟨wT3 61 rfl rfl, wP2 (n := 13) 5 rfl, wT1 5 rfl rfl, wT3 62 rfl rfl, ⟨rfl, by decide, by decide, by decide +kernel⟩⟩
theorem me_N_holds : me_ yN_holds bN_holds 2 (some .boolean) RN 1 := ⟨wT3 121 rfl rfl, wP3 (n := 13) 4 rfl, wT1 5 rfl rfl, wT3 122 rfl rfl, ⟨rfl, by decide, by decide, by decide +kernel⟩⟩
theorem me_N_keptCount : me_ yN_keptCount bN_keptCount 1 (some .int) RN 0 := ⟨wT3 166 rfl rfl, wT3 167 rfl rfl, wT1 5 rfl rfl, wT3 168 rfl rfl, ⟨rfl, by decide, by decide, by decide +kernel⟩⟩
theorem me_N_send : me_ yN_send bN_send 2 none RN 1 := ⟨wT3 73 rfl rfl, wP2 (n := 13) 8 rfl, wT1 5 rfl rfl, wT3 74 rfl rfl, ⟨rfl, by decide, by decide, by decide +kernel⟩⟩
theorem me_N_setFlags : me_ yN_setFlags bN_setFlags 5 none RN 4 := ⟨wT1 116 rfl rfl, wP1 (n := 13) 0 rfl, wT1 5 rfl rfl, wT1 117 rfl rfl, ⟨rfl, by decide, by decide, by decide +kernel⟩⟩
theorem me_N_wakeFor : me_ yN_wakeFor bN_wakeFor 2 none RN 1 := ⟨wT3 17 rfl rfl, wP1 (n := 13) 13 rfl, wT1 5 rfl rfl, wT3 18 rfl rfl, ⟨rfl, by decide, by decide, by decide +kernel⟩⟩
theorem me_M_askingLine : me_ yM_askingLine bM_askingLine 2 (some .int) RM 0 := ⟨wT3 12 rfl rfl, wT3 13 rfl rfl, wT1 4 rfl rfl, wT3 14 rfl rfl, ⟨rfl, by decide, by decide, by decide +kernel⟩⟩
theorem me_M_begin : me_ yM_begin bM_begin 2 none RM 0 := ⟨wT1 119 rfl rfl, wT1 120 rfl rfl, wT1 4 rfl rfl, wT1 121 rfl rfl, ⟨rfl, by decide, by decide, by decide +kernel⟩⟩
theorem me_M_ramPlace : me_ yM_ramPlace bM_ramPlace 2 (some .int) RM 1 := ⟨wT3 37 rfl rfl, wP2 (n := 9) 1 rfl, wT1 4 rfl rfl, wT3 38 rfl rfl, ⟨rfl, by decide, by decide, by decide +kernel⟩⟩
theorem me_M_switches : me_ yM_switches bM_switches 1 (some .int) RM 0 := ⟨wT3 147 rfl rfl, wT3 148 rfl rfl, wT1 4 rfl rfl, wT3 149 rfl rfl, ⟨rfl, by decide, by decide, by decide +kernel⟩⟩
theorem me_M_turnSwitch : me_ yM_turnSwitch bM_turnSwitch 3 none RM 2 := ⟨wT3 33 rfl rfl, wP2 (n := 9) 0 rfl, wT1 4 rfl rfl, wT3 34 rfl rfl, ⟨rfl, by decide, by decide, by decide +kernel⟩⟩
theorem me_P_addressOf : me_ yP_addressOf bP_addressOf 2 (some .int) RP 1 := ⟨wT2 165 rfl rfl, wT2 166 rfl rfl, wT1 6 rfl rfl, wT2 167 rfl rfl, ⟨rfl, by decide, by decide, by decide +kernel⟩⟩
theorem me_P_fits : me_ yP_fits bP_fits 3 (some .boolean) RP 2 := ⟨wT2 134 rfl rfl, wP1 (n := 4) 3 rfl, wT1 6 rfl rfl, wT2 135 rfl rfl, ⟨rfl, by decide, by decide, by decide +kernel⟩⟩
theorem me_P_put : me_ yP_put bP_put 4 none RP 3 := ⟨wT2 138 rfl rfl, wP1 (n := 4) 4 rfl, wT1 6 rfl rfl, wT2 139 rfl rfl, ⟨rfl, by decide, by decide, by decide +kernel⟩⟩
theorem me_S_append : me_ yS_append bS_append 5 none RS 2 := ⟨wT2 87 rfl rfl, wT2 88 rfl rfl, wT1 2 rfl rfl, wT2 89 rfl rfl, ⟨rfl, by decide, by decide, by decide +kernel⟩⟩
theorem me_S_canTake : me_ yS_canTake bS_canTake 2 (some .boolean) RS 1 := ⟨wT2 83 rfl rfl, wT2 84 rfl rfl, wT1 2 rfl rfl, wT2 85 rfl rfl, ⟨rfl, by decide, by decide, by decide +kernel⟩⟩
theorem me_S_lacksOne : me_ yS_lacksOne bS_lacksOne 4 (some .boolean) RS 0 := ⟨wT2 106 rfl rfl, wT2 107 rfl rfl, wT1 2 rfl rfl, wT2 108 rfl rfl, ⟨rfl, by decide, by decide, by decide +kernel⟩⟩
theorem me_S_open : me_ yS_open bS_open 3 (some .int) RS 1 := ⟨wT2 72 rfl rfl, wT2 73 rfl rfl, wT1 2 rfl rfl, wT2 74 rfl rfl, ⟨rfl, by decide, by decide, by decide +kernel⟩⟩
theorem me_S_total : me_ yS_total bS_total 3 (some .int) RS 0 := ⟨wT2 188 rfl rfl, wT2 189 rfl rfl, wT1 2 rfl rfl, wT2 190 rfl rfl, ⟨rfl, by decide, by decide, by decide +kernel⟩⟩
theorem me_Q_add : me_ yQ_add bQ_add 7 (some .int) RQ 3 := ⟨wT4 195 rfl rfl, wP5 (n := 30) 3 rfl, wT1 7 rfl rfl, wT4 196 rfl rfl, ⟨rfl, by decide, by decide, by decide +kernel⟩⟩
theorem me_Q_adjust : me_ yQ_adjust bQ_adjust 4 none RQ 0 := ⟨wT4 175 rfl rfl, wP4 (n := 30) 14 rfl, wT1 7 rfl rfl, wT4 176 rfl rfl, ⟨rfl, by decide, by decide, by decide +kernel⟩⟩
theorem me_Q_allKnown : me_ yQ_allKnown bQ_allKnown 4 (some .boolean) RQ 0 := ⟨wT4 70 rfl rfl, wP3 (n := 30) 11 rfl, wT1 7 rfl rfl, wT4 71 rfl rfl, ⟨rfl, by decide, by decide, by decide +kernel⟩⟩
theorem me_Q_append : me_ yQ_append bQ_append 4 none RQ 2 := ⟨wT4 54 rfl rfl, wP3 (n := 30) 10 rfl, wT1 7 rfl rfl, wT4 55 rfl rfl, ⟨rfl, by decide, by decide, by decide +kernel⟩⟩
theorem me_Q_begin : me_ yQ_begin bQ_begin 2 none RQ 0 := ⟨wT3 180 rfl rfl, wP3 (n := 30) 8 rfl, wT1 7 rfl rfl, wT3 181 rfl rfl, ⟨rfl, by decide, by decide, by decide +kernel⟩⟩
theorem me_Q_clear : me_ yQ_clear bQ_clear 1 none RQ 0 := ⟨wT4 61 rfl rfl, wT4 62 rfl rfl, wT1 7 rfl rfl, wT4 63 rfl rfl, ⟨rfl, by decide, by decide, by decide +kernel⟩⟩
theorem me_Q_headCheck : me_ yQ_headCheck bQ_headCheck 3 (some .int) RQ 0 := ⟨wT4 94 rfl rfl, wP4 (n := 30) 1 rfl, wT1 7 rfl rfl, wT4 95 rfl rfl, ⟨rfl, by decide, by decide, by decide +kernel⟩⟩
theorem me_Q_holds : me_ yQ_holds bQ_holds 2 (some .boolean) RQ 1 := ⟨wT4 219 rfl rfl, wP5 (n := 30) 9 rfl, wT1 7 rfl rfl, wT4 220 rfl rfl, ⟨rfl, by decide, by decide, by decide +kernel⟩⟩
theorem me_Q_imageCheck : me_ yQ_imageCheck bQ_imageCheck 3 (some .int) RQ 0 := ⟨wT4 98 rfl rfl, wP4 (n := 30) 2 rfl, wT1 7 rfl rfl, wT4 99 rfl rfl, ⟨rfl, by decide, by decide, by decide +kernel⟩⟩
theorem me_Q_mark : me_ yQ_mark bQ_mark 2 (some .int) RQ 1 := ⟨wT4 90 rfl rfl, wP4 (n := 30) 0 rfl, wT1 7 rfl rfl, wT4 91 rfl rfl, ⟨rfl, by decide, by decide, by decide +kernel⟩⟩
theorem me_Q_outside : ms_ yQ_outside bQ_outside 3 (some .boolean) RQ 3 := ⟨wT4 42 rfl rfl, wT1 7 rfl rfl, wT4 43 rfl rfl, ⟨rfl, by decide, by decide, by decide +kernel⟩⟩
theorem me_Q_plain : me_ yQ_plain bQ_plain 3 (some .int) RQ 2 := ⟨wT4 207 rfl rfl, wP5 (n := 30) 6 rfl, wT1 7 rfl rfl, wT4 208 rfl rfl, ⟨rfl, by decide, by decide, by decide +kernel⟩⟩
theorem me_Q_put : me_ yQ_put bQ_put 4 (some .boolean) RQ 3 := ⟨wT4 78 rfl rfl, wP3 (n := 30) 13 rfl, wT1 7 rfl rfl, wT4 79 rfl rfl, ⟨rfl, by decide, by decide, by decide +kernel⟩⟩
theorem me_Q_refuse : me_ yQ_refuse bQ_refuse 2 (some .int) RQ 1 := ⟨wT4 107 rfl rfl, wP4 (n := 30) 3 rfl, wT1 7 rfl rfl, wT4 108 rfl rfl, ⟨rfl, by decide, by decide, by decide +kernel⟩⟩
theorem me_Q_room : me_ yQ_room bQ_room 2 (some .boolean) RQ 1 := ⟨wT4 50 rfl rfl, wP3 (n := 30) 9 rfl, wT1 7 rfl rfl, wT4 51 rfl rfl, ⟨rfl, by decide, by decide, by decide +kernel⟩⟩
theorem me_Q_sent : me_ yQ_sent bQ_sent 1 (some .int) RQ 0 := ⟨wT5 2 rfl rfl, wT5 3 rfl rfl, wT1 7 rfl rfl, wT5 4 rfl rfl, ⟨rfl, by decide, by decide, by decide +kernel⟩⟩
theorem me_Q_stand : me_ yQ_stand bQ_stand 2 none RQ 1 := ⟨wT4 171 rfl rfl, wP4 (n := 30) 13 rfl, wT1 7 rfl rfl, wT4 172 rfl rfl, ⟨rfl, by decide, by decide, by decide +kernel⟩⟩
theorem me_Q_state : me_ yQ_state bQ_state 1 (some .int) RQ 0 := ⟨wT4 230 rfl rfl, wT4 231 rfl rfl, wT1 7 rfl rfl, wT4 232 rfl rfl, ⟨rfl, by decide, by decide, by decide +kernel⟩⟩
theorem me_Q_take : me_ yQ_take bQ_take 7 (some .int) RQ 3 := ⟨wT4 199 rfl rfl, wP5 (n := 30) 4 rfl, wT1 7 rfl rfl, wT4 200 rfl rfl, ⟨rfl, by decide, by decide, by decide +kernel⟩⟩
theorem me_Q_thrown : me_ yQ_thrown bQ_thrown 1 (some .int) RQ 0 := ⟨wT4 34 rfl rfl, wT4 35 rfl rfl, wT1 7 rfl rfl, wT4 36 rfl rfl, ⟨rfl, by decide, by decide, by decide +kernel⟩⟩
theorem me_Q_where : me_ yQ_where bQ_where 2 (some .int) RQ 1 := ⟨wT4 151 rfl rfl, wP4 (n := 30) 8 rfl, wT1 7 rfl rfl, wT4 152 rfl rfl, ⟨rfl, by decide, by decide, by decide +kernel⟩⟩
theorem me_D_byteSent : me_ yD_byteSent bD_byteSent 2 (some .int) RD 1 := ⟨wT3 162 rfl rfl, wT3 163 rfl rfl, wT1 1 rfl rfl, wT3 164 rfl rfl, ⟨rfl, by decide, by decide, by decide +kernel⟩⟩
theorem me_D_bytes : me_ yD_bytes bD_bytes 4 none RD 2 := ⟨wT2 79 rfl rfl, wT2 80 rfl rfl, wT1 1 rfl rfl, wT2 81 rfl rfl, ⟨rfl, by decide, by decide, by decide +kernel⟩⟩
theorem me_D_image : me_ yD_image bD_image 2 (some .int) RD 1 := ⟨wT2 203 rfl rfl, wT2 204 rfl rfl, wT1 1 rfl rfl, wT2 205 rfl rfl, ⟨rfl, by decide, by decide, by decide +kernel⟩⟩
theorem me_D_mended : me_ yD_mended bD_mended 4 none RD 2 := ⟨wT2 94 rfl rfl, wT2 95 rfl rfl, wT1 1 rfl rfl, wT2 96 rfl rfl, ⟨rfl, by decide, by decide, by decide +kernel⟩⟩
theorem me_D_packed : me_ yD_packed bD_packed 3 (some .int) RD 2 := ⟨wT2 195 rfl rfl, wT2 196 rfl rfl, wT1 1 rfl rfl, wT2 197 rfl rfl, ⟨rfl, by decide, by decide, by decide +kernel⟩⟩
theorem me_D_section : me_ yD_section bD_section 2 (some .int) RD 1 := ⟨wT1 230 rfl rfl, wT1 231 rfl rfl, wT1 1 rfl rfl, wT1 232 rfl rfl, ⟨rfl, by decide, by decide, by decide +kernel⟩⟩
theorem me_D_spoil : me_ yD_spoil bD_spoil 3 none RD 2 := ⟨wT2 211 rfl rfl, wT2 212 rfl rfl, wT1 1 rfl rfl, wT2 213 rfl rfl, ⟨rfl, by decide, by decide, by decide +kernel⟩⟩
theorem me_K_imageCheck : me_ yK_imageCheck bK_imageCheck 3 (some .int) RK 0 := ⟨wT2 184 rfl rfl, wP1 (n := 2) 12 rfl, wT1 3 rfl rfl, wT2 185 rfl rfl, ⟨rfl, by decide, by decide, by decide +kernel⟩⟩
theorem me_K_lay : me_ yK_lay bK_lay 9 none RK 3 := ⟨wT2 162 rfl rfl, wP1 (n := 2) 8 rfl, wT1 3 rfl rfl, wT2 163 rfl rfl, ⟨rfl, by decide, by decide, by decide +kernel⟩⟩
theorem me_N_adjust : me_ yN_adjust bN_adjust 4 none RN 0 := ⟨wT3 69 rfl rfl, wP2 (n := 13) 7 rfl, wT1 5 rfl rfl, wT3 70 rfl rfl, ⟨rfl, by decide, by decide, by decide +kernel⟩⟩
theorem me_N_begin : me_ yN_begin bN_begin 2 none RN 0 := ⟨wT1 111 rfl rfl, wT1 112 rfl rfl, wT1 5 rfl rfl, wT1 113 rfl rfl, ⟨rfl, by decide, by decide, by decide +kernel⟩⟩
theorem me_N_comesIn : me_ yN_comesIn bN_comesIn 4 (some .int) RN 3 := ⟨wT3 133 rfl rfl, wP3 (n := 13) 7 rfl, wT1 5 rfl rfl, wT3 134 rfl rfl, ⟨rfl, by decide, by decide, by decide +kernel⟩⟩
theorem me_N_difference : me_ yN_difference bN_difference 6 (some .int) RN 2 := ⟨wT3 113 rfl rfl, wP3 (n := 13) 2 rfl, wT1 5 rfl rfl, wT3 114 rfl rfl, ⟨rfl, by decide, by decide, by decide +kernel⟩⟩
theorem me_N_exchanged : me_ yN_exchanged bN_exchanged 2 (some .int) RN 1 := ⟨wT3 97 rfl rfl, wP2 (n := 13) 14 rfl, wT1 5 rfl rfl, wT3 98 rfl rfl, ⟨rfl, by decide, by decide, by decide +kernel⟩⟩
theorem me_N_oneLess : me_ yN_oneLess bN_oneLess 3 (some .int) RN 1 := ⟨wT3 93 rfl rfl, wP2 (n := 13) 13 rfl, wT1 5 rfl rfl, wT3 94 rfl rfl, ⟨rfl, by decide, by decide, by decide +kernel⟩⟩
theorem me_N_oneMore : me_ yN_oneMore bN_oneMore 3 (some .int) RN 1 := ⟨wT3 85 rfl rfl, wP2 (n := 13) 11 rfl, wT1 5 rfl rfl, wT3 86 rfl rfl, ⟨rfl, by decide, by decide, by decide +kernel⟩⟩
theorem me_N_sum : me_ yN_sum bN_sum 6 (some .int) RN 2 := ⟨wT3 105 rfl rfl, wP3 (n := 13) 0 rfl, wT1 5 rfl rfl, wT3 106 rfl rfl, ⟨rfl, by decide, by decide, by decide +kernel⟩⟩
theorem me_M_read : me_ yM_read bM_read 2 (some .int) RM 1 := ⟨wT3 44 rfl rfl, wT3 45 rfl rfl, wT1 4 rfl rfl, wT3 46 rfl rfl, ⟨rfl, by decide, by decide, by decide +kernel⟩⟩
theorem me_M_write : me_ yM_write bM_write 3 none RM 2 := ⟨wT3 28 rfl rfl, wT3 29 rfl rfl, wT1 4 rfl rfl, wT3 30 rfl rfl, ⟨rfl, by decide, by decide, by decide +kernel⟩⟩
theorem me_P_packLowest : me_ yP_packLowest bP_packLowest 5 (some .boolean) RP 3 := ⟨wT2 146 rfl rfl, wP1 (n := 4) 6 rfl, wT1 6 rfl rfl, wT2 147 rfl rfl, ⟨rfl, by decide, by decide, by decide +kernel⟩⟩
theorem me_P_packPinned : me_ yP_packPinned bP_packPinned 5 (some .boolean) RP 2 := ⟨wT2 130 rfl rfl, wP1 (n := 4) 2 rfl, wT1 6 rfl rfl, wT2 131 rfl rfl, ⟨rfl, by decide, by decide, by decide +kernel⟩⟩
theorem me_Q_byteSent : me_ yQ_byteSent bQ_byteSent 2 (some .int) RQ 1 := ⟨wT5 6 rfl rfl, wT5 7 rfl rfl, wT1 7 rfl rfl, wT5 8 rfl rfl, ⟨rfl, by decide, by decide, by decide +kernel⟩⟩
theorem me_Q_bytes : me_ yQ_bytes bQ_bytes 4 none RQ 2 := ⟨wT4 45 rfl rfl, wT4 46 rfl rfl, wT1 7 rfl rfl, wT4 47 rfl rfl, ⟨rfl, by decide, by decide, by decide +kernel⟩⟩
theorem me_Q_count : me_ yQ_count bQ_count 5 (some .int) RQ 2 := ⟨wT4 191 rfl rfl, wP5 (n := 30) 2 rfl, wT1 7 rfl rfl, wT4 192 rfl rfl, ⟨rfl, by decide, by decide, by decide +kernel⟩⟩
theorem me_Q_headByte : me_ yQ_headByte bQ_headByte 2 (some .int) RQ 1 := ⟨wT4 86 rfl rfl, wP3 (n := 30) 15 rfl, wT1 7 rfl rfl, wT4 87 rfl rfl, ⟨rfl, by decide, by decide, by decide +kernel⟩⟩
theorem me_Q_image : me_ yQ_image bQ_image 2 (some .int) RQ 1 := ⟨wT4 110 rfl rfl, wT4 111 rfl rfl, wT1 7 rfl rfl, wT4 112 rfl rfl, ⟨rfl, by decide, by decide, by decide +kernel⟩⟩
theorem me_Q_mended : me_ yQ_mended bQ_mended 3 none RQ 2 := ⟨wT4 57 rfl rfl, wT4 58 rfl rfl, wT1 7 rfl rfl, wT4 59 rfl rfl, ⟨rfl, by decide, by decide, by decide +kernel⟩⟩
theorem me_Q_pack : me_ yQ_pack bQ_pack 5 (some .boolean) RQ 1 := ⟨wT4 74 rfl rfl, wP3 (n := 30) 12 rfl, wT1 7 rfl rfl, wT4 75 rfl rfl, ⟨rfl, by decide, by decide, by decide +kernel⟩⟩
theorem me_Q_packed : me_ yQ_packed bQ_packed 3 (some .int) RQ 2 := ⟨wT4 102 rfl rfl, wT4 103 rfl rfl, wT1 7 rfl rfl, wT4 104 rfl rfl, ⟨rfl, by decide, by decide, by decide +kernel⟩⟩
theorem me_Q_raise : me_ yQ_raise bQ_raise 2 none RQ 1 := ⟨wT4 126 rfl rfl, wT4 127 rfl rfl, wT1 7 rfl rfl, wT4 128 rfl rfl, ⟨rfl, by decide, by decide, by decide +kernel⟩⟩
theorem me_Q_read : me_ yQ_read bQ_read 2 (some .int) RQ 1 := ⟨wT4 163 rfl rfl, wP4 (n := 30) 11 rfl, wT1 7 rfl rfl, wT4 164 rfl rfl, ⟨rfl, by decide, by decide, by decide +kernel⟩⟩
theorem me_Q_reckon : me_ yQ_reckon bQ_reckon 5 none RQ 2 := ⟨wT4 211 rfl rfl, wP5 (n := 30) 7 rfl, wT1 7 rfl rfl, wT4 212 rfl rfl, ⟨rfl, by decide, by decide, by decide +kernel⟩⟩
theorem me_Q_restart : me_ yQ_restart bQ_restart 1 none RQ 0 := ⟨wT4 122 rfl rfl, wT4 123 rfl rfl, wT1 7 rfl rfl, wT4 124 rfl rfl, ⟨rfl, by decide, by decide, by decide +kernel⟩⟩
theorem me_Q_section : me_ yQ_section bQ_section 2 (some .int) RQ 1 := ⟨wT4 38 rfl rfl, wT4 39 rfl rfl, wT1 7 rfl rfl, wT4 40 rfl rfl, ⟨rfl, by decide, by decide, by decide +kernel⟩⟩
theorem me_Q_spoil : me_ yQ_spoil bQ_spoil 3 none RQ 2 := ⟨wT4 114 rfl rfl, wT4 115 rfl rfl, wT1 7 rfl rfl, wT4 116 rfl rfl, ⟨rfl, by decide, by decide, by decide +kernel⟩⟩
theorem me_Q_turned : me_ yQ_turned bQ_turned 7 (some .int) RQ 2 := ⟨wT4 227 rfl rfl, wP5 (n := 30) 11 rfl, wT1 7 rfl rfl, wT4 228 rfl rfl, ⟨rfl, by decide, by decide, by decide +kernel⟩⟩
theorem me_Q_valid : me_ yQ_valid bQ_valid 3 (some .int) RQ 0 := ⟨wT4 118 rfl rfl, wT4 119 rfl rfl, wT1 7 rfl rfl, wT4 120 rfl rfl, ⟨rfl, by decide, by decide, by decide +kernel⟩⟩
theorem me_Q_write : me_ yQ_write bQ_write 3 none RQ 2 := ⟨wT4 147 rfl rfl, wP4 (n := 30) 7 rfl, wT1 7 rfl rfl, wT4 148 rfl rfl, ⟨rfl, by decide, by decide, by decide +kernel⟩⟩
theorem me_D_peek : me_ yD_peek bD_peek 2 (some .int) RD 1 := ⟨wT3 154 rfl rfl, wT3 155 rfl rfl, wT1 1 rfl rfl, wT3 156 rfl rfl, ⟨rfl, by decide, by decide, by decide +kernel⟩⟩
theorem me_D_restart : me_ yD_restart bD_restart 1 none RD 0 := ⟨wT1 212 rfl rfl, wT1 213 rfl rfl, wT1 1 rfl rfl, wT1 214 rfl rfl, ⟨rfl, by decide, by decide, by decide +kernel⟩⟩
theorem me_K_verdict : me_ yK_verdict bK_verdict 2 (some .int) RK 0 := ⟨wT2 226 rfl rfl, wT2 227 rfl rfl, wT1 3 rfl rfl, wT2 228 rfl rfl, ⟨rfl, by decide, by decide, by decide +kernel⟩⟩
theorem me_K_writeHead : me_ yK_writeHead bK_writeHead 3 none RK 1 := ⟨wT2 170 rfl rfl, wP1 (n := 2) 9 rfl, wT1 3 rfl rfl, wT2 171 rfl rfl, ⟨rfl, by decide, by decide, by decide +kernel⟩⟩
theorem me_N_calculate : me_ yN_calculate bN_calculate 3 none RN 2 := ⟨wT3 101 rfl rfl, wP2 (n := 13) 15 rfl, wT1 5 rfl rfl, wT3 102 rfl rfl, ⟨rfl, by decide, by decide, by decide +kernel⟩⟩
theorem me_N_get : me_ yN_get bN_get 2 (some .int) RN 1 := ⟨wT3 81 rfl rfl, wP2 (n := 13) 10 rfl, wT1 5 rfl rfl, wT3 82 rfl rfl, ⟨rfl, by decide, by decide, by decide +kernel⟩⟩
theorem me_N_next : me_ yN_next bN_next 2 (some .int) RN 0 := ⟨wT3 41 rfl rfl, wP2 (n := 13) 2 rfl, wT1 5 rfl rfl, wT3 42 rfl rfl, ⟨rfl, by decide, by decide, by decide +kernel⟩⟩
theorem me_N_pull : me_ yN_pull bN_pull 2 (some .int) RN 0 := ⟨wT3 65 rfl rfl, wP2 (n := 13) 6 rfl, wT1 5 rfl rfl, wT3 66 rfl rfl, ⟨rfl, by decide, by decide, by decide +kernel⟩⟩
theorem me_N_push : me_ yN_push bN_push 2 none RN 1 := ⟨wT3 25 rfl rfl, wP1 (n := 13) 15 rfl, wT1 5 rfl rfl, wT3 26 rfl rfl, ⟨rfl, by decide, by decide, by decide +kernel⟩⟩
theorem me_N_set : me_ yN_set bN_set 3 none RN 2 := ⟨wT3 89 rfl rfl, wP2 (n := 13) 12 rfl, wT1 5 rfl rfl, wT3 90 rfl rfl, ⟨rfl, by decide, by decide, by decide +kernel⟩⟩
theorem me_N_shifted : me_ yN_shifted bN_shifted 7 (some .int) RN 2 := ⟨wT3 129 rfl rfl, wP3 (n := 13) 6 rfl, wT1 5 rfl rfl, wT3 130 rfl rfl, ⟨rfl, by decide, by decide, by decide +kernel⟩⟩
theorem me_P_packFloating : me_ yP_packFloating bP_packFloating 6 (some .boolean) RP 2 := ⟨wT2 142 rfl rfl, wP1 (n := 4) 5 rfl, wT1 6 rfl rfl, wT2 143 rfl rfl, ⟨rfl, by decide, by decide, by decide +kernel⟩⟩
theorem me_Q_build : me_ yQ_build bQ_build 7 none RQ 1 := ⟨wT4 82 rfl rfl, wP3 (n := 30) 14 rfl, wT1 7 rfl rfl, wT4 83 rfl rfl, ⟨rfl, by decide, by decide, by decide +kernel⟩⟩
theorem me_Q_get : me_ yQ_get bQ_get 2 (some .int) RQ 1 := ⟨wT4 187 rfl rfl, wP5 (n := 30) 1 rfl, wT1 7 rfl rfl, wT4 188 rfl rfl, ⟨rfl, by decide, by decide, by decide +kernel⟩⟩
theorem me_Q_next : me_ yQ_next bQ_next 2 (some .int) RQ 0 := ⟨wT4 159 rfl rfl, wP4 (n := 30) 10 rfl, wT1 7 rfl rfl, wT4 160 rfl rfl, ⟨rfl, by decide, by decide, by decide +kernel⟩⟩
theorem me_Q_peek : me_ yQ_peek bQ_peek 2 (some .int) RQ 1 := ⟨wT4 238 rfl rfl, wT4 239 rfl rfl, wT1 7 rfl rfl, wT5 0 rfl rfl, ⟨rfl, by decide, by decide, by decide +kernel⟩⟩
theorem me_Q_pop : me_ yQ_pop bQ_pop 2 (some .int) RQ 0 := ⟨wT4 179 rfl rfl, wP4 (n := 30) 15 rfl, wT1 7 rfl rfl, wT4 180 rfl rfl, ⟨rfl, by decide, by decide, by decide +kernel⟩⟩
theorem me_Q_push : me_ yQ_push bQ_push 2 none RQ 1 := ⟨wT4 143 rfl rfl, wP4 (n := 30) 6 rfl, wT1 7 rfl rfl, wT4 144 rfl rfl, ⟨rfl, by decide, by decide, by decide +kernel⟩⟩
theorem me_Q_set : me_ yQ_set bQ_set 3 none RQ 2 := ⟨wT4 203 rfl rfl, wP5 (n := 30) 5 rfl, wT1 7 rfl rfl, wT4 204 rfl rfl, ⟨rfl, by decide, by decide, by decide +kernel⟩⟩
theorem me_D_valid : me_ yD_valid bD_valid 1 (some .int) RD 0 := ⟨wT2 218 rfl rfl, wT2 219 rfl rfl, wT1 1 rfl rfl, wT2 220 rfl rfl, ⟨rfl, by decide, by decide, by decide +kernel⟩⟩
theorem me_K_make : me_ yK_make bK_make 5 none RK 3 := ⟨wT2 153 rfl rfl, wT2 154 rfl rfl, wT1 3 rfl rfl, wT2 155 rfl rfl, ⟨rfl, by decide, by decide, by decide +kernel⟩⟩
theorem me_N_interruptFor : me_ yN_interruptFor bN_interruptFor 2 none RN 1 := ⟨wT3 21 rfl rfl, wP1 (n := 13) 14 rfl, wT1 5 rfl rfl, wT3 22 rfl rfl, ⟨rfl, by decide, by decide, by decide +kernel⟩⟩
theorem me_N_obeyJump : me_ yN_obeyJump bN_obeyJump 5 none RN 2 := ⟨wT3 117 rfl rfl, wP3 (n := 13) 3 rfl, wT1 5 rfl rfl, wT3 118 rfl rfl, ⟨rfl, by decide, by decide, by decide +kernel⟩⟩
theorem me_N_obeyOnBits : me_ yN_obeyOnBits bN_obeyOnBits 5 none RN 1 := ⟨wT3 125 rfl rfl, wP3 (n := 13) 5 rfl, wT1 5 rfl rfl, wT3 126 rfl rfl, ⟨rfl, by decide, by decide, by decide +kernel⟩⟩
theorem me_N_obeyOnOne : me_ yN_obeyOnOne bN_obeyOnOne 3 none RN 2 := ⟨wT3 77 rfl rfl, wP2 (n := 13) 9 rfl, wT1 5 rfl rfl, wT3 78 rfl rfl, ⟨rfl, by decide, by decide, by decide +kernel⟩⟩
theorem me_N_obeySingle : me_ yN_obeySingle bN_obeySingle 2 none RN 1 := ⟨wT3 57 rfl rfl, wP2 (n := 13) 4 rfl, wT1 5 rfl rfl, wT3 58 rfl rfl, ⟨rfl, by decide, by decide, by decide +kernel⟩⟩
theorem me_N_shown : me_ yN_shown bN_shown 2 (some .int) RN 1 := ⟨wT3 143 rfl rfl, wT3 144 rfl rfl, wT1 5 rfl rfl, wT3 145 rfl rfl, ⟨rfl, by decide, by decide, by decide +kernel⟩⟩
theorem me_P_pack : me_ yP_pack bP_pack 4 (some .boolean) RP 2 := ⟨wT2 125 rfl rfl, wT2 126 rfl rfl, wT1 6 rfl rfl, wT2 127 rfl rfl, ⟨rfl, by decide, by decide, by decide +kernel⟩⟩
theorem me_Q_bits : me_ yQ_bits bQ_bits 6 none RQ 1 := ⟨wT4 223 rfl rfl, wP5 (n := 30) 10 rfl, wT1 7 rfl rfl, wT4 224 rfl rfl, ⟨rfl, by decide, by decide, by decide +kernel⟩⟩
theorem me_Q_few : me_ yQ_few bQ_few 2 none RQ 1 := ⟨wT4 167 rfl rfl, wP4 (n := 30) 12 rfl, wT1 7 rfl rfl, wT4 168 rfl rfl, ⟨rfl, by decide, by decide, by decide +kernel⟩⟩
theorem me_Q_interrupt : me_ yQ_interrupt bQ_interrupt 3 none RQ 1 := ⟨wT4 139 rfl rfl, wP4 (n := 30) 5 rfl, wT1 7 rfl rfl, wT4 140 rfl rfl, ⟨rfl, by decide, by decide, by decide +kernel⟩⟩
theorem me_Q_lead : me_ yQ_lead bQ_lead 6 none RQ 1 := ⟨wT4 215 rfl rfl, wP5 (n := 30) 8 rfl, wT1 7 rfl rfl, wT4 216 rfl rfl, ⟨rfl, by decide, by decide, by decide +kernel⟩⟩
theorem me_Q_link : me_ yQ_link bQ_link 4 (some .int) RQ 1 := ⟨wT4 65 rfl rfl, wT4 66 rfl rfl, wT1 7 rfl rfl, wT4 67 rfl rfl, ⟨rfl, by decide, by decide, by decide +kernel⟩⟩
theorem me_Q_register : me_ yQ_register bQ_register 3 (some .int) RQ 1 := ⟨wT4 234 rfl rfl, wT4 235 rfl rfl, wT1 7 rfl rfl, wT4 236 rfl rfl, ⟨rfl, by decide, by decide, by decide +kernel⟩⟩
theorem me_Q_single : me_ yQ_single bQ_single 4 none RQ 2 := ⟨wT4 183 rfl rfl, wP5 (n := 30) 0 rfl, wT1 7 rfl rfl, wT4 184 rfl rfl, ⟨rfl, by decide, by decide, by decide +kernel⟩⟩
theorem me_D_link : me_ yD_link bD_link 2 (some .int) RD 1 := ⟨wT2 102 rfl rfl, wT2 103 rfl rfl, wT1 1 rfl rfl, wT2 104 rfl rfl, ⟨rfl, by decide, by decide, by decide +kernel⟩⟩
theorem me_D_register : me_ yD_register bD_register 3 (some .int) RD 1 := ⟨wT3 139 rfl rfl, wT3 140 rfl rfl, wT1 1 rfl rfl, wT3 141 rfl rfl, ⟨rfl, by decide, by decide, by decide +kernel⟩⟩
theorem me_N_obey : me_ yN_obey bN_obey 4 none RN 1 := ⟨wT3 53 rfl rfl, wP2 (n := 13) 3 rfl, wT1 5 rfl rfl, wT3 54 rfl rfl, ⟨rfl, by decide, by decide, by decide +kernel⟩⟩
theorem me_Q_instruction : me_ yQ_instruction bQ_instruction 2 none RQ 0 := ⟨wT4 155 rfl rfl, wP4 (n := 30) 9 rfl, wT1 7 rfl rfl, wT4 156 rfl rfl, ⟨rfl, by decide, by decide, by decide +kernel⟩⟩
theorem me_N_step : me_ yN_step bN_step 3 none RN 0 := ⟨wT3 8 rfl rfl, wT3 9 rfl rfl, wT1 5 rfl rfl, wT3 10 rfl rfl, ⟨rfl, by decide, by decide, by decide +kernel⟩⟩
theorem me_Q_step : me_ yQ_step bQ_step 3 none RQ 0 := ⟨wT4 135 rfl rfl, wP4 (n := 30) 4 rfl, wT1 7 rfl rfl, wT4 136 rfl rfl, ⟨rfl, by decide, by decide, by decide +kernel⟩⟩
theorem me_D_run : me_ yD_run bD_run 3 (some .int) RD 1 := ⟨wT3 0 rfl rfl, wT3 1 rfl rfl, wT1 1 rfl rfl, wT3 2 rfl rfl, ⟨rfl, by decide, by decide, by decide +kernel⟩⟩
theorem me_Q_run : me_ yQ_run bQ_run 3 (some .int) RQ 1 := ⟨wT4 130 rfl rfl, wT4 131 rfl rfl, wT1 7 rfl rfl, wT4 132 rfl rfl, ⟨rfl, by decide, by decide, by decide +kernel⟩⟩
end
section
def wp_D_clear (s_ct : Int32)  (P : (Int32) → Prop) : Prop := P (0 : Int32)
def wp_D_raise (m_li : Int32) (a1 : Int32) (P : (Int32) → Prop) (PX : Nat → (Int32) → Prop) : Prop := 
  (a1 < 0 → PX 1 m_li) ∧
  (¬ a1 < 0 → 
    (a1 < (4 : Int32) → P (m_li ||| ((1 : Int32) <<< (a1 &&& 31)))) ∧
    (¬ a1 < (4 : Int32) → PX 1 m_li))
def wp_D_sent (n_sc : Int32)  (P : Int32 → Prop) : Prop := P n_sc
def wp_D_state (n_co : Int32)  (P : Int32 → Prop) : Prop := P n_co
def wp_K_at (k_ce : Nat → Int32) (k_bc : Int32) (a1 a2 : Int32) (P : Int32 → Prop) : Prop := vp_in ((((a1 &&& (k_bc - (1 : Int32))) &&& (7 : Int32)) * (64 : Int32)) + a2) 512 ∧ (P (k_ce ((((a1 &&& (k_bc - (1 : Int32))) &&& (7 : Int32)) * (64 : Int32)) + a2).toNatClampNeg))
def wp_K_headCheck_4 (k_ce : Nat → Int32) (P : Int32 → Prop) : Nat → (Int32) → (Int32) → Prop
  | 0, _, _ => False
  | n9 + 1, x1, x2 => 
    ((12 : Int32) < x2 → P x1) ∧
    (¬ (12 : Int32) < x2 → vp_in x2 512 ∧ (∀ z1 : Int32, z1 = ((x1 - (k_ce x2.toNatClampNeg)) - (1 : Int32)) &&& (255 : Int32) → (wp_K_headCheck_4 k_ce P n9) z1 (x2 + (1 : Int32))))
def wp_K_headCheck (k_ce : Nat → Int32)  (P : Int32 → Prop) : Prop := ∃ j9 : Nat, wp_K_headCheck_4 k_ce P j9 (0 : Int32) (2 : Int32)
def wp_K_isMade (k_bc : Int32)  (P : Int32 → Prop) : Prop := 
  (k_bc = 0 → P (0 : Int32)) ∧
  (¬ k_bc = 0 → P (1 : Int32))
def wp_K_size (k_bc : Int32)  (P : Int32 → Prop) : Prop := P (k_bc * (64 : Int32))
def wp_K_sizeCode (k_bc : Int32)  (P : Int32 → Prop) : Prop := 
  (¬ k_bc = (8 : Int32) → 
    (¬ k_bc = (4 : Int32) → P (0 : Int32)) ∧
    (k_bc = (4 : Int32) → P (1 : Int32))) ∧
  (k_bc = (8 : Int32) → P (2 : Int32))
def wp_N_canGo (n_co : Int32)  (P : Int32 → Prop) : Prop := 
  (n_co = 0 → P (1 : Int32)) ∧
  (¬ n_co = 0 → 
    (¬ n_co = (1 : Int32) → P (0 : Int32)) ∧
    (n_co = (1 : Int32) → P (1 : Int32)))
def wp_N_carryBit (n_c : Int32)  (P : Int32 → Prop) : Prop := 
  (n_c = 0 → P (0 : Int32)) ∧
  (¬ n_c = 0 → P (1 : Int32))
def wp_N_endAs (n_pl n_co : Int32) (a1 : Int32) (P : (Int32) → (Int32) → Prop) : Prop := P ((n_pl - (1 : Int32)) &&& (255 : Int32)) a1
def wp_N_holds (n_z n_c : Int32) (a1 : Int32) (P : Int32 → Prop) : Prop := 
  (a1 = (0 : Int32) → P (1 : Int32)) ∧
  (a1 = (1 : Int32) → 
    (¬ n_z = 0 → P (0 : Int32)) ∧
    (n_z = 0 → P (1 : Int32))) ∧
  (a1 = (2 : Int32) → (n_z = 0 ∨ n_z = 1) ∧ (P n_z)) ∧
  (a1 = (3 : Int32) → 
    (¬ n_c = 0 → P (0 : Int32)) ∧
    (n_c = 0 → P (1 : Int32))) ∧
  (¬ a1 = (0 : Int32) → ¬ a1 = (1 : Int32) → ¬ a1 = (2 : Int32) → ¬ a1 = (3 : Int32) → (n_c = 0 ∨ n_c = 1) ∧ (P n_c))
def wp_N_send (n_sb : Nat → Int32) (n_sc : Int32) (a1 : Int32) (P : (Nat → Int32) → (Int32) → Prop) : Prop := 
  ((100 : Int32) ≤ n_sc → P n_sb (n_sc + (1 : Int32))) ∧
  (¬ (100 : Int32) ≤ n_sc → vp_in n_sc 100 ∧ (P (upd n_sb n_sc.toNatClampNeg a1) (n_sc + (1 : Int32))))
def wp_N_setFlags (n_z n_n n_h n_c : Int32) (a1 a2 a3 a4 : Int32) (P : (Int32) → (Int32) → (Int32) → (Int32) → Prop) : Prop := (a1 = 0 ∨ a1 = 1) ∧ ((a2 = 0 ∨ a2 = 1) ∧ ((a3 = 0 ∨ a3 = 1) ∧ ((a4 = 0 ∨ a4 = 1) ∧ (P a1 a2 a3 a4))))
def wp_N_wakeFor (n_pl n_co : Int32) (a1 : Int32) (P : (Int32) → (Int32) → Prop) : Prop := 
  (a1 = (-1 : Int32) → P n_pl n_co) ∧
  (¬ a1 = (-1 : Int32) → P ((n_pl + (1 : Int32)) &&& (255 : Int32)) (0 : Int32))
def wp_M_askingLine_2 (m_ma m_li : Int32) (P : Int32 → Prop) : Nat → (Int32) → Prop
  | 0, _ => False
  | n9 + 1, x1 => 
    ((4 : Int32) ≤ x1 → P (-1 : Int32)) ∧
    (¬ (4 : Int32) ≤ x1 → 
      (((m_li &&& m_ma) &&& ((1 : Int32) <<< (x1 &&& 31))) = 0 → (wp_M_askingLine_2 m_ma m_li P n9) (x1 + (1 : Int32))) ∧
      (¬ ((m_li &&& m_ma) &&& ((1 : Int32) <<< (x1 &&& 31))) = 0 → P x1))
def wp_M_askingLine (m_ma m_li : Int32)  (P : Int32 → Prop) : Prop := ∃ j9 : Nat, wp_M_askingLine_2 m_ma m_li P j9 (0 : Int32)
def wp_M_begin_26  (P : (Nat → Int32) → (Nat → Int32) → (Int32) → (Int32) → (Int32) → (Int32) → (Int32) → (Int32) → Prop) : Nat → (Nat → Int32) → (Nat → Int32) → (Int32) → (Int32) → (Int32) → (Int32) → (Int32) → (Int32) → (Int32) → Prop
  | 0, _, _, _, _, _, _, _, _, _ => False
  | n9 + 1, m_ra, m_up, m_on, m_lo, m_hi, m_mo, m_ma, m_li, x1 => 
    ((62 : Int32) ≤ x1 → P m_ra m_up (0 : Int32) (1 : Int32) (0 : Int32) (0 : Int32) (0 : Int32) (0 : Int32)) ∧
    (¬ (62 : Int32) ≤ x1 → vp_in x1 62 ∧ ((wp_M_begin_26 P n9) m_ra (upd m_up x1.toNatClampNeg (0 : Int32)) m_on m_lo m_hi m_mo m_ma m_li (x1 + (1 : Int32))))
def wp_M_begin_2  (P : (Nat → Int32) → (Nat → Int32) → (Int32) → (Int32) → (Int32) → (Int32) → (Int32) → (Int32) → Prop) : Nat → (Nat → Int32) → (Nat → Int32) → (Int32) → (Int32) → (Int32) → (Int32) → (Int32) → (Int32) → (Int32) → Prop
  | 0, _, _, _, _, _, _, _, _, _ => False
  | n9 + 1, m_ra, m_up, m_on, m_lo, m_hi, m_mo, m_ma, m_li, x1 => 
    ((128 : Int32) ≤ x1 → ∃ j9 : Nat, wp_M_begin_26 P j9 m_ra m_up m_on m_lo m_hi m_mo m_ma m_li (0 : Int32)) ∧
    (¬ (128 : Int32) ≤ x1 → vp_in x1 128 ∧ ((wp_M_begin_2 P n9) (upd m_ra x1.toNatClampNeg (0 : Int32)) m_up m_on m_lo m_hi m_mo m_ma m_li (x1 + (1 : Int32))))
def wp_M_begin (m_ra m_up : Nat → Int32) (m_on m_lo m_hi m_mo m_ma m_li : Int32)  (P : (Nat → Int32) → (Nat → Int32) → (Int32) → (Int32) → (Int32) → (Int32) → (Int32) → (Int32) → Prop) : Prop := ∃ j9 : Nat, wp_M_begin_2 P j9 m_ra m_up m_on m_lo m_hi m_mo m_ma m_li (0 : Int32)
def wp_M_ramPlace (m_hi m_mo : Int32) (a1 : Int32) (P : Int32 → Prop) : Prop := 
  (¬ m_mo = (1 : Int32) → P (((0 : Int32) + a1) - (128 : Int32))) ∧
  (m_mo = (1 : Int32) → P (((m_hi * (64 : Int32)) + a1) - (128 : Int32)))
def wp_M_switches (m_on m_lo m_hi m_mo : Int32)  (P : Int32 → Prop) : Prop := 
  (m_on = 0 → P ((((0 : Int32) + ((4 : Int32) * m_lo)) + ((2 : Int32) * m_hi)) + m_mo)) ∧
  (¬ m_on = 0 → P ((((16 : Int32) + ((4 : Int32) * m_lo)) + ((2 : Int32) * m_hi)) + m_mo))
def wp_M_turnSwitch (m_on m_lo m_hi m_mo : Int32) (a1 a2 : Int32) (P : (Int32) → (Int32) → (Int32) → (Int32) → Prop) : Prop := 
  (a1 = (0 : Int32) → 
    (¬ (a2 &&& (15 : Int32)) = (10 : Int32) → P (0 : Int32) m_lo m_hi m_mo) ∧
    ((a2 &&& (15 : Int32)) = (10 : Int32) → P (1 : Int32) m_lo m_hi m_mo)) ∧
  (a1 = (1 : Int32) → 
    (¬ (a2 &&& (3 : Int32)) = 0 → P m_on (a2 &&& (3 : Int32)) m_hi m_mo) ∧
    ((a2 &&& (3 : Int32)) = 0 → P m_on (1 : Int32) m_hi m_mo)) ∧
  (a1 = (2 : Int32) → P m_on m_lo (a2 &&& (1 : Int32)) m_mo) ∧
  (¬ a1 = (0 : Int32) → ¬ a1 = (1 : Int32) → ¬ a1 = (2 : Int32) → P m_on m_lo m_hi (a2 &&& (1 : Int32)))
def wp_P_addressOf (l_bk l_of : Nat → Int32) (a1 : Int32) (P : Int32 → Prop) : Prop := vp_in a1 10 ∧ (
  (¬ (l_bk a1.toNatClampNeg) = 0 → vp_in a1 10 ∧ (P ((64 : Int32) + (l_of a1.toNatClampNeg)))) ∧
  ((l_bk a1.toNatClampNeg) = 0 → vp_in a1 10 ∧ (P (l_of a1.toNatClampNeg))))
def wp_P_fits (t_en : Nat → Int32) (a1 a2 : Int32) (P : Int32 → Prop) : Prop := vp_in a1 8 ∧ (
  ((64 : Int32) < ((t_en a1.toNatClampNeg) + a2) → P (0 : Int32)) ∧
  (¬ (64 : Int32) < ((t_en a1.toNatClampNeg) + a2) → P (1 : Int32)))
def wp_P_put (t_bk t_of t_en : Nat → Int32) (a1 a2 a3 : Int32) (P : (Nat → Int32) → (Nat → Int32) → (Nat → Int32) → Prop) : Prop := vp_in a1 10 ∧ (vp_in a2 8 ∧ (vp_in a1 10 ∧ (vp_in a2 8 ∧ (vp_in a2 8 ∧ (P (upd t_bk a1.toNatClampNeg a2) (upd t_of a1.toNatClampNeg (t_en a2.toNatClampNeg)) (upd t_en a2.toNatClampNeg ((t_en a2.toNatClampNeg) + a3)))))))
def wp_S_append (s_ln s_kd s_vl : Nat → Int32) (s_ct : Int32) (a1 a2 : Int32) (P : (Nat → Int32) → (Nat → Int32) → (Nat → Int32) → Prop) : Prop := ∀ z1 : Int32, z1 = s_ct - (1 : Int32) → vp_in z1 10 ∧ (∀ z2 : Int32, z2 = (z1 * (48 : Int32)) + (s_ln z1.toNatClampNeg) → vp_in z2 480 ∧ (vp_in z2 480 ∧ (vp_in z1 10 ∧ (vp_in z1 10 ∧ (P (upd s_ln z1.toNatClampNeg ((s_ln z1.toNatClampNeg) + (1 : Int32))) (upd s_kd z2.toNatClampNeg a1) (upd s_vl z2.toNatClampNeg a2))))))
def wp_S_canTake (s_ln : Nat → Int32) (s_ct : Int32) (a1 : Int32) (P : Int32 → Prop) : Prop := 
  (s_ct ≤ 0 → P (0 : Int32)) ∧
  (¬ s_ct ≤ 0 → vp_in (s_ct - (1 : Int32)) 10 ∧ (
    ((48 : Int32) < ((s_ln (s_ct - (1 : Int32)).toNatClampNeg) + a1) → P (0 : Int32)) ∧
    (¬ (48 : Int32) < ((s_ln (s_ct - (1 : Int32)).toNatClampNeg) + a1) → P (1 : Int32))))
def wp_S_lacksOne_12 (s_ln s_kd s_vl : Nat → Int32) (s_ct : Int32) (K2 : Int32 → Prop) (P : Int32 → Prop) : Nat → (Int32) → (Int32) → Prop
  | 0, _, _ => False
  | n9 + 1, x1, x2 => vp_in x1 10 ∧ (
    ((s_ln x1.toNatClampNeg) ≤ x2 → K2 (x1 + (1 : Int32))) ∧
    (¬ (s_ln x1.toNatClampNeg) ≤ x2 → ∀ z1 : Int32, z1 = (x1 * (48 : Int32)) + x2 → vp_in z1 480 ∧ (
      ((s_kd z1.toNatClampNeg) = 0 → (wp_S_lacksOne_12 s_ln s_kd s_vl s_ct K2 P n9) x1 (x2 + (1 : Int32))) ∧
      (¬ (s_kd z1.toNatClampNeg) = 0 → vp_in z1 480 ∧ (
        ((s_vl z1.toNatClampNeg) < s_ct → (wp_S_lacksOne_12 s_ln s_kd s_vl s_ct K2 P n9) x1 (x2 + (1 : Int32))) ∧
        (¬ (s_vl z1.toNatClampNeg) < s_ct → P (1 : Int32)))))))
def wp_S_lacksOne_2 (s_ln s_kd s_vl : Nat → Int32) (s_ct : Int32) (P : Int32 → Prop) : Nat → (Int32) → Prop
  | 0, _ => False
  | n9 + 1, x1 => 
    (s_ct ≤ x1 → P (0 : Int32)) ∧
    (¬ s_ct ≤ x1 → ∃ j9 : Nat, wp_S_lacksOne_12 s_ln s_kd s_vl s_ct (wp_S_lacksOne_2 s_ln s_kd s_vl s_ct P n9) P j9 x1 (0 : Int32))
def wp_S_lacksOne (s_ln s_kd s_vl : Nat → Int32) (s_ct : Int32)  (P : Int32 → Prop) : Prop := ∃ j9 : Nat, wp_S_lacksOne_2 s_ln s_kd s_vl s_ct P j9 (0 : Int32)
def wp_S_open (s_bk s_ln : Nat → Int32) (s_ct : Int32) (a1 : Int32) (P : Int32 → (Nat → Int32) → (Nat → Int32) → (Int32) → Prop) : Prop := vp_in s_ct 10 ∧ (vp_in s_ct 10 ∧ (P s_ct (upd s_bk s_ct.toNatClampNeg a1) (upd s_ln s_ct.toNatClampNeg (0 : Int32)) (s_ct + (1 : Int32))))
def wp_S_total_4 (s_ln : Nat → Int32) (s_ct : Int32) (P : Int32 → Prop) : Nat → (Int32) → (Int32) → Prop
  | 0, _, _ => False
  | n9 + 1, x1, x2 => 
    (s_ct ≤ x2 → P x1) ∧
    (¬ s_ct ≤ x2 → vp_in x2 10 ∧ (∀ z1 : Int32, z1 = x1 + (s_ln x2.toNatClampNeg) → (wp_S_total_4 s_ln s_ct P n9) z1 (x2 + (1 : Int32))))
def wp_S_total (s_ln : Nat → Int32) (s_ct : Int32)  (P : Int32 → Prop) : Prop := ∃ j9 : Nat, wp_S_total_4 s_ln s_ct P j9 (0 : Int32) (0 : Int32)
def wp_Q_add_59  (P : Int32 → (Int32) → (Int32) → (Int32) → (Int32) → Prop) (q_zero q_less q_half q_carry x4 x5 y0 : Int32) : Prop := (y0 = 0 ∨ y0 = 1) ∧ (∀ z3 : Int32, z3 = ((x5 - x5 / (16 : Int32) * (16 : Int32)) * (16 : Int32)) + (x4 - x4 / (16 : Int32) * (16 : Int32)) → 
  (¬ z3 = 0 → P z3 (0 : Int32) (0 : Int32) q_half y0) ∧
  (z3 = 0 → P z3 (1 : Int32) (0 : Int32) q_half y0))
def wp_Q_add (q_zero q_less q_half q_carry : Int32) (a1 a2 a3 : Int32) (P : Int32 → (Int32) → (Int32) → (Int32) → (Int32) → Prop) : Prop := ∀ z1 : Int32, z1 = ((a1 - a1 / (16 : Int32) * (16 : Int32)) + (a2 - a2 / (16 : Int32) * (16 : Int32))) + a3 → ∀ z2 : Int32, z2 = ((a1 / (16 : Int32)) + (a2 / (16 : Int32))) + (z1 / (16 : Int32)) → 
  (z1 ≤ (15 : Int32) → 
    (z2 ≤ (15 : Int32) → wp_Q_add_59 P q_zero q_less (0 : Int32) q_carry z1 z2 (0 : Int32)) ∧
    (¬ z2 ≤ (15 : Int32) → wp_Q_add_59 P q_zero q_less (0 : Int32) q_carry z1 z2 (1 : Int32))) ∧
  (¬ z1 ≤ (15 : Int32) → 
    (z2 ≤ (15 : Int32) → wp_Q_add_59 P q_zero q_less (1 : Int32) q_carry z1 z2 (0 : Int32)) ∧
    (¬ z2 ≤ (15 : Int32) → wp_Q_add_59 P q_zero q_less (1 : Int32) q_carry z1 z2 (1 : Int32)))
def wp_Q_adjust_100 (q_less : Int32) (P : (Nat → Int32) → (Int32) → (Int32) → (Int32) → Prop) (q_register : Nat → Int32) (q_zero q_half q_carry x3 y0 y1 : Int32) : Prop := vp_in y1 8 ∧ (
  (¬ ((upd q_register y1.toNatClampNeg (y0 &&& (255 : Int32))) (7 : Int32).toNatClampNeg) = 0 → (x3 = 0 ∨ x3 = 1) ∧ (P (upd q_register y1.toNatClampNeg (y0 &&& (255 : Int32))) (0 : Int32) (0 : Int32) x3)) ∧
  (((upd q_register y1.toNatClampNeg (y0 &&& (255 : Int32))) (7 : Int32).toNatClampNeg) = 0 → (x3 = 0 ∨ x3 = 1) ∧ (P (upd q_register y1.toNatClampNeg (y0 &&& (255 : Int32))) (1 : Int32) (0 : Int32) x3)))
def wp_Q_adjust_77 (q_less : Int32) (P : (Nat → Int32) → (Int32) → (Int32) → (Int32) → Prop) (q_register : Nat → Int32) (q_zero q_half q_carry x1 x3 y0 : Int32) : Prop := 
  (q_less = 0 → wp_Q_adjust_100 q_less P q_register q_zero q_half q_carry x3 (x1 + y0) (7 : Int32)) ∧
  (¬ q_less = 0 → wp_Q_adjust_100 q_less P q_register q_zero q_half q_carry x3 (x1 - y0) (7 : Int32))
def wp_Q_adjust_37 (q_less : Int32) (P : (Nat → Int32) → (Int32) → (Int32) → (Int32) → Prop) (q_register : Nat → Int32) (q_zero q_half q_carry x1 y0 : Int32) : Prop := 
  (¬ q_carry = 0 → wp_Q_adjust_77 q_less P q_register q_zero q_half q_carry x1 (1 : Int32) (y0 + (96 : Int32))) ∧
  (q_carry = 0 → 
    (¬ q_less = 0 → wp_Q_adjust_77 q_less P q_register q_zero q_half q_carry x1 (0 : Int32) y0) ∧
    (q_less = 0 → 
      (x1 ≤ (153 : Int32) → wp_Q_adjust_77 q_less P q_register q_zero q_half q_carry x1 (0 : Int32) y0) ∧
      (¬ x1 ≤ (153 : Int32) → wp_Q_adjust_77 q_less P q_register q_zero q_half q_carry x1 (1 : Int32) (y0 + (96 : Int32)))))
def wp_Q_adjust (q_register : Nat → Int32) (q_zero q_less q_half q_carry : Int32)  (P : (Nat → Int32) → (Int32) → (Int32) → (Int32) → Prop) : Prop := ∀ z1 : Int32, z1 = q_register (7 : Int32).toNatClampNeg → 
  (¬ q_half = 0 → wp_Q_adjust_37 q_less P q_register q_zero q_half q_carry z1 (6 : Int32)) ∧
  (q_half = 0 → 
    (¬ q_less = 0 → wp_Q_adjust_37 q_less P q_register q_zero q_half q_carry z1 (0 : Int32)) ∧
    (q_less = 0 → 
      ((z1 - z1 / (16 : Int32) * (16 : Int32)) ≤ (9 : Int32) → wp_Q_adjust_37 q_less P q_register q_zero q_half q_carry z1 (0 : Int32)) ∧
      (¬ (z1 - z1 / (16 : Int32) * (16 : Int32)) ≤ (9 : Int32) → wp_Q_adjust_37 q_less P q_register q_zero q_half q_carry z1 (6 : Int32))))
def wp_Q_allKnown_17 (q_many : Int32) (q_size q_bytes q_kind : Nat → Int32) (K4 : Int32 → Int32 → Prop) (P : Int32 → Prop) : Nat → (Int32) → (Int32) → (Int32) → Prop
  | 0, _, _, _ => False
  | n9 + 1, x1, x2, x3 => vp_in x2 10 ∧ (
    ((((48 : Int32) * x2) + (q_size x2.toNatClampNeg)) ≤ x3 → K4 x1 (x2 + (1 : Int32))) ∧
    (¬ (((48 : Int32) * x2) + (q_size x2.toNatClampNeg)) ≤ x3 → 
      (x1 = 0 → (wp_Q_allKnown_17 q_many q_size q_bytes q_kind K4 P n9) (0 : Int32) x2 (x3 + (1 : Int32))) ∧
      (¬ x1 = 0 → vp_in x3 480 ∧ (
        ((q_kind x3.toNatClampNeg) = 0 → (wp_Q_allKnown_17 q_many q_size q_bytes q_kind K4 P n9) (1 : Int32) x2 (x3 + (1 : Int32))) ∧
        (¬ (q_kind x3.toNatClampNeg) = 0 → vp_in x3 480 ∧ (
          (q_many ≤ (q_bytes x3.toNatClampNeg) → (wp_Q_allKnown_17 q_many q_size q_bytes q_kind K4 P n9) (0 : Int32) x2 (x3 + (1 : Int32))) ∧
          (¬ q_many ≤ (q_bytes x3.toNatClampNeg) → (wp_Q_allKnown_17 q_many q_size q_bytes q_kind K4 P n9) (1 : Int32) x2 (x3 + (1 : Int32)))))))))
def wp_Q_allKnown_4 (q_many : Int32) (q_size q_bytes q_kind : Nat → Int32) (P : Int32 → Prop) : Nat → (Int32) → (Int32) → Prop
  | 0, _, _ => False
  | n9 + 1, x1, x2 => 
    (q_many ≤ x2 → (x1 = 0 ∨ x1 = 1) ∧ (P x1)) ∧
    (¬ q_many ≤ x2 → ∀ z1 : Int32, z1 = (48 : Int32) * x2 → ∃ j9 : Nat, wp_Q_allKnown_17 q_many q_size q_bytes q_kind (wp_Q_allKnown_4 q_many q_size q_bytes q_kind P n9) P j9 x1 x2 z1)
def wp_Q_allKnown (q_many : Int32) (q_size q_bytes q_kind : Nat → Int32)  (P : Int32 → Prop) : Prop := ∃ j9 : Nat, wp_Q_allKnown_4 q_many q_size q_bytes q_kind P j9 (1 : Int32) (0 : Int32)
def wp_Q_append (q_many : Int32) (q_size q_bytes q_kind : Nat → Int32) (a1 a2 : Int32) (P : (Nat → Int32) → (Nat → Int32) → (Nat → Int32) → Prop) : Prop := ∀ z1 : Int32, z1 = q_many - (1 : Int32) → vp_in z1 10 ∧ (vp_in (((48 : Int32) * z1) + (q_size z1.toNatClampNeg)) 480 ∧ (vp_in z1 10 ∧ (vp_in (((48 : Int32) * z1) + (q_size z1.toNatClampNeg)) 480 ∧ (vp_in z1 10 ∧ (vp_in z1 10 ∧ (P (upd q_size z1.toNatClampNeg ((q_size z1.toNatClampNeg) + (1 : Int32))) (upd q_bytes (((48 : Int32) * z1) + (q_size z1.toNatClampNeg)).toNatClampNeg (a2 &&& (255 : Int32))) (upd q_kind (((48 : Int32) * z1) + (q_size z1.toNatClampNeg)).toNatClampNeg a1)))))))
def wp_Q_begin_39  (P : (Nat → Int32) → (Nat → Int32) → (Int32) → (Int32) → (Int32) → (Int32) → (Int32) → (Int32) → (Int32) → (Int32) → (Int32) → (Int32) → (Int32) → (Int32) → (Int32) → (Int32) → Prop) : Nat → (Nat → Int32) → (Nat → Int32) → (Int32) → (Int32) → (Int32) → (Int32) → (Int32) → (Int32) → (Int32) → (Int32) → (Int32) → (Int32) → (Int32) → (Int32) → (Int32) → (Int32) → (Int32) → Prop
  | 0, _, _, _, _, _, _, _, _, _, _, _, _, _, _, _, _, _ => False
  | n9 + 1, q_memory, q_register, q_stack, q_place, q_zero, q_less, q_half, q_carry, q_enabled, q_soon, q_ram, q_low, q_top, q_mode, q_state, q_sent, x1 => 
    ((8 : Int32) ≤ x1 → P q_memory q_register (240 : Int32) (0 : Int32) (0 : Int32) (0 : Int32) (0 : Int32) (0 : Int32) (0 : Int32) (0 : Int32) (0 : Int32) (1 : Int32) (0 : Int32) (0 : Int32) (0 : Int32) (0 : Int32)) ∧
    (¬ (8 : Int32) ≤ x1 → vp_in x1 8 ∧ ((wp_Q_begin_39 P n9) q_memory (upd q_register x1.toNatClampNeg (0 : Int32)) q_stack q_place q_zero q_less q_half q_carry q_enabled q_soon q_ram q_low q_top q_mode q_state q_sent (x1 + (1 : Int32))))
def wp_Q_begin_4  (P : (Nat → Int32) → (Nat → Int32) → (Int32) → (Int32) → (Int32) → (Int32) → (Int32) → (Int32) → (Int32) → (Int32) → (Int32) → (Int32) → (Int32) → (Int32) → (Int32) → (Int32) → Prop) : Nat → (Nat → Int32) → (Nat → Int32) → (Int32) → (Int32) → (Int32) → (Int32) → (Int32) → (Int32) → (Int32) → (Int32) → (Int32) → (Int32) → (Int32) → (Int32) → (Int32) → (Int32) → (Int32) → Prop
  | 0, _, _, _, _, _, _, _, _, _, _, _, _, _, _, _, _, _ => False
  | n9 + 1, q_memory, q_register, q_stack, q_place, q_zero, q_less, q_half, q_carry, q_enabled, q_soon, q_ram, q_low, q_top, q_mode, q_state, q_sent, x1 => 
    ((705 : Int32) ≤ x1 → ∃ j9 : Nat, wp_Q_begin_39 P j9 q_memory q_register q_stack q_place q_zero q_less q_half q_carry q_enabled q_soon q_ram q_low q_top q_mode q_state q_sent (0 : Int32)) ∧
    (¬ (705 : Int32) ≤ x1 → 
      (¬ x1 = (704 : Int32) → vp_in x1 705 ∧ ((wp_Q_begin_4 P n9) (upd q_memory x1.toNatClampNeg (0 : Int32)) q_register q_stack q_place q_zero q_less q_half q_carry q_enabled q_soon q_ram q_low q_top q_mode q_state q_sent (x1 + (1 : Int32)))) ∧
      (x1 = (704 : Int32) → vp_in x1 705 ∧ ((wp_Q_begin_4 P n9) (upd q_memory x1.toNatClampNeg (255 : Int32)) q_register q_stack q_place q_zero q_less q_half q_carry q_enabled q_soon q_ram q_low q_top q_mode q_state q_sent (x1 + (1 : Int32)))))
def wp_Q_begin (q_memory q_register : Nat → Int32) (q_stack q_place q_zero q_less q_half q_carry q_enabled q_soon q_ram q_low q_top q_mode q_state q_sent : Int32)  (P : (Nat → Int32) → (Nat → Int32) → (Int32) → (Int32) → (Int32) → (Int32) → (Int32) → (Int32) → (Int32) → (Int32) → (Int32) → (Int32) → (Int32) → (Int32) → (Int32) → (Int32) → Prop) : Prop := ∃ j9 : Nat, wp_Q_begin_4 P j9 q_memory q_register q_stack q_place q_zero q_less q_half q_carry q_enabled q_soon q_ram q_low q_top q_mode q_state q_sent (512 : Int32)
def wp_Q_clear (q_code q_many : Int32)  (P : (Int32) → (Int32) → Prop) : Prop := P (0 : Int32) (0 : Int32)
def wp_Q_headCheck_4 (q_memory : Nat → Int32) (P : Int32 → Prop) : Nat → (Int32) → (Int32) → Prop
  | 0, _, _ => False
  | n9 + 1, x1, x2 => 
    ((13 : Int32) ≤ x2 → P ((-x1) &&& (255 : Int32))) ∧
    (¬ (13 : Int32) ≤ x2 → vp_in x2 705 ∧ (∀ z1 : Int32, z1 = x1 + ((q_memory x2.toNatClampNeg) + (1 : Int32)) → (wp_Q_headCheck_4 q_memory P n9) z1 (x2 + (1 : Int32))))
def wp_Q_headCheck (q_memory : Nat → Int32)  (P : Int32 → Prop) : Prop := ∃ j9 : Nat, wp_Q_headCheck_4 q_memory P j9 (0 : Int32) (2 : Int32)
def wp_Q_holds_28 (q_zero q_carry : Int32) (P : Int32 → Prop) (x1 : Int32) : Prop := 
  (¬ x1 = (3 : Int32) → 
    (¬ x1 = (4 : Int32) → P (0 : Int32)) ∧
    (x1 = (4 : Int32) → 
      (q_carry = 0 → P (0 : Int32)) ∧
      (¬ q_carry = 0 → P (1 : Int32)))) ∧
  (x1 = (3 : Int32) → 
    (q_carry = 0 → P (1 : Int32)) ∧
    (¬ q_carry = 0 → 
      (¬ x1 = (4 : Int32) → P (0 : Int32)) ∧
      (x1 = (4 : Int32) → 
        (q_carry = 0 → P (0 : Int32)) ∧
        (¬ q_carry = 0 → P (1 : Int32)))))
def wp_Q_holds (q_zero q_carry : Int32) (a1 : Int32) (P : Int32 → Prop) : Prop := 
  (a1 = 0 → P (1 : Int32)) ∧
  (¬ a1 = 0 → 
    (¬ a1 = (1 : Int32) → 
      (¬ a1 = (2 : Int32) → wp_Q_holds_28 q_zero q_carry P a1) ∧
      (a1 = (2 : Int32) → 
        (¬ q_zero = 0 → P (1 : Int32)) ∧
        (q_zero = 0 → wp_Q_holds_28 q_zero q_carry P a1))) ∧
    (a1 = (1 : Int32) → 
      (q_zero = 0 → P (1 : Int32)) ∧
      (¬ q_zero = 0 → 
        (¬ a1 = (2 : Int32) → wp_Q_holds_28 q_zero q_carry P a1) ∧
        (a1 = (2 : Int32) → 
          (¬ q_zero = 0 → P (1 : Int32)) ∧
          (q_zero = 0 → wp_Q_holds_28 q_zero q_carry P a1)))))
def wp_Q_imageCheck_19 (q_banks : Int32) (q_memory : Nat → Int32) (P : Int32 → Prop) : Nat → (Int32) → (Int32) → Prop
  | 0, _, _ => False
  | n9 + 1, x1, x2 => 
    (((64 : Int32) * q_banks) ≤ x2 → P (x1 &&& (65535 : Int32))) ∧
    (¬ ((64 : Int32) * q_banks) ≤ x2 → vp_in x2 705 ∧ (∀ z2 : Int32, z2 = x1 + (q_memory x2.toNatClampNeg) → (wp_Q_imageCheck_19 q_banks q_memory P n9) z2 (x2 + (1 : Int32))))
def wp_Q_imageCheck (q_banks : Int32) (q_memory : Nat → Int32)  (P : Int32 → Prop) : Prop := ∀ z1 : Int32, z1 = (-(q_memory (14 : Int32).toNatClampNeg)) - (q_memory (15 : Int32).toNatClampNeg) → ∃ j9 : Nat, wp_Q_imageCheck_19 q_banks q_memory P j9 z1 (0 : Int32)
def wp_Q_mark (q_banks : Int32) (a1 : Int32) (P : Int32 → Prop) : Prop := 
  (¬ a1 = (2 : Int32) → 
    (¬ a1 = (3 : Int32) → 
      (¬ a1 = (4 : Int32) → 
        (¬ a1 = (5 : Int32) → 
          (¬ q_banks = (2 : Int32) → 
            (¬ q_banks = (4 : Int32) → P (2 : Int32)) ∧
            (q_banks = (4 : Int32) → P (1 : Int32))) ∧
          (q_banks = (2 : Int32) → P (0 : Int32))) ∧
        (a1 = (5 : Int32) → P (204 : Int32))) ∧
      (a1 = (4 : Int32) → P (102 : Int32))) ∧
    (a1 = (3 : Int32) → P (237 : Int32))) ∧
  (a1 = (2 : Int32) → P (206 : Int32))
def wp_Q_outside  (a0 a1 a2 : Int32) (P : Int32 → Prop) : Prop := 
  (a0 < a1 → P (1 : Int32)) ∧
  (¬ a0 < a1 → 
    (a0 ≤ a2 → P (0 : Int32)) ∧
    (¬ a0 ≤ a2 → P (1 : Int32)))
def wp_Q_plain (q_zero q_less q_half q_carry : Int32) (a1 a2 : Int32) (P : Int32 → (Int32) → (Int32) → (Int32) → (Int32) → Prop) : Prop := 
  (¬ a1 = 0 → (a2 = 0 ∨ a2 = 1) ∧ (P a1 (0 : Int32) (0 : Int32) a2 (0 : Int32))) ∧
  (a1 = 0 → (a2 = 0 ∨ a2 = 1) ∧ (P a1 (1 : Int32) (0 : Int32) a2 (0 : Int32)))
def wp_Q_put_53 (q_size : Nat → Int32) (P : Int32 → (Nat → Int32) → (Nat → Int32) → (Nat → Int32) → Prop) (q_bank q_address q_full : Nat → Int32) (x1 x2 y0 y1 y2 : Int32) : Prop := vp_in y2 10 ∧ (vp_in x2 8 ∧ (vp_in x1 10 ∧ (vp_in x2 8 ∧ (P (1 : Int32) q_bank (upd q_address y2.toNatClampNeg (y1 + y0)) (upd q_full x2.toNatClampNeg ((q_full x2.toNatClampNeg) + (q_size x1.toNatClampNeg)))))))
def wp_Q_put (q_size q_bank q_address q_full : Nat → Int32) (a1 a2 a3 : Int32) (P : Int32 → (Nat → Int32) → (Nat → Int32) → (Nat → Int32) → Prop) : Prop := 
  (a3 ≤ a2 → P (0 : Int32) q_bank q_address q_full) ∧
  (¬ a3 ≤ a2 → vp_in a2 8 ∧ (vp_in a1 10 ∧ (
    (((q_full a2.toNatClampNeg) + (q_size a1.toNatClampNeg)) ≤ (64 : Int32) → vp_in a1 10 ∧ (vp_in a2 8 ∧ (
      (a2 ≤ 0 → wp_Q_put_53 q_size P (upd q_bank a1.toNatClampNeg a2) q_address q_full a1 a2 (0 : Int32) (q_full a2.toNatClampNeg) a1) ∧
      (¬ a2 ≤ 0 → wp_Q_put_53 q_size P (upd q_bank a1.toNatClampNeg a2) q_address q_full a1 a2 (64 : Int32) (q_full a2.toNatClampNeg) a1)))) ∧
    (¬ ((q_full a2.toNatClampNeg) + (q_size a1.toNatClampNeg)) ≤ (64 : Int32) → P (0 : Int32) q_bank q_address q_full))))
def wp_Q_refuse (q_code : Int32) (a1 : Int32) (P : Int32 → (Int32) → Prop) : Prop := P (0 : Int32) a1
def wp_Q_room (q_many : Int32) (q_size : Nat → Int32) (a1 : Int32) (P : Int32 → Prop) : Prop := 
  (q_many ≤ 0 → P (0 : Int32)) ∧
  (¬ q_many ≤ 0 → vp_in (q_many - (1 : Int32)) 10 ∧ (
    ((48 : Int32) < ((q_size (q_many - (1 : Int32)).toNatClampNeg) + a1) → P (0 : Int32)) ∧
    (¬ (48 : Int32) < ((q_size (q_many - (1 : Int32)).toNatClampNeg) + a1) → P (1 : Int32))))
def wp_Q_sent (q_code q_sent : Int32)  (P : Int32 → (Int32) → Prop) : Prop := P q_sent (0 : Int32)
def wp_Q_stand (q_place q_state : Int32) (a1 : Int32) (P : (Int32) → (Int32) → Prop) : Prop := P ((q_place + (255 : Int32)) - (q_place + (255 : Int32)) / (256 : Int32) * (256 : Int32)) a1
def wp_Q_state (q_code q_state : Int32)  (P : Int32 → (Int32) → Prop) : Prop := P q_state (0 : Int32)
def wp_Q_take_62  (P : Int32 → (Int32) → (Int32) → (Int32) → (Int32) → Prop) (q_zero q_less q_half q_carry x4 x5 y0 : Int32) : Prop := (y0 = 0 ∨ y0 = 1) ∧ (∀ z4 : Int32, z4 = (((x5 + (16 : Int32)) - (x5 + (16 : Int32)) / (16 : Int32) * (16 : Int32)) * (16 : Int32)) + ((x4 + (16 : Int32)) - (x4 + (16 : Int32)) / (16 : Int32) * (16 : Int32)) → 
  (¬ z4 = 0 → P z4 (0 : Int32) (1 : Int32) q_half y0) ∧
  (z4 = 0 → P z4 (1 : Int32) (1 : Int32) q_half y0))
def wp_Q_take_24  (P : Int32 → (Int32) → (Int32) → (Int32) → (Int32) → Prop) (q_zero q_less q_half q_carry x1 x2 x4 y0 : Int32) : Prop := (y0 = 0 ∨ y0 = 1) ∧ (
  (y0 = 0 → ∀ z2 : Int32, z2 = ((x1 / (16 : Int32)) - (x2 / (16 : Int32))) - (0 : Int32) → 
    (0 ≤ z2 → wp_Q_take_62 P q_zero q_less y0 q_carry x4 z2 (0 : Int32)) ∧
    (¬ 0 ≤ z2 → wp_Q_take_62 P q_zero q_less y0 q_carry x4 z2 (1 : Int32))) ∧
  (¬ y0 = 0 → ∀ z3 : Int32, z3 = ((x1 / (16 : Int32)) - (x2 / (16 : Int32))) - (1 : Int32) → 
    (0 ≤ z3 → wp_Q_take_62 P q_zero q_less y0 q_carry x4 z3 (0 : Int32)) ∧
    (¬ 0 ≤ z3 → wp_Q_take_62 P q_zero q_less y0 q_carry x4 z3 (1 : Int32))))
def wp_Q_take (q_zero q_less q_half q_carry : Int32) (a1 a2 a3 : Int32) (P : Int32 → (Int32) → (Int32) → (Int32) → (Int32) → Prop) : Prop := ∀ z1 : Int32, z1 = ((a1 - a1 / (16 : Int32) * (16 : Int32)) - (a2 - a2 / (16 : Int32) * (16 : Int32))) - a3 → 
  (0 ≤ z1 → wp_Q_take_24 P q_zero q_less q_half q_carry a1 a2 z1 (0 : Int32)) ∧
  (¬ 0 ≤ z1 → wp_Q_take_24 P q_zero q_less q_half q_carry a1 a2 z1 (1 : Int32))
def wp_Q_thrown (q_code : Int32)  (P : Int32 → Prop) : Prop := P q_code
def wp_Q_where (q_banks q_ram q_low q_top q_mode : Int32) (a1 : Int32) (P : Int32 → Prop) : Prop := 
  ((64 : Int32) ≤ a1 → 
    ((128 : Int32) ≤ a1 → 
      ((192 : Int32) ≤ a1 → P (((640 : Int32) + a1) - (192 : Int32))) ∧
      (¬ (192 : Int32) ≤ a1 → 
        (¬ q_ram = 0 → 
          (¬ q_mode = (1 : Int32) → P ((((512 : Int32) + a1) - (128 : Int32)) + (0 : Int32))) ∧
          (q_mode = (1 : Int32) → P ((((512 : Int32) + a1) - (128 : Int32)) + ((64 : Int32) * q_top)))) ∧
        (q_ram = 0 → P (704 : Int32)))) ∧
    (¬ (128 : Int32) ≤ a1 → ¬ q_banks = 0 ∧ (P ((((64 : Int32) * ((((4 : Int32) * q_top) + q_low) - (((4 : Int32) * q_top) + q_low) / q_banks * q_banks)) + a1) - (64 : Int32))))) ∧
  (¬ (64 : Int32) ≤ a1 → 
    (¬ q_mode = (1 : Int32) → P a1) ∧
    (q_mode = (1 : Int32) → ¬ q_banks = 0 ∧ (P (((64 : Int32) * (((4 : Int32) * q_top) - ((4 : Int32) * q_top) / q_banks * q_banks)) + a1))))
def wp_D_bytes_41 (s_ct : Int32) (P : (Nat → Int32) → (Nat → Int32) → (Nat → Int32) → Prop) (PX : Nat → (Nat → Int32) → (Nat → Int32) → (Nat → Int32) → Prop) : Nat → (Nat → Int32) → (Nat → Int32) → (Nat → Int32) → (Int32) → (Int32) → Prop
  | 0, _, _, _, _, _ => False
  | n9 + 1, s_ln, s_kd, s_vl, x1, x3 => 
    (x3 < 0 → P s_ln s_kd s_vl) ∧
    (¬ x3 < 0 → wp_S_append s_ln s_kd s_vl s_ct (0 : Int32) ((x1 >>> (((8 : Int32) * x3) &&& 31)) &&& (255 : Int32)) (fun w3 w4 w5 => (wp_D_bytes_41 s_ct P PX n9) w3 w4 w5 x1 (x3 + (-1 : Int32))))
def wp_D_bytes (s_ln s_kd s_vl : Nat → Int32) (s_ct : Int32) (a1 a2 : Int32) (P : (Nat → Int32) → (Nat → Int32) → (Nat → Int32) → Prop) (PX : Nat → (Nat → Int32) → (Nat → Int32) → (Nat → Int32) → Prop) : Prop := 
  (a2 < (1 : Int32) → PX 1 s_ln s_kd s_vl) ∧
  (¬ a2 < (1 : Int32) → 
    (a2 ≤ (4 : Int32) → wp_S_canTake s_ln s_ct a2 (fun r1 => 
      (¬ r1 = 0 → ∀ z2 : Int32, z2 = a2 - (1 : Int32) → ∃ j9 : Nat, wp_D_bytes_41 s_ct P PX j9 s_ln s_kd s_vl a1 z2) ∧
      (r1 = 0 → PX 2 s_ln s_kd s_vl))) ∧
    (¬ a2 ≤ (4 : Int32) → PX 1 s_ln s_kd s_vl))
def wp_D_image (k_ce : Nat → Int32) (k_bc : Int32) (a1 : Int32) (P : Int32 → Prop) (PX : Nat → Prop) : Prop := 
  (a1 < 0 → PX 3) ∧
  (¬ a1 < 0 → wp_K_size k_bc (fun r1 => 
    (a1 < r1 → vp_in a1 512 ∧ (P (k_ce a1.toNatClampNeg))) ∧
    (¬ a1 < r1 → PX 3)))
def wp_D_mended_15 (s_ct : Int32) (P : (Nat → Int32) → (Nat → Int32) → (Nat → Int32) → Prop) (PX : Nat → (Nat → Int32) → (Nat → Int32) → (Nat → Int32) → Prop) (s_ln s_kd s_vl : Nat → Int32) (x1 x2 y0 : Int32) : Prop := 
  (y0 = 0 → PX 1 s_ln s_kd s_vl) ∧
  (¬ y0 = 0 → 
    (x2 < 0 → PX 1 s_ln s_kd s_vl) ∧
    (¬ x2 < 0 → 
      (x2 < (10 : Int32) → wp_S_canTake s_ln s_ct (1 : Int32) (fun r1 => 
        (¬ r1 = 0 → wp_S_append s_ln s_kd s_vl s_ct x1 x2 (fun w2 w3 w4 => P w2 w3 w4)) ∧
        (r1 = 0 → PX 2 s_ln s_kd s_vl))) ∧
      (¬ x2 < (10 : Int32) → PX 1 s_ln s_kd s_vl)))
def wp_D_mended (s_ln s_kd s_vl : Nat → Int32) (s_ct : Int32) (a1 a2 : Int32) (P : (Nat → Int32) → (Nat → Int32) → (Nat → Int32) → Prop) (PX : Nat → (Nat → Int32) → (Nat → Int32) → (Nat → Int32) → Prop) : Prop := 
  (a1 = (1 : Int32) → wp_D_mended_15 s_ct P PX s_ln s_kd s_vl a1 a2 (1 : Int32)) ∧
  (¬ a1 = (1 : Int32) → 
    (¬ a1 = (2 : Int32) → wp_D_mended_15 s_ct P PX s_ln s_kd s_vl a1 a2 (0 : Int32)) ∧
    (a1 = (2 : Int32) → wp_D_mended_15 s_ct P PX s_ln s_kd s_vl a1 a2 (1 : Int32)))
def wp_D_packed (l_bk l_of : Nat → Int32) (l_ct : Int32) (a1 a2 : Int32) (P : Int32 → Prop) (PX : Nat → Prop) : Prop := 
  (a1 < 0 → PX 3) ∧
  (¬ a1 < 0 → 
    (l_ct ≤ a1 → PX 3) ∧
    (¬ l_ct ≤ a1 → 
      (a2 < 0 → PX 3) ∧
      (¬ a2 < 0 → 
        (a2 ≤ (1 : Int32) → 
          (¬ a2 = 0 → wp_P_addressOf l_bk l_of a1 (fun r1 => P r1)) ∧
          (a2 = 0 → vp_in a1 10 ∧ (P (l_bk a1.toNatClampNeg)))) ∧
        (¬ a2 ≤ (1 : Int32) → PX 3))))
def wp_D_section (s_bk s_ln : Nat → Int32) (s_ct : Int32) (a1 : Int32) (P : Int32 → (Nat → Int32) → (Nat → Int32) → (Int32) → Prop) (PX : Nat → (Nat → Int32) → (Nat → Int32) → (Int32) → Prop) : Prop := 
  (a1 < (-1 : Int32) → PX 1 s_bk s_ln s_ct) ∧
  (¬ a1 < (-1 : Int32) → 
    (a1 < (8 : Int32) → 
      (s_ct < (10 : Int32) → wp_S_open s_bk s_ln s_ct a1 (fun r1 w2 w3 w4 => P r1 w2 w3 w4)) ∧
      (¬ s_ct < (10 : Int32) → PX 2 s_bk s_ln s_ct)) ∧
    (¬ a1 < (8 : Int32) → PX 1 s_bk s_ln s_ct))
def wp_D_spoil (k_ce : Nat → Int32) (k_bc : Int32) (a1 a2 : Int32) (P : (Nat → Int32) → Prop) (PX : Nat → (Nat → Int32) → Prop) : Prop := 
  (a1 < 0 → PX 3 k_ce) ∧
  (¬ a1 < 0 → wp_K_size k_bc (fun r1 => 
    (a1 < r1 → vp_in a1 512 ∧ (P (upd k_ce a1.toNatClampNeg (a2 &&& (255 : Int32))))) ∧
    (¬ a1 < r1 → PX 3 k_ce)))
def wp_K_imageCheck_4 (k_ce : Nat → Int32) (k_bc : Int32) (P : Int32 → Prop) : Nat → (Int32) → (Int32) → Prop
  | 0, _, _ => False
  | n9 + 1, x1, x2 => wp_K_size k_bc (fun r1 => 
    (r1 ≤ x2 → P (x1 &&& (65535 : Int32))) ∧
    (¬ r1 ≤ x2 → 
      (x2 = (14 : Int32) → (wp_K_imageCheck_4 k_ce k_bc P n9) x1 (x2 + (1 : Int32))) ∧
      (¬ x2 = (14 : Int32) → 
        (x2 = (15 : Int32) → (wp_K_imageCheck_4 k_ce k_bc P n9) x1 (x2 + (1 : Int32))) ∧
        (¬ x2 = (15 : Int32) → vp_in x2 512 ∧ (∀ z2 : Int32, z2 = x1 + (k_ce x2.toNatClampNeg) → (wp_K_imageCheck_4 k_ce k_bc P n9) z2 (x2 + (1 : Int32)))))))
def wp_K_imageCheck (k_ce : Nat → Int32) (k_bc : Int32)  (P : Int32 → Prop) : Prop := ∃ j9 : Nat, wp_K_imageCheck_4 k_ce k_bc P j9 (0 : Int32) (0 : Int32)
def wp_K_lay_27 (s_ln s_kd s_vl l_bk l_of : Nat → Int32) (P : (Nat → Int32) → Prop) : Nat → (Nat → Int32) → (Int32) → (Int32) → (Int32) → (Int32) → Prop
  | 0, _, _, _, _, _ => False
  | n9 + 1, k_ce, x3, x4, x5, x6 => vp_in x3 10 ∧ (
    ((s_ln x3.toNatClampNeg) ≤ x6 → P k_ce) ∧
    (¬ (s_ln x3.toNatClampNeg) ≤ x6 → vp_in (x4 + x6) 480 ∧ (∀ z3 : Int32, z3 = s_vl (x4 + x6).toNatClampNeg → vp_in (x4 + x6) 480 ∧ (∀ z4 : Int32, z4 = s_kd (x4 + x6).toNatClampNeg → 
      (¬ z4 = (1 : Int32) → 
        (¬ z4 = (2 : Int32) → vp_in (x5 + x6) 512 ∧ ((wp_K_lay_27 s_ln s_kd s_vl l_bk l_of P n9) (upd k_ce (x5 + x6).toNatClampNeg z3) x3 x4 x5 (x6 + (1 : Int32)))) ∧
        (z4 = (2 : Int32) → vp_in z3 10 ∧ (∀ z5 : Int32, z5 = l_bk z3.toNatClampNeg → vp_in (x5 + x6) 512 ∧ ((wp_K_lay_27 s_ln s_kd s_vl l_bk l_of P n9) (upd k_ce (x5 + x6).toNatClampNeg z5) x3 x4 x5 (x6 + (1 : Int32)))))) ∧
      (z4 = (1 : Int32) → wp_P_addressOf l_bk l_of z3 (fun r6 => vp_in (x5 + x6) 512 ∧ ((wp_K_lay_27 s_ln s_kd s_vl l_bk l_of P n9) (upd k_ce (x5 + x6).toNatClampNeg r6) x3 x4 x5 (x6 + (1 : Int32)))))))))
def wp_K_lay (s_ln s_kd s_vl k_ce l_bk l_of : Nat → Int32) (a3 : Int32) (P : (Nat → Int32) → Prop) : Prop := ∀ z1 : Int32, z1 = a3 * (48 : Int32) → vp_in a3 10 ∧ (vp_in a3 10 ∧ (∀ z2 : Int32, z2 = ((l_bk a3.toNatClampNeg) * (64 : Int32)) + (l_of a3.toNatClampNeg) → ∃ j9 : Nat, wp_K_lay_27 s_ln s_kd s_vl l_bk l_of P j9 k_ce a3 z1 z2 (0 : Int32)))
def wp_N_adjust_92  (P : (Nat → Int32) → (Int32) → (Int32) → (Int32) → (Int32) → Prop) (n_rg : Nat → Int32) (n_z n_n n_h n_c x2 y0 y1 : Int32) : Prop := vp_in y1 8 ∧ (
  (¬ ((upd n_rg y1.toNatClampNeg (y0 &&& (255 : Int32))) (7 : Int32).toNatClampNeg) = 0 → wp_N_setFlags n_z n_n n_h n_c (0 : Int32) n_n (0 : Int32) x2 (fun w2 w3 w4 w5 => P (upd n_rg y1.toNatClampNeg (y0 &&& (255 : Int32))) w2 w3 w4 w5)) ∧
  (((upd n_rg y1.toNatClampNeg (y0 &&& (255 : Int32))) (7 : Int32).toNatClampNeg) = 0 → wp_N_setFlags n_z n_n n_h n_c (1 : Int32) n_n (0 : Int32) x2 (fun w6 w7 w8 w9 => P (upd n_rg y1.toNatClampNeg (y0 &&& (255 : Int32))) w6 w7 w8 w9)))
def wp_N_adjust_70  (P : (Nat → Int32) → (Int32) → (Int32) → (Int32) → (Int32) → Prop) (n_rg : Nat → Int32) (n_z n_n n_h n_c x1 x2 x3 : Int32) : Prop := 
  (n_n = 0 → wp_N_adjust_92 P n_rg n_z n_n n_h n_c x2 (x1 + x3) (7 : Int32)) ∧
  (¬ n_n = 0 → wp_N_adjust_92 P n_rg n_z n_n n_h n_c x2 (x1 - x3) (7 : Int32))
def wp_N_adjust_34  (P : (Nat → Int32) → (Int32) → (Int32) → (Int32) → (Int32) → Prop) (n_rg : Nat → Int32) (n_z n_n n_h n_c x1 y0 : Int32) : Prop := 
  (¬ n_h = 0 → 
    (y0 = 0 → wp_N_adjust_70 P n_rg n_z n_n n_h n_c x1 y0 (6 : Int32)) ∧
    (¬ y0 = 0 → wp_N_adjust_70 P n_rg n_z n_n n_h n_c x1 y0 ((6 : Int32) + (96 : Int32)))) ∧
  (n_h = 0 → 
    (¬ n_n = 0 → 
      (y0 = 0 → wp_N_adjust_70 P n_rg n_z n_n n_h n_c x1 y0 (0 : Int32)) ∧
      (¬ y0 = 0 → wp_N_adjust_70 P n_rg n_z n_n n_h n_c x1 y0 ((0 : Int32) + (96 : Int32)))) ∧
    (n_n = 0 → 
      ((x1 &&& (15 : Int32)) ≤ (9 : Int32) → 
        (y0 = 0 → wp_N_adjust_70 P n_rg n_z n_n n_h n_c x1 y0 (0 : Int32)) ∧
        (¬ y0 = 0 → wp_N_adjust_70 P n_rg n_z n_n n_h n_c x1 y0 ((0 : Int32) + (96 : Int32)))) ∧
      (¬ (x1 &&& (15 : Int32)) ≤ (9 : Int32) → 
        (y0 = 0 → wp_N_adjust_70 P n_rg n_z n_n n_h n_c x1 y0 (6 : Int32)) ∧
        (¬ y0 = 0 → wp_N_adjust_70 P n_rg n_z n_n n_h n_c x1 y0 ((6 : Int32) + (96 : Int32))))))
def wp_N_adjust (n_rg : Nat → Int32) (n_z n_n n_h n_c : Int32)  (P : (Nat → Int32) → (Int32) → (Int32) → (Int32) → (Int32) → Prop) : Prop := ∀ z1 : Int32, z1 = n_rg (7 : Int32).toNatClampNeg → 
  (¬ n_c = 0 → wp_N_adjust_34 P n_rg n_z n_n n_h n_c z1 (1 : Int32)) ∧
  (n_c = 0 → 
    (¬ n_n = 0 → wp_N_adjust_34 P n_rg n_z n_n n_h n_c z1 (0 : Int32)) ∧
    (n_n = 0 → 
      (z1 ≤ (153 : Int32) → wp_N_adjust_34 P n_rg n_z n_n n_h n_c z1 (0 : Int32)) ∧
      (¬ z1 ≤ (153 : Int32) → wp_N_adjust_34 P n_rg n_z n_n n_h n_c z1 (1 : Int32))))
def wp_N_begin_2  (P : (Nat → Int32) → (Nat → Int32) → (Int32) → (Int32) → (Int32) → (Int32) → (Int32) → (Int32) → (Nat → Int32) → (Int32) → (Int32) → (Int32) → (Int32) → (Int32) → (Int32) → (Int32) → (Int32) → (Int32) → (Int32) → Prop) : Nat → (Nat → Int32) → (Nat → Int32) → (Int32) → (Int32) → (Int32) → (Int32) → (Int32) → (Int32) → (Nat → Int32) → (Int32) → (Int32) → (Int32) → (Int32) → (Int32) → (Int32) → (Int32) → (Int32) → (Int32) → (Int32) → (Int32) → Prop
  | 0, _, _, _, _, _, _, _, _, _, _, _, _, _, _, _, _, _, _, _, _ => False
  | n9 + 1, m_ra, m_up, m_on, m_lo, m_hi, m_mo, m_ma, m_li, n_rg, n_st, n_pl, n_z, n_n, n_h, n_c, n_en, n_so, n_co, n_sc, x1 => 
    ((8 : Int32) ≤ x1 → wp_N_setFlags n_z n_n n_h n_c (0 : Int32) (0 : Int32) (0 : Int32) (0 : Int32) (fun w1 w2 w3 w4 => wp_M_begin m_ra m_up m_on m_lo m_hi m_mo m_ma m_li (fun w5 w6 w7 w8 w9 w10 w11 w12 => P w5 w6 w7 w8 w9 w10 w11 w12 n_rg (240 : Int32) (0 : Int32) w1 w2 w3 w4 (0 : Int32) (0 : Int32) (0 : Int32) (0 : Int32)))) ∧
    (¬ (8 : Int32) ≤ x1 → vp_in x1 8 ∧ ((wp_N_begin_2 P n9) m_ra m_up m_on m_lo m_hi m_mo m_ma m_li (upd n_rg x1.toNatClampNeg (0 : Int32)) n_st n_pl n_z n_n n_h n_c n_en n_so n_co n_sc (x1 + (1 : Int32))))
def wp_N_begin (m_ra m_up : Nat → Int32) (m_on m_lo m_hi m_mo m_ma m_li : Int32) (n_rg : Nat → Int32) (n_st n_pl n_z n_n n_h n_c n_en n_so n_co n_sc : Int32)  (P : (Nat → Int32) → (Nat → Int32) → (Int32) → (Int32) → (Int32) → (Int32) → (Int32) → (Int32) → (Nat → Int32) → (Int32) → (Int32) → (Int32) → (Int32) → (Int32) → (Int32) → (Int32) → (Int32) → (Int32) → (Int32) → Prop) : Prop := ∃ j9 : Nat, wp_N_begin_2 P j9 m_ra m_up m_on m_lo m_hi m_mo m_ma m_li n_rg n_st n_pl n_z n_n n_h n_c n_en n_so n_co n_sc (0 : Int32)
def wp_N_comesIn (n_c : Int32) (a1 a2 a3 : Int32) (P : Int32 → Prop) : Prop := 
  (a1 = (0 : Int32) → P a3) ∧
  (a1 = (1 : Int32) → P a3) ∧
  (a1 = (2 : Int32) → wp_N_carryBit n_c (fun r1 => P r1)) ∧
  (a1 = (3 : Int32) → wp_N_carryBit n_c (fun r2 => P r2)) ∧
  (a1 = (4 : Int32) → P (0 : Int32)) ∧
  (a1 = (5 : Int32) → P (a2 >>> ((7 : Int32) &&& 31))) ∧
  (¬ a1 = (0 : Int32) → ¬ a1 = (1 : Int32) → ¬ a1 = (2 : Int32) → ¬ a1 = (3 : Int32) → ¬ a1 = (4 : Int32) → ¬ a1 = (5 : Int32) → P (0 : Int32))
def wp_N_difference_54 (n_rg : Nat → Int32) (P : Int32 → (Int32) → (Int32) → (Int32) → (Int32) → Prop) (n_z n_n n_h n_c x4 y0 y1 y2 : Int32) : Prop := 
  (0 ≤ x4 → wp_N_setFlags n_z n_n n_h n_c y2 y1 y0 (0 : Int32) (fun w4 w5 w6 w7 => P (x4 &&& (255 : Int32)) w4 w5 w6 w7)) ∧
  (¬ 0 ≤ x4 → wp_N_setFlags n_z n_n n_h n_c y2 y1 y0 (1 : Int32) (fun w8 w9 w10 w11 => P (x4 &&& (255 : Int32)) w8 w9 w10 w11))
def wp_N_difference (n_rg : Nat → Int32) (n_z n_n n_h n_c : Int32) (a1 a2 : Int32) (P : Int32 → (Int32) → (Int32) → (Int32) → (Int32) → Prop) : Prop := ∀ z1 : Int32, z1 = n_rg (7 : Int32).toNatClampNeg → ∀ z2 : Int32, z2 = (z1 - a1) - a2 → ∀ z3 : Int32, z3 = ((z1 &&& (15 : Int32)) - (a1 &&& (15 : Int32))) - a2 → 
  (¬ (z2 &&& (255 : Int32)) = 0 → 
    (0 ≤ z3 → wp_N_difference_54 n_rg P n_z n_n n_h n_c z2 (0 : Int32) (1 : Int32) (0 : Int32)) ∧
    (¬ 0 ≤ z3 → wp_N_difference_54 n_rg P n_z n_n n_h n_c z2 (1 : Int32) (1 : Int32) (0 : Int32))) ∧
  ((z2 &&& (255 : Int32)) = 0 → 
    (0 ≤ z3 → wp_N_difference_54 n_rg P n_z n_n n_h n_c z2 (0 : Int32) (1 : Int32) (1 : Int32)) ∧
    (¬ 0 ≤ z3 → wp_N_difference_54 n_rg P n_z n_n n_h n_c z2 (1 : Int32) (1 : Int32) (1 : Int32)))
def wp_N_exchanged_10  (P : Int32 → (Int32) → (Int32) → (Int32) → (Int32) → Prop) (n_z n_n n_h n_c x1 y0 : Int32) : Prop := wp_N_setFlags n_z n_n n_h n_c y0 (0 : Int32) (0 : Int32) (0 : Int32) (fun w1 w2 w3 w4 => P (((x1 <<< ((4 : Int32) &&& 31)) &&& (240 : Int32)) ||| (x1 >>> ((4 : Int32) &&& 31))) w1 w2 w3 w4)
def wp_N_exchanged (n_z n_n n_h n_c : Int32) (a1 : Int32) (P : Int32 → (Int32) → (Int32) → (Int32) → (Int32) → Prop) : Prop := 
  (¬ a1 = 0 → wp_N_exchanged_10 P n_z n_n n_h n_c a1 (0 : Int32)) ∧
  (a1 = 0 → wp_N_exchanged_10 P n_z n_n n_h n_c a1 (1 : Int32))
def wp_N_oneLess_18  (P : Int32 → (Int32) → (Int32) → (Int32) → (Int32) → Prop) (n_z n_n n_h n_c x1 x2 y0 : Int32) : Prop := 
  (¬ (x1 &&& (15 : Int32)) = 0 → wp_N_setFlags n_z n_n n_h n_c y0 (1 : Int32) (0 : Int32) n_c (fun w2 w3 w4 w5 => P x2 w2 w3 w4 w5)) ∧
  ((x1 &&& (15 : Int32)) = 0 → wp_N_setFlags n_z n_n n_h n_c y0 (1 : Int32) (1 : Int32) n_c (fun w6 w7 w8 w9 => P x2 w6 w7 w8 w9))
def wp_N_oneLess (n_z n_n n_h n_c : Int32) (a1 : Int32) (P : Int32 → (Int32) → (Int32) → (Int32) → (Int32) → Prop) : Prop := ∀ z1 : Int32, z1 = (a1 - (1 : Int32)) &&& (255 : Int32) → 
  (¬ z1 = 0 → wp_N_oneLess_18 P n_z n_n n_h n_c a1 z1 (0 : Int32)) ∧
  (z1 = 0 → wp_N_oneLess_18 P n_z n_n n_h n_c a1 z1 (1 : Int32))
def wp_N_oneMore_18  (P : Int32 → (Int32) → (Int32) → (Int32) → (Int32) → Prop) (n_z n_n n_h n_c x2 y0 : Int32) : Prop := 
  (¬ (x2 &&& (15 : Int32)) = 0 → wp_N_setFlags n_z n_n n_h n_c y0 (0 : Int32) (0 : Int32) n_c (fun w2 w3 w4 w5 => P x2 w2 w3 w4 w5)) ∧
  ((x2 &&& (15 : Int32)) = 0 → wp_N_setFlags n_z n_n n_h n_c y0 (0 : Int32) (1 : Int32) n_c (fun w6 w7 w8 w9 => P x2 w6 w7 w8 w9))
def wp_N_oneMore (n_z n_n n_h n_c : Int32) (a1 : Int32) (P : Int32 → (Int32) → (Int32) → (Int32) → (Int32) → Prop) : Prop := ∀ z1 : Int32, z1 = (a1 + (1 : Int32)) &&& (255 : Int32) → 
  (¬ z1 = 0 → wp_N_oneMore_18 P n_z n_n n_h n_c z1 (0 : Int32)) ∧
  (z1 = 0 → wp_N_oneMore_18 P n_z n_n n_h n_c z1 (1 : Int32))
def wp_N_sum_56 (n_rg : Nat → Int32) (P : Int32 → (Int32) → (Int32) → (Int32) → (Int32) → Prop) (n_z n_n n_h n_c x4 y0 y1 y2 : Int32) : Prop := 
  (x4 ≤ (255 : Int32) → wp_N_setFlags n_z n_n n_h n_c y2 y1 y0 (0 : Int32) (fun w4 w5 w6 w7 => P (x4 &&& (255 : Int32)) w4 w5 w6 w7)) ∧
  (¬ x4 ≤ (255 : Int32) → wp_N_setFlags n_z n_n n_h n_c y2 y1 y0 (1 : Int32) (fun w8 w9 w10 w11 => P (x4 &&& (255 : Int32)) w8 w9 w10 w11))
def wp_N_sum (n_rg : Nat → Int32) (n_z n_n n_h n_c : Int32) (a1 a2 : Int32) (P : Int32 → (Int32) → (Int32) → (Int32) → (Int32) → Prop) : Prop := ∀ z1 : Int32, z1 = n_rg (7 : Int32).toNatClampNeg → ∀ z2 : Int32, z2 = (z1 + a1) + a2 → ∀ z3 : Int32, z3 = ((z1 &&& (15 : Int32)) + (a1 &&& (15 : Int32))) + a2 → 
  (¬ (z2 &&& (255 : Int32)) = 0 → 
    (z3 ≤ (15 : Int32) → wp_N_sum_56 n_rg P n_z n_n n_h n_c z2 (0 : Int32) (0 : Int32) (0 : Int32)) ∧
    (¬ z3 ≤ (15 : Int32) → wp_N_sum_56 n_rg P n_z n_n n_h n_c z2 (1 : Int32) (0 : Int32) (0 : Int32))) ∧
  ((z2 &&& (255 : Int32)) = 0 → 
    (z3 ≤ (15 : Int32) → wp_N_sum_56 n_rg P n_z n_n n_h n_c z2 (0 : Int32) (0 : Int32) (1 : Int32)) ∧
    (¬ z3 ≤ (15 : Int32) → wp_N_sum_56 n_rg P n_z n_n n_h n_c z2 (1 : Int32) (0 : Int32) (1 : Int32)))
def wp_M_read (k_ce : Nat → Int32) (k_bc : Int32) (m_ra m_up : Nat → Int32) (m_on m_lo m_hi m_mo m_ma m_li : Int32) (a1 : Int32) (P : Int32 → Prop) : Prop := 
  ((64 : Int32) ≤ a1 → 
    ((128 : Int32) ≤ a1 → 
      ((192 : Int32) ≤ a1 → 
        ((254 : Int32) ≤ a1 → 
          (¬ a1 = (254 : Int32) → P m_li) ∧
          (a1 = (254 : Int32) → P m_ma)) ∧
        (¬ (254 : Int32) ≤ a1 → vp_in (a1 - (192 : Int32)) 62 ∧ (P (m_up (a1 - (192 : Int32)).toNatClampNeg)))) ∧
      (¬ (192 : Int32) ≤ a1 → 
        (m_on = 0 → P (255 : Int32)) ∧
        (¬ m_on = 0 → wp_M_ramPlace m_hi m_mo a1 (fun r1 => vp_in r1 128 ∧ (P (m_ra r1.toNatClampNeg)))))) ∧
    (¬ (128 : Int32) ≤ a1 → wp_K_at k_ce k_bc (((4 : Int32) * m_hi) + m_lo) (a1 - (64 : Int32)) (fun r2 => P r2))) ∧
  (¬ (64 : Int32) ≤ a1 → 
    (¬ m_mo = (1 : Int32) → wp_K_at k_ce k_bc (0 : Int32) a1 (fun r3 => P r3)) ∧
    (m_mo = (1 : Int32) → wp_K_at k_ce k_bc ((4 : Int32) * m_hi) a1 (fun r4 => P r4)))
def wp_M_write (m_ra m_up : Nat → Int32) (m_on m_lo m_hi m_mo m_ma m_li : Int32) (a1 a2 : Int32) (P : (Nat → Int32) → (Nat → Int32) → (Int32) → (Int32) → (Int32) → (Int32) → (Int32) → (Int32) → Prop) : Prop := 
  ((128 : Int32) ≤ a1 → 
    ((192 : Int32) ≤ a1 → 
      ((254 : Int32) ≤ a1 → 
        (¬ a1 = (254 : Int32) → P m_ra m_up m_on m_lo m_hi m_mo m_ma (a2 &&& (15 : Int32))) ∧
        (a1 = (254 : Int32) → P m_ra m_up m_on m_lo m_hi m_mo (a2 &&& (15 : Int32)) m_li)) ∧
      (¬ (254 : Int32) ≤ a1 → vp_in (a1 - (192 : Int32)) 62 ∧ (P m_ra (upd m_up (a1 - (192 : Int32)).toNatClampNeg a2) m_on m_lo m_hi m_mo m_ma m_li))) ∧
    (¬ (192 : Int32) ≤ a1 → 
      (m_on = 0 → P m_ra m_up m_on m_lo m_hi m_mo m_ma m_li) ∧
      (¬ m_on = 0 → wp_M_ramPlace m_hi m_mo a1 (fun r1 => vp_in r1 128 ∧ (P (upd m_ra r1.toNatClampNeg a2) m_up m_on m_lo m_hi m_mo m_ma m_li))))) ∧
  (¬ (128 : Int32) ≤ a1 → wp_M_turnSwitch m_on m_lo m_hi m_mo (a1 / (32 : Int32)) a2 (fun w2 w3 w4 w5 => P m_ra m_up w2 w3 w4 w5 m_ma m_li))
def wp_P_packLowest_3  (P : Int32 → (Nat → Int32) → (Nat → Int32) → (Nat → Int32) → Prop) : Nat → (Nat → Int32) → (Nat → Int32) → (Nat → Int32) → (Int32) → (Int32) → (Int32) → (Int32) → Prop
  | 0, _, _, _, _, _, _, _ => False
  | n9 + 1, t_bk, t_of, t_en, x1, x2, x3, x4 => 
    (x3 ≤ x4 → P (0 : Int32) t_bk t_of t_en) ∧
    (¬ x3 ≤ x4 → wp_P_fits t_en x4 x2 (fun r1 => 
      (r1 = 0 → (wp_P_packLowest_3 P n9) t_bk t_of t_en x1 x2 x3 (x4 + (1 : Int32))) ∧
      (¬ r1 = 0 → wp_P_put t_bk t_of t_en x1 x4 x2 (fun w2 w3 w4 => P (1 : Int32) w2 w3 w4))))
def wp_P_packLowest (t_bk t_of t_en : Nat → Int32) (a1 a2 a3 : Int32) (P : Int32 → (Nat → Int32) → (Nat → Int32) → (Nat → Int32) → Prop) : Prop := ∃ j9 : Nat, wp_P_packLowest_3 P j9 t_bk t_of t_en a1 a2 a3 (0 : Int32)
def wp_P_packPinned_2 (s_bk s_ln : Nat → Int32) (t_ct : Int32) (P : Int32 → (Nat → Int32) → (Nat → Int32) → (Nat → Int32) → Prop) : Nat → (Nat → Int32) → (Nat → Int32) → (Nat → Int32) → (Int32) → (Int32) → Prop
  | 0, _, _, _, _, _ => False
  | n9 + 1, t_bk, t_of, t_en, x2, x3 => 
    (t_ct ≤ x3 → P (1 : Int32) t_bk t_of t_en) ∧
    (¬ t_ct ≤ x3 → vp_in x3 10 ∧ (∀ z1 : Int32, z1 = s_bk x3.toNatClampNeg → 
      (¬ z1 = (-1 : Int32) → 
        (x2 ≤ z1 → P (0 : Int32) t_bk t_of t_en) ∧
        (¬ x2 ≤ z1 → vp_in x3 10 ∧ (wp_P_fits t_en z1 (s_ln x3.toNatClampNeg) (fun r2 => 
          (¬ r2 = 0 → vp_in x3 10 ∧ (wp_P_put t_bk t_of t_en x3 z1 (s_ln x3.toNatClampNeg) (fun w3 w4 w5 => (wp_P_packPinned_2 s_bk s_ln t_ct P n9) w3 w4 w5 x2 (x3 + (1 : Int32))))) ∧
          (r2 = 0 → P (0 : Int32) t_bk t_of t_en))))) ∧
      (z1 = (-1 : Int32) → (wp_P_packPinned_2 s_bk s_ln t_ct P n9) t_bk t_of t_en x2 (x3 + (1 : Int32)))))
def wp_P_packPinned (s_bk s_ln t_bk t_of t_en : Nat → Int32) (t_ct : Int32) (a2 : Int32) (P : Int32 → (Nat → Int32) → (Nat → Int32) → (Nat → Int32) → Prop) : Prop := ∃ j9 : Nat, wp_P_packPinned_2 s_bk s_ln t_ct P j9 t_bk t_of t_en a2 (0 : Int32)
def wp_Q_byteSent (q_code q_sent : Int32) (q_out : Nat → Int32) (a1 : Int32) (P : Int32 → (Int32) → Prop) : Prop := wp_Q_outside a1 (0 : Int32) (q_sent - (1 : Int32)) (fun r1 => 
  (¬ r1 = 0 → wp_Q_refuse q_code (1 : Int32) (fun r2 w3 => P r2 w3)) ∧
  (r1 = 0 → 
    (a1 ≤ (99 : Int32) → vp_in a1 100 ∧ (P (q_out a1.toNatClampNeg) (0 : Int32))) ∧
    (¬ a1 ≤ (99 : Int32) → wp_Q_refuse q_code (1 : Int32) (fun r4 w5 => P r4 w5))))
def wp_Q_bytes_34 (q_many : Int32) (P : (Int32) → (Nat → Int32) → (Nat → Int32) → (Nat → Int32) → Prop) : Nat → (Int32) → (Nat → Int32) → (Nat → Int32) → (Nat → Int32) → (Int32) → (Int32) → Prop
  | 0, _, _, _, _, _, _ => False
  | n9 + 1, q_code, q_size, q_bytes, q_kind, x1, x3 => 
    (x3 < 0 → P q_code q_size q_bytes q_kind) ∧
    (¬ x3 < 0 → 
      (¬ q_code = 0 → P q_code q_size q_bytes q_kind) ∧
      (q_code = 0 → wp_Q_append q_many q_size q_bytes q_kind (0 : Int32) (x1 >>> (((8 : Int32) * x3) &&& 31)) (fun w6 w7 w8 => (wp_Q_bytes_34 q_many P n9) q_code w6 w7 w8 x1 (x3 + (-1 : Int32)))))
def wp_Q_bytes (q_code q_many : Int32) (q_size q_bytes q_kind : Nat → Int32) (a1 a2 : Int32) (P : (Int32) → (Nat → Int32) → (Nat → Int32) → (Nat → Int32) → Prop) : Prop := wp_Q_outside a2 (1 : Int32) (4 : Int32) (fun r1 => 
  (r1 = 0 → wp_Q_room q_many q_size a2 (fun r2 => 
    (r2 = 0 → ∀ z3 : Int32, z3 = a2 - (1 : Int32) → ∃ j9 : Nat, wp_Q_bytes_34 q_many P j9 (2 : Int32) q_size q_bytes q_kind a1 z3) ∧
    (¬ r2 = 0 → ∀ z4 : Int32, z4 = a2 - (1 : Int32) → ∃ j9 : Nat, wp_Q_bytes_34 q_many P j9 (0 : Int32) q_size q_bytes q_kind a1 z4))) ∧
  (¬ r1 = 0 → ∀ z5 : Int32, z5 = a2 - (1 : Int32) → ∃ j9 : Nat, wp_Q_bytes_34 q_many P j9 (1 : Int32) q_size q_bytes q_kind a1 z5))
def wp_Q_count (q_zero q_less q_half q_carry : Int32) (a1 a2 : Int32) (P : Int32 → (Int32) → (Int32) → (Int32) → (Int32) → Prop) : Prop := 
  (a2 = 0 → wp_Q_take q_zero q_less q_half q_carry a1 (1 : Int32) (0 : Int32) (fun r1 w2 w3 w4 w5 => (q_carry = 0 ∨ q_carry = 1) ∧ (P r1 w2 w3 w4 q_carry))) ∧
  (¬ a2 = 0 → wp_Q_add q_zero q_less q_half q_carry a1 (1 : Int32) (0 : Int32) (fun r6 w7 w8 w9 w10 => (q_carry = 0 ∨ q_carry = 1) ∧ (P r6 w7 w8 w9 q_carry)))
def wp_Q_headByte (q_address : Nat → Int32) (q_banks : Int32) (a1 : Int32) (P : Int32 → Prop) : Prop := 
  ((2 : Int32) ≤ a1 → 
    ((7 : Int32) ≤ a1 → 
      ((16 : Int32) ≤ a1 → 
        (¬ (a1 - a1 / (4 : Int32) * (4 : Int32)) = 0 → 
          (¬ (a1 - a1 / (4 : Int32) * (4 : Int32)) = (1 : Int32) → P (0 : Int32)) ∧
          ((a1 - a1 / (4 : Int32) * (4 : Int32)) = (1 : Int32) → P (10 : Int32))) ∧
        ((a1 - a1 / (4 : Int32) * (4 : Int32)) = 0 → P (1 : Int32))) ∧
      (¬ (16 : Int32) ≤ a1 → P (0 : Int32))) ∧
    (¬ (7 : Int32) ≤ a1 → wp_Q_mark q_banks a1 (fun r1 => P r1))) ∧
  (¬ (2 : Int32) ≤ a1 → 
    (¬ a1 = 0 → P (q_address (0 : Int32).toNatClampNeg)) ∧
    (a1 = 0 → P (192 : Int32)))
def wp_Q_image (q_code q_banks : Int32) (q_memory : Nat → Int32) (a1 : Int32) (P : Int32 → (Int32) → Prop) : Prop := wp_Q_outside a1 (0 : Int32) (((64 : Int32) * q_banks) - (1 : Int32)) (fun r1 => 
  (r1 = 0 → vp_in a1 705 ∧ (P (q_memory a1.toNatClampNeg) (0 : Int32))) ∧
  (¬ r1 = 0 → wp_Q_refuse q_code (1 : Int32) (fun r2 w3 => P r2 w3)))
def wp_Q_mended (q_code q_many : Int32) (q_size q_bytes q_kind : Nat → Int32) (a1 a2 : Int32) (P : (Int32) → (Nat → Int32) → (Nat → Int32) → (Nat → Int32) → Prop) : Prop := wp_Q_outside a1 (1 : Int32) (2 : Int32) (fun r1 => 
  (¬ r1 = 0 → P (1 : Int32) q_size q_bytes q_kind) ∧
  (r1 = 0 → wp_Q_outside a2 (0 : Int32) (9 : Int32) (fun r2 => 
    (r2 = 0 → wp_Q_room q_many q_size (1 : Int32) (fun r3 => 
      (r3 = 0 → P (2 : Int32) q_size q_bytes q_kind) ∧
      (¬ r3 = 0 → wp_Q_append q_many q_size q_bytes q_kind a1 a2 (fun w4 w5 w6 => P (0 : Int32) w4 w5 w6)))) ∧
    (¬ r2 = 0 → P (1 : Int32) q_size q_bytes q_kind))))
def wp_Q_pack_113 (q_many : Int32) (q_pin q_size : Nat → Int32) (K76 : (Nat → Int32) → (Nat → Int32) → (Nat → Int32) → Int32 → Int32 → Prop) (K82 : (Nat → Int32) → (Nat → Int32) → (Nat → Int32) → Int32 → Int32 → Int32 → Prop) (P : Int32 → (Nat → Int32) → (Nat → Int32) → (Nat → Int32) → Prop) : Nat → (Nat → Int32) → (Nat → Int32) → (Nat → Int32) → (Int32) → (Int32) → (Int32) → (Int32) → Prop
  | 0, _, _, _, _, _, _, _ => False
  | n9 + 1, q_bank, q_address, q_full, x1, x2, x3, x4 => 
    (x1 ≤ x4 → 
      (¬ x4 = x1 → K82 q_bank q_address q_full x1 x2 (x3 + (1 : Int32))) ∧
      (x4 = x1 → P (0 : Int32) q_bank q_address q_full)) ∧
    (¬ x1 ≤ x4 → wp_Q_put q_size q_bank q_address q_full x3 x4 x1 (fun r5 w6 w7 w8 => 
      (¬ r5 = 0 → 
        (¬ x4 = x1 → K82 w6 w7 w8 x1 x2 (x3 + (1 : Int32))) ∧
        (x4 = x1 → P (0 : Int32) w6 w7 w8)) ∧
      (r5 = 0 → (wp_Q_pack_113 q_many q_pin q_size K76 K82 P n9) w6 w7 w8 x1 x2 x3 (x4 + (1 : Int32)))))
def wp_Q_pack_82 (q_many : Int32) (q_pin q_size : Nat → Int32) (K76 : (Nat → Int32) → (Nat → Int32) → (Nat → Int32) → Int32 → Int32 → Prop) (P : Int32 → (Nat → Int32) → (Nat → Int32) → (Nat → Int32) → Prop) : Nat → (Nat → Int32) → (Nat → Int32) → (Nat → Int32) → (Int32) → (Int32) → (Int32) → Prop
  | 0, _, _, _, _, _, _ => False
  | n9 + 1, q_bank, q_address, q_full, x1, x2, x3 => 
    (q_many ≤ x3 → K76 q_bank q_address q_full x1 (x2 + (-1 : Int32))) ∧
    (¬ q_many ≤ x3 → vp_in x3 10 ∧ (
      (¬ (q_pin x3.toNatClampNeg) = (-1 : Int32) → (wp_Q_pack_82 q_many q_pin q_size K76 P n9) q_bank q_address q_full x1 x2 (x3 + (1 : Int32))) ∧
      ((q_pin x3.toNatClampNeg) = (-1 : Int32) → vp_in x3 10 ∧ (
        (¬ (q_size x3.toNatClampNeg) = x2 → (wp_Q_pack_82 q_many q_pin q_size K76 P n9) q_bank q_address q_full x1 x2 (x3 + (1 : Int32))) ∧
        ((q_size x3.toNatClampNeg) = x2 → ∃ j9 : Nat, wp_Q_pack_113 q_many q_pin q_size K76 (wp_Q_pack_82 q_many q_pin q_size K76 P n9) P j9 q_bank q_address q_full x1 x2 x3 (0 : Int32))))))
def wp_Q_pack_76 (q_many : Int32) (q_pin q_size : Nat → Int32) (P : Int32 → (Nat → Int32) → (Nat → Int32) → (Nat → Int32) → Prop) : Nat → (Nat → Int32) → (Nat → Int32) → (Nat → Int32) → (Int32) → (Int32) → Prop
  | 0, _, _, _, _, _ => False
  | n9 + 1, q_bank, q_address, q_full, x1, x2 => 
    (x2 < 0 → P (1 : Int32) q_bank q_address q_full) ∧
    (¬ x2 < 0 → ∃ j9 : Nat, wp_Q_pack_82 q_many q_pin q_size (wp_Q_pack_76 q_many q_pin q_size P n9) P j9 q_bank q_address q_full x1 x2 (0 : Int32))
def wp_Q_pack_32 (q_many : Int32) (q_pin q_size : Nat → Int32) (P : Int32 → (Nat → Int32) → (Nat → Int32) → (Nat → Int32) → Prop) : Nat → (Nat → Int32) → (Nat → Int32) → (Nat → Int32) → (Int32) → (Int32) → Prop
  | 0, _, _, _, _, _ => False
  | n9 + 1, q_bank, q_address, q_full, x1, x2 => 
    (q_many ≤ x2 → ∃ j9 : Nat, wp_Q_pack_76 q_many q_pin q_size P j9 q_bank q_address q_full x1 (48 : Int32)) ∧
    (¬ q_many ≤ x2 → vp_in x2 10 ∧ (
      ((q_pin x2.toNatClampNeg) = (-1 : Int32) → (wp_Q_pack_32 q_many q_pin q_size P n9) q_bank q_address q_full x1 (x2 + (1 : Int32))) ∧
      (¬ (q_pin x2.toNatClampNeg) = (-1 : Int32) → vp_in x2 10 ∧ (wp_Q_put q_size q_bank q_address q_full x2 (q_pin x2.toNatClampNeg) x1 (fun r1 w2 w3 w4 => 
        (¬ r1 = 0 → (wp_Q_pack_32 q_many q_pin q_size P n9) w2 w3 w4 x1 (x2 + (1 : Int32))) ∧
        (r1 = 0 → P (0 : Int32) w2 w3 w4))))))
def wp_Q_pack_2 (q_many : Int32) (q_pin q_size : Nat → Int32) (P : Int32 → (Nat → Int32) → (Nat → Int32) → (Nat → Int32) → Prop) : Nat → (Nat → Int32) → (Nat → Int32) → (Nat → Int32) → (Int32) → (Int32) → Prop
  | 0, _, _, _, _, _ => False
  | n9 + 1, q_bank, q_address, q_full, x1, x2 => 
    ((8 : Int32) ≤ x2 → ∃ j9 : Nat, wp_Q_pack_32 q_many q_pin q_size P j9 q_bank q_address q_full x1 (0 : Int32)) ∧
    (¬ (8 : Int32) ≤ x2 → 
      (¬ x2 = 0 → vp_in x2 8 ∧ ((wp_Q_pack_2 q_many q_pin q_size P n9) q_bank q_address (upd q_full x2.toNatClampNeg (0 : Int32)) x1 (x2 + (1 : Int32)))) ∧
      (x2 = 0 → vp_in x2 8 ∧ ((wp_Q_pack_2 q_many q_pin q_size P n9) q_bank q_address (upd q_full x2.toNatClampNeg (32 : Int32)) x1 (x2 + (1 : Int32)))))
def wp_Q_pack (q_many : Int32) (q_pin q_size q_bank q_address q_full : Nat → Int32) (a1 : Int32) (P : Int32 → (Nat → Int32) → (Nat → Int32) → (Nat → Int32) → Prop) : Prop := ∃ j9 : Nat, wp_Q_pack_2 q_many q_pin q_size P j9 q_bank q_address q_full a1 (0 : Int32)
def wp_Q_packed (q_code q_linked : Int32) (q_packedBank q_packedAddress : Nat → Int32) (a1 a2 : Int32) (P : Int32 → (Int32) → Prop) : Prop := wp_Q_outside a1 (0 : Int32) (q_linked - (1 : Int32)) (fun r1 => 
  (¬ r1 = 0 → wp_Q_refuse q_code (1 : Int32) (fun r2 w3 => P r2 w3)) ∧
  (r1 = 0 → wp_Q_outside a2 (0 : Int32) (1 : Int32) (fun r4 => 
    (r4 = 0 → 
      (¬ a2 = 0 → vp_in a1 10 ∧ (P (q_packedAddress a1.toNatClampNeg) (0 : Int32))) ∧
      (a2 = 0 → vp_in a1 10 ∧ (P (q_packedBank a1.toNatClampNeg) (0 : Int32)))) ∧
    (¬ r4 = 0 → wp_Q_refuse q_code (1 : Int32) (fun r5 w6 => P r5 w6)))))
def wp_Q_raise_15  (P : (Int32) → (Nat → Int32) → Prop) (q_code : Int32) (q_memory : Nat → Int32) (x1 y0 : Int32) : Prop := 
  (¬ y0 = 0 → P y0 q_memory) ∧
  (y0 = 0 → P y0 (upd q_memory (703 : Int32).toNatClampNeg ((q_memory (703 : Int32).toNatClampNeg) ||| ((1 : Int32) <<< (x1 &&& 31)))))
def wp_Q_raise (q_code : Int32) (q_memory : Nat → Int32) (a1 : Int32) (P : (Int32) → (Nat → Int32) → Prop) : Prop := wp_Q_outside a1 (0 : Int32) (3 : Int32) (fun r1 => 
  (r1 = 0 → wp_Q_raise_15 P q_code q_memory a1 (0 : Int32)) ∧
  (¬ r1 = 0 → wp_Q_raise_15 P q_code q_memory a1 (1 : Int32)))
def wp_Q_read (q_banks : Int32) (q_memory : Nat → Int32) (q_ram q_low q_top q_mode : Int32) (a1 : Int32) (P : Int32 → Prop) : Prop := wp_Q_where q_banks q_ram q_low q_top q_mode a1 (fun r1 => vp_in r1 705 ∧ (P (q_memory r1.toNatClampNeg)))
def wp_Q_reckon_20  (P : (Nat → Int32) → (Int32) → (Int32) → (Int32) → (Int32) → Prop) (q_register : Nat → Int32) (q_zero q_less q_half q_carry x1 x2 x3 y0 : Int32) : Prop := 
  ((2 : Int32) ≤ x1 → 
    ((4 : Int32) ≤ x1 → 
      (¬ x1 = (4 : Int32) → 
        (¬ x1 = (5 : Int32) → 
          (¬ x1 = (6 : Int32) → wp_Q_take q_zero q_less q_half q_carry x3 x2 (0 : Int32) (fun r2 w3 w4 w5 w6 => P q_register w3 w4 w5 w6)) ∧
          (x1 = (6 : Int32) → wp_Q_plain q_zero q_less q_half q_carry (x3 ||| x2) (0 : Int32) (fun r7 w8 w9 w10 w11 => P (upd q_register (7 : Int32).toNatClampNeg r7) w8 w9 w10 w11))) ∧
        (x1 = (5 : Int32) → wp_Q_plain q_zero q_less q_half q_carry (x3 ^^^ x2) (0 : Int32) (fun r12 w13 w14 w15 w16 => P (upd q_register (7 : Int32).toNatClampNeg r12) w13 w14 w15 w16))) ∧
      (x1 = (4 : Int32) → wp_Q_plain q_zero q_less q_half q_carry (x3 &&& x2) (1 : Int32) (fun r17 w18 w19 w20 w21 => P (upd q_register (7 : Int32).toNatClampNeg r17) w18 w19 w20 w21))) ∧
    (¬ (4 : Int32) ≤ x1 → wp_Q_take q_zero q_less q_half q_carry x3 x2 ((x1 - (2 : Int32)) * y0) (fun r22 w23 w24 w25 w26 => P (upd q_register (7 : Int32).toNatClampNeg r22) w23 w24 w25 w26))) ∧
  (¬ (2 : Int32) ≤ x1 → wp_Q_add q_zero q_less q_half q_carry x3 x2 (x1 * y0) (fun r27 w28 w29 w30 w31 => P (upd q_register (7 : Int32).toNatClampNeg r27) w28 w29 w30 w31))
def wp_Q_reckon (q_register : Nat → Int32) (q_zero q_less q_half q_carry : Int32) (a1 a2 : Int32) (P : (Nat → Int32) → (Int32) → (Int32) → (Int32) → (Int32) → Prop) : Prop := ∀ z1 : Int32, z1 = q_register (7 : Int32).toNatClampNeg → 
  (q_carry = 0 → wp_Q_reckon_20 P q_register q_zero q_less q_half q_carry a1 a2 z1 (0 : Int32)) ∧
  (¬ q_carry = 0 → wp_Q_reckon_20 P q_register q_zero q_less q_half q_carry a1 a2 z1 (1 : Int32))
def wp_Q_restart (q_code : Int32) (q_memory q_register : Nat → Int32) (q_stack q_place q_zero q_less q_half q_carry q_enabled q_soon q_ram q_low q_top q_mode q_state q_sent : Int32)  (P : (Int32) → (Nat → Int32) → (Nat → Int32) → (Int32) → (Int32) → (Int32) → (Int32) → (Int32) → (Int32) → (Int32) → (Int32) → (Int32) → (Int32) → (Int32) → (Int32) → (Int32) → (Int32) → Prop) : Prop := wp_Q_begin q_memory q_register q_stack q_place q_zero q_less q_half q_carry q_enabled q_soon q_ram q_low q_top q_mode q_state q_sent (fun w1 w2 w3 w4 w5 w6 w7 w8 w9 w10 w11 w12 w13 w14 w15 w16 => P (0 : Int32) w1 w2 w3 w4 w5 w6 w7 w8 w9 w10 w11 w12 w13 w14 w15 w16)
def wp_Q_section_29  (P : Int32 → (Int32) → (Int32) → (Nat → Int32) → (Nat → Int32) → Prop) (q_code q_many : Int32) (q_pin q_size : Nat → Int32) (x1 y0 : Int32) : Prop := 
  (y0 ≤ 0 → vp_in q_many 10 ∧ (vp_in q_many 10 ∧ (P ((q_many + (1 : Int32)) - (1 : Int32)) y0 (q_many + (1 : Int32)) (upd q_pin q_many.toNatClampNeg x1) (upd q_size q_many.toNatClampNeg (0 : Int32))))) ∧
  (¬ y0 ≤ 0 → P (0 : Int32) y0 q_many q_pin q_size)
def wp_Q_section (q_code q_many : Int32) (q_pin q_size : Nat → Int32) (a1 : Int32) (P : Int32 → (Int32) → (Int32) → (Nat → Int32) → (Nat → Int32) → Prop) : Prop := wp_Q_outside a1 (-1 : Int32) (7 : Int32) (fun r1 => 
  (r1 = 0 → 
    (¬ q_many = (10 : Int32) → wp_Q_section_29 P q_code q_many q_pin q_size a1 (0 : Int32)) ∧
    (q_many = (10 : Int32) → wp_Q_section_29 P q_code q_many q_pin q_size a1 (2 : Int32))) ∧
  (¬ r1 = 0 → wp_Q_section_29 P q_code q_many q_pin q_size a1 (1 : Int32)))
def wp_Q_spoil (q_code q_banks : Int32) (q_memory : Nat → Int32) (a1 a2 : Int32) (P : (Int32) → (Nat → Int32) → Prop) : Prop := wp_Q_outside a1 (0 : Int32) (((64 : Int32) * q_banks) - (1 : Int32)) (fun r1 => 
  (r1 = 0 → vp_in a1 705 ∧ (P (0 : Int32) (upd q_memory a1.toNatClampNeg (a2 &&& (255 : Int32))))) ∧
  (¬ r1 = 0 → P (1 : Int32) q_memory))
def wp_Q_turned_109  (P : Int32 → (Int32) → (Int32) → (Int32) → (Int32) → Prop) (q_zero q_less q_half q_carry x4 y0 : Int32) : Prop := wp_Q_plain q_zero q_less q_half q_carry y0 (0 : Int32) (fun r1 w2 w3 w4 w5 => 
  (¬ x4 = (1 : Int32) → P r1 w2 w3 w4 (0 : Int32)) ∧
  (x4 = (1 : Int32) → P r1 w2 w3 w4 (1 : Int32)))
def wp_Q_turned_79  (P : Int32 → (Int32) → (Int32) → (Int32) → (Int32) → Prop) (q_zero q_less q_half q_carry x2 x3 x4 y0 : Int32) : Prop := 
  (x3 = 0 → wp_Q_turned_109 P q_zero q_less q_half q_carry x4 ((x2 / (2 : Int32)) + ((128 : Int32) * y0))) ∧
  (¬ x3 = 0 → wp_Q_turned_109 P q_zero q_less q_half q_carry x4 (((x2 * (2 : Int32)) - (x2 * (2 : Int32)) / (256 : Int32) * (256 : Int32)) + y0))
def wp_Q_turned_33  (P : Int32 → (Int32) → (Int32) → (Int32) → (Int32) → Prop) (q_zero q_less q_half q_carry x1 x2 x3 y0 : Int32) : Prop := 
  ((2 : Int32) ≤ x1 → 
    ((4 : Int32) ≤ x1 → 
      (¬ x1 = (5 : Int32) → wp_Q_turned_79 P q_zero q_less q_half q_carry x2 x3 y0 (0 : Int32)) ∧
      (x1 = (5 : Int32) → wp_Q_turned_79 P q_zero q_less q_half q_carry x2 x3 y0 (x2 / (128 : Int32)))) ∧
    (¬ (4 : Int32) ≤ x1 → 
      (q_carry = 0 → wp_Q_turned_79 P q_zero q_less q_half q_carry x2 x3 y0 (0 : Int32)) ∧
      (¬ q_carry = 0 → wp_Q_turned_79 P q_zero q_less q_half q_carry x2 x3 y0 (1 : Int32)))) ∧
  (¬ (2 : Int32) ≤ x1 → wp_Q_turned_79 P q_zero q_less q_half q_carry x2 x3 y0 y0)
def wp_Q_turned (q_zero q_less q_half q_carry : Int32) (a1 a2 : Int32) (P : Int32 → (Int32) → (Int32) → (Int32) → (Int32) → Prop) : Prop := 
  (¬ (a1 - a1 / (2 : Int32) * (2 : Int32)) = 0 → wp_Q_turned_33 P q_zero q_less q_half q_carry a1 a2 (0 : Int32) (a2 - a2 / (2 : Int32) * (2 : Int32))) ∧
  ((a1 - a1 / (2 : Int32) * (2 : Int32)) = 0 → 
    ((6 : Int32) ≤ a1 → wp_Q_turned_33 P q_zero q_less q_half q_carry a1 a2 (0 : Int32) (a2 - a2 / (2 : Int32) * (2 : Int32))) ∧
    (¬ (6 : Int32) ≤ a1 → wp_Q_turned_33 P q_zero q_less q_half q_carry a1 a2 (1 : Int32) (a2 / (128 : Int32))))
def wp_Q_valid_22 (q_linked q_banks : Int32) (q_memory : Nat → Int32) (P : Int32 → (Int32) → Prop) : Nat → (Int32) → (Int32) → (Int32) → Prop
  | 0, _, _, _ => False
  | n9 + 1, q_code, x1, x2 => 
    ((7 : Int32) ≤ x2 → 
      (¬ x1 = 0 → wp_Q_headCheck q_memory (fun r3 => 
        ((q_memory (13 : Int32).toNatClampNeg) = r3 → wp_Q_imageCheck q_banks q_memory (fun r4 => 
          ((((256 : Int32) * (q_memory (14 : Int32).toNatClampNeg)) + (q_memory (15 : Int32).toNatClampNeg)) = r4 → P (0 : Int32) q_code) ∧
          (¬ (((256 : Int32) * (q_memory (14 : Int32).toNatClampNeg)) + (q_memory (15 : Int32).toNatClampNeg)) = r4 → P (3 : Int32) q_code))) ∧
        (¬ (q_memory (13 : Int32).toNatClampNeg) = r3 → P (2 : Int32) q_code))) ∧
      (x1 = 0 → P (1 : Int32) q_code)) ∧
    (¬ (7 : Int32) ≤ x2 → 
      (x1 = 0 → (wp_Q_valid_22 q_linked q_banks q_memory P n9) q_code (0 : Int32) (x2 + (1 : Int32))) ∧
      (¬ x1 = 0 → vp_in x2 705 ∧ (wp_Q_mark q_banks x2 (fun r5 => 
        (¬ (q_memory x2.toNatClampNeg) = r5 → (wp_Q_valid_22 q_linked q_banks q_memory P n9) q_code (0 : Int32) (x2 + (1 : Int32))) ∧
        ((q_memory x2.toNatClampNeg) = r5 → (wp_Q_valid_22 q_linked q_banks q_memory P n9) q_code (1 : Int32) (x2 + (1 : Int32)))))))
def wp_Q_valid (q_code q_linked q_banks : Int32) (q_memory : Nat → Int32)  (P : Int32 → (Int32) → Prop) : Prop := 
  (¬ q_linked = 0 → ∃ j9 : Nat, wp_Q_valid_22 q_linked q_banks q_memory P j9 (0 : Int32) (1 : Int32) (2 : Int32)) ∧
  (q_linked = 0 → wp_Q_refuse q_code (1 : Int32) (fun r1 w2 => P r1 w2))
def wp_Q_write_107 (q_banks : Int32) (P : (Nat → Int32) → (Int32) → (Int32) → (Int32) → (Int32) → Prop) (q_memory : Nat → Int32) (q_ram q_low q_top q_mode x1 x2 : Int32) : Prop := wp_Q_where q_banks q_ram q_low q_top q_mode x1 (fun r1 => 
  (x1 ≤ (253 : Int32) → vp_in r1 705 ∧ (P (upd q_memory r1.toNatClampNeg x2) q_ram q_low q_top q_mode)) ∧
  (¬ x1 ≤ (253 : Int32) → vp_in r1 705 ∧ (P (upd q_memory r1.toNatClampNeg (x2 - x2 / (16 : Int32) * (16 : Int32))) q_ram q_low q_top q_mode)))
def wp_Q_write (q_banks : Int32) (q_memory : Nat → Int32) (q_ram q_low q_top q_mode : Int32) (a1 a2 : Int32) (P : (Nat → Int32) → (Int32) → (Int32) → (Int32) → (Int32) → Prop) : Prop := 
  ((32 : Int32) ≤ a1 → 
    ((64 : Int32) ≤ a1 → 
      ((96 : Int32) ≤ a1 → 
        ((128 : Int32) ≤ a1 → 
          ((192 : Int32) ≤ a1 → 
            (a1 ≤ (191 : Int32) → P q_memory q_ram q_low q_top q_mode) ∧
            (¬ a1 ≤ (191 : Int32) → wp_Q_write_107 q_banks P q_memory q_ram q_low q_top q_mode a1 a2)) ∧
          (¬ (192 : Int32) ≤ a1 → 
            (¬ q_ram = 0 → wp_Q_write_107 q_banks P q_memory q_ram q_low q_top q_mode a1 a2) ∧
            (q_ram = 0 → 
              (a1 ≤ (191 : Int32) → P q_memory q_ram q_low q_top q_mode) ∧
              (¬ a1 ≤ (191 : Int32) → wp_Q_write_107 q_banks P q_memory q_ram q_low q_top q_mode a1 a2)))) ∧
        (¬ (128 : Int32) ≤ a1 → P q_memory q_ram q_low q_top (a2 - a2 / (2 : Int32) * (2 : Int32)))) ∧
      (¬ (96 : Int32) ≤ a1 → P q_memory q_ram q_low (a2 - a2 / (2 : Int32) * (2 : Int32)) q_mode)) ∧
    (¬ (64 : Int32) ≤ a1 → 
      ((a2 - a2 / (4 : Int32) * (4 : Int32)) ≤ 0 → P q_memory q_ram (1 : Int32) q_top q_mode) ∧
      (¬ (a2 - a2 / (4 : Int32) * (4 : Int32)) ≤ 0 → P q_memory q_ram (a2 - a2 / (4 : Int32) * (4 : Int32)) q_top q_mode))) ∧
  (¬ (32 : Int32) ≤ a1 → 
    (¬ (a2 - a2 / (16 : Int32) * (16 : Int32)) = (10 : Int32) → P q_memory (0 : Int32) q_low q_top q_mode) ∧
    ((a2 - a2 / (16 : Int32) * (16 : Int32)) = (10 : Int32) → P q_memory (1 : Int32) q_low q_top q_mode))
def wp_D_peek (k_ce : Nat → Int32) (k_bc : Int32) (m_ra m_up : Nat → Int32) (m_on m_lo m_hi m_mo m_ma m_li : Int32) (a1 : Int32) (P : Int32 → Prop) (PX : Nat → Prop) : Prop := 
  (a1 < 0 → PX 3) ∧
  (¬ a1 < 0 → 
    ((255 : Int32) < a1 → PX 3) ∧
    (¬ (255 : Int32) < a1 → wp_K_isMade k_bc (fun r1 => 
      (¬ r1 = 0 → wp_M_read k_ce k_bc m_ra m_up m_on m_lo m_hi m_mo m_ma m_li a1 (fun r2 => P r2)) ∧
      (r1 = 0 → PX 3))))
def wp_D_restart (m_ra m_up : Nat → Int32) (m_on m_lo m_hi m_mo m_ma m_li : Int32) (n_rg : Nat → Int32) (n_st n_pl n_z n_n n_h n_c n_en n_so n_co n_sc : Int32)  (P : (Nat → Int32) → (Nat → Int32) → (Int32) → (Int32) → (Int32) → (Int32) → (Int32) → (Int32) → (Nat → Int32) → (Int32) → (Int32) → (Int32) → (Int32) → (Int32) → (Int32) → (Int32) → (Int32) → (Int32) → (Int32) → Prop) : Prop := wp_N_begin m_ra m_up m_on m_lo m_hi m_mo m_ma m_li n_rg n_st n_pl n_z n_n n_h n_c n_en n_so n_co n_sc (fun w1 w2 w3 w4 w5 w6 w7 w8 w9 w10 w11 w12 w13 w14 w15 w16 w17 w18 w19 => P w1 w2 w3 w4 w5 w6 w7 w8 w9 w10 w11 w12 w13 w14 w15 w16 w17 w18 w19)
def wp_K_verdict_2 (k_ce : Nat → Int32) (k_bc : Int32) (P : Int32 → Prop) : Nat → (Int32) → Prop
  | 0, _ => False
  | n9 + 1, x1 => 
    ((6 : Int32) ≤ x1 → wp_K_sizeCode k_bc (fun r1 => 
      ((k_ce (6 : Int32).toNatClampNeg) = r1 → wp_K_headCheck k_ce (fun r2 => 
        ((k_ce (13 : Int32).toNatClampNeg) = r2 → ∀ z3 : Int32, z3 = ((k_ce (14 : Int32).toNatClampNeg) * (256 : Int32)) + (k_ce (15 : Int32).toNatClampNeg) → wp_K_imageCheck k_ce k_bc (fun r4 => 
          (¬ z3 = r4 → P (3 : Int32)) ∧
          (z3 = r4 → P (0 : Int32)))) ∧
        (¬ (k_ce (13 : Int32).toNatClampNeg) = r2 → P (2 : Int32)))) ∧
      (¬ (k_ce (6 : Int32).toNatClampNeg) = r1 → P (1 : Int32)))) ∧
    (¬ (6 : Int32) ≤ x1 → vp_in x1 512 ∧ (vp_in x1 32 ∧ (
      ((k_ce x1.toNatClampNeg) = (hd_ x1.toNatClampNeg) → (wp_K_verdict_2 k_ce k_bc P n9) (x1 + (1 : Int32))) ∧
      (¬ (k_ce x1.toNatClampNeg) = (hd_ x1.toNatClampNeg) → P (1 : Int32)))))
def wp_K_verdict (k_ce : Nat → Int32) (k_bc : Int32)  (P : Int32 → Prop) : Prop := ∃ j9 : Nat, wp_K_verdict_2 k_ce k_bc P j9 (2 : Int32)
def wp_K_writeHead_2 (k_bc : Int32) (P : (Nat → Int32) → Prop) : Nat → (Nat → Int32) → (Int32) → (Int32) → Prop
  | 0, _, _, _ => False
  | n9 + 1, k_ce, x1, x2 => 
    ((32 : Int32) ≤ x2 → wp_K_sizeCode k_bc (fun r1 => wp_K_headCheck (upd (upd k_ce (1 : Int32).toNatClampNeg x1) (6 : Int32).toNatClampNeg r1) (fun r2 => wp_K_imageCheck (upd (upd (upd k_ce (1 : Int32).toNatClampNeg x1) (6 : Int32).toNatClampNeg r1) (13 : Int32).toNatClampNeg r2) k_bc (fun r3 => P (upd (upd (upd (upd (upd k_ce (1 : Int32).toNatClampNeg x1) (6 : Int32).toNatClampNeg r1) (13 : Int32).toNatClampNeg r2) (14 : Int32).toNatClampNeg (r3 >>> ((8 : Int32) &&& 31))) (15 : Int32).toNatClampNeg (r3 &&& (255 : Int32))))))) ∧
    (¬ (32 : Int32) ≤ x2 → vp_in x2 32 ∧ (vp_in x2 512 ∧ ((wp_K_writeHead_2 k_bc P n9) (upd k_ce x2.toNatClampNeg (hd_ x2.toNatClampNeg)) x1 (x2 + (1 : Int32)))))
def wp_K_writeHead (k_ce : Nat → Int32) (k_bc : Int32) (a1 : Int32) (P : (Nat → Int32) → Prop) : Prop := ∃ j9 : Nat, wp_K_writeHead_2 k_bc P j9 k_ce a1 (0 : Int32)
def wp_N_calculate (n_rg : Nat → Int32) (n_z n_n n_h n_c : Int32) (a1 a2 : Int32) (P : (Nat → Int32) → (Int32) → (Int32) → (Int32) → (Int32) → Prop) : Prop := 
  (a1 = (0 : Int32) → wp_N_sum n_rg n_z n_n n_h n_c a2 (0 : Int32) (fun r1 w2 w3 w4 w5 => P (upd n_rg (7 : Int32).toNatClampNeg r1) w2 w3 w4 w5)) ∧
  (a1 = (1 : Int32) → wp_N_carryBit n_c (fun r6 => wp_N_sum n_rg n_z n_n n_h n_c a2 r6 (fun r7 w8 w9 w10 w11 => P (upd n_rg (7 : Int32).toNatClampNeg r7) w8 w9 w10 w11))) ∧
  (a1 = (2 : Int32) → wp_N_difference n_rg n_z n_n n_h n_c a2 (0 : Int32) (fun r12 w13 w14 w15 w16 => P (upd n_rg (7 : Int32).toNatClampNeg r12) w13 w14 w15 w16)) ∧
  (a1 = (3 : Int32) → wp_N_carryBit n_c (fun r17 => wp_N_difference n_rg n_z n_n n_h n_c a2 r17 (fun r18 w19 w20 w21 w22 => P (upd n_rg (7 : Int32).toNatClampNeg r18) w19 w20 w21 w22))) ∧
  (a1 = (4 : Int32) → 
    (¬ ((upd n_rg (7 : Int32).toNatClampNeg ((n_rg (7 : Int32).toNatClampNeg) &&& a2)) (7 : Int32).toNatClampNeg) = 0 → wp_N_setFlags n_z n_n n_h n_c (0 : Int32) (0 : Int32) (1 : Int32) (0 : Int32) (fun w23 w24 w25 w26 => P (upd n_rg (7 : Int32).toNatClampNeg ((n_rg (7 : Int32).toNatClampNeg) &&& a2)) w23 w24 w25 w26)) ∧
    (((upd n_rg (7 : Int32).toNatClampNeg ((n_rg (7 : Int32).toNatClampNeg) &&& a2)) (7 : Int32).toNatClampNeg) = 0 → wp_N_setFlags n_z n_n n_h n_c (1 : Int32) (0 : Int32) (1 : Int32) (0 : Int32) (fun w27 w28 w29 w30 => P (upd n_rg (7 : Int32).toNatClampNeg ((n_rg (7 : Int32).toNatClampNeg) &&& a2)) w27 w28 w29 w30))) ∧
  (a1 = (5 : Int32) → 
    (¬ ((upd n_rg (7 : Int32).toNatClampNeg ((n_rg (7 : Int32).toNatClampNeg) ^^^ a2)) (7 : Int32).toNatClampNeg) = 0 → wp_N_setFlags n_z n_n n_h n_c (0 : Int32) (0 : Int32) (0 : Int32) (0 : Int32) (fun w31 w32 w33 w34 => P (upd n_rg (7 : Int32).toNatClampNeg ((n_rg (7 : Int32).toNatClampNeg) ^^^ a2)) w31 w32 w33 w34)) ∧
    (((upd n_rg (7 : Int32).toNatClampNeg ((n_rg (7 : Int32).toNatClampNeg) ^^^ a2)) (7 : Int32).toNatClampNeg) = 0 → wp_N_setFlags n_z n_n n_h n_c (1 : Int32) (0 : Int32) (0 : Int32) (0 : Int32) (fun w35 w36 w37 w38 => P (upd n_rg (7 : Int32).toNatClampNeg ((n_rg (7 : Int32).toNatClampNeg) ^^^ a2)) w35 w36 w37 w38))) ∧
  (a1 = (6 : Int32) → 
    (¬ ((upd n_rg (7 : Int32).toNatClampNeg ((n_rg (7 : Int32).toNatClampNeg) ||| a2)) (7 : Int32).toNatClampNeg) = 0 → wp_N_setFlags n_z n_n n_h n_c (0 : Int32) (0 : Int32) (0 : Int32) (0 : Int32) (fun w39 w40 w41 w42 => P (upd n_rg (7 : Int32).toNatClampNeg ((n_rg (7 : Int32).toNatClampNeg) ||| a2)) w39 w40 w41 w42)) ∧
    (((upd n_rg (7 : Int32).toNatClampNeg ((n_rg (7 : Int32).toNatClampNeg) ||| a2)) (7 : Int32).toNatClampNeg) = 0 → wp_N_setFlags n_z n_n n_h n_c (1 : Int32) (0 : Int32) (0 : Int32) (0 : Int32) (fun w43 w44 w45 w46 => P (upd n_rg (7 : Int32).toNatClampNeg ((n_rg (7 : Int32).toNatClampNeg) ||| a2)) w43 w44 w45 w46))) ∧
  (¬ a1 = (0 : Int32) → ¬ a1 = (1 : Int32) → ¬ a1 = (2 : Int32) → ¬ a1 = (3 : Int32) → ¬ a1 = (4 : Int32) → ¬ a1 = (5 : Int32) → ¬ a1 = (6 : Int32) → wp_N_difference n_rg n_z n_n n_h n_c a2 (0 : Int32) (fun r47 w48 w49 w50 w51 => P n_rg w48 w49 w50 w51))
def wp_N_get (k_ce : Nat → Int32) (k_bc : Int32) (m_ra m_up : Nat → Int32) (m_on m_lo m_hi m_mo m_ma m_li : Int32) (n_rg : Nat → Int32) (a1 : Int32) (P : Int32 → Prop) : Prop := 
  (¬ a1 = (6 : Int32) → vp_in a1 8 ∧ (P (n_rg a1.toNatClampNeg))) ∧
  (a1 = (6 : Int32) → wp_M_read k_ce k_bc m_ra m_up m_on m_lo m_hi m_mo m_ma m_li (n_rg (5 : Int32).toNatClampNeg) (fun r1 => P r1))
def wp_N_next (k_ce : Nat → Int32) (k_bc : Int32) (m_ra m_up : Nat → Int32) (m_on m_lo m_hi m_mo m_ma m_li n_pl : Int32)  (P : Int32 → (Int32) → Prop) : Prop := wp_M_read k_ce k_bc m_ra m_up m_on m_lo m_hi m_mo m_ma m_li n_pl (fun r1 => P r1 ((n_pl + (1 : Int32)) &&& (255 : Int32)))
def wp_N_pull (k_ce : Nat → Int32) (k_bc : Int32) (m_ra m_up : Nat → Int32) (m_on m_lo m_hi m_mo m_ma m_li n_st : Int32)  (P : Int32 → (Int32) → Prop) : Prop := wp_M_read k_ce k_bc m_ra m_up m_on m_lo m_hi m_mo m_ma m_li n_st (fun r1 => P r1 ((n_st + (1 : Int32)) &&& (255 : Int32)))
def wp_N_push (m_ra m_up : Nat → Int32) (m_on m_lo m_hi m_mo m_ma m_li n_st : Int32) (a1 : Int32) (P : (Nat → Int32) → (Nat → Int32) → (Int32) → (Int32) → (Int32) → (Int32) → (Int32) → (Int32) → (Int32) → Prop) : Prop := wp_M_write m_ra m_up m_on m_lo m_hi m_mo m_ma m_li ((n_st - (1 : Int32)) &&& (255 : Int32)) a1 (fun w1 w2 w3 w4 w5 w6 w7 w8 => P w1 w2 w3 w4 w5 w6 w7 w8 ((n_st - (1 : Int32)) &&& (255 : Int32)))
def wp_N_set (m_ra m_up : Nat → Int32) (m_on m_lo m_hi m_mo m_ma m_li : Int32) (n_rg : Nat → Int32) (a1 a2 : Int32) (P : (Nat → Int32) → (Nat → Int32) → (Int32) → (Int32) → (Int32) → (Int32) → (Int32) → (Int32) → (Nat → Int32) → Prop) : Prop := 
  (¬ a1 = (6 : Int32) → vp_in a1 8 ∧ (P m_ra m_up m_on m_lo m_hi m_mo m_ma m_li (upd n_rg a1.toNatClampNeg a2))) ∧
  (a1 = (6 : Int32) → wp_M_write m_ra m_up m_on m_lo m_hi m_mo m_ma m_li (n_rg (5 : Int32).toNatClampNeg) a2 (fun w1 w2 w3 w4 w5 w6 w7 w8 => P w1 w2 w3 w4 w5 w6 w7 w8 n_rg))
def wp_N_shifted_85  (P : Int32 → (Int32) → (Int32) → (Int32) → (Int32) → Prop) (n_z n_n n_h n_c x4 x6 y0 : Int32) : Prop := 
  (¬ x4 = (1 : Int32) → wp_N_setFlags n_z n_n n_h n_c y0 (0 : Int32) (0 : Int32) (0 : Int32) (fun w4 w5 w6 w7 => P x6 w4 w5 w6 w7)) ∧
  (x4 = (1 : Int32) → wp_N_setFlags n_z n_n n_h n_c y0 (0 : Int32) (0 : Int32) (1 : Int32) (fun w8 w9 w10 w11 => P x6 w8 w9 w10 w11))
def wp_N_shifted_34  (P : Int32 → (Int32) → (Int32) → (Int32) → (Int32) → Prop) (n_z n_n n_h n_c x1 x2 x3 y0 : Int32) : Prop := wp_N_comesIn n_c x1 x2 y0 (fun r1 => 
  (x3 = 0 → ∀ z2 : Int32, z2 = (x2 >>> ((1 : Int32) &&& 31)) ||| (r1 <<< ((7 : Int32) &&& 31)) → 
    (¬ z2 = 0 → wp_N_shifted_85 P n_z n_n n_h n_c y0 z2 (0 : Int32)) ∧
    (z2 = 0 → wp_N_shifted_85 P n_z n_n n_h n_c y0 z2 (1 : Int32))) ∧
  (¬ x3 = 0 → ∀ z3 : Int32, z3 = ((x2 <<< ((1 : Int32) &&& 31)) &&& (255 : Int32)) ||| r1 → 
    (¬ z3 = 0 → wp_N_shifted_85 P n_z n_n n_h n_c y0 z3 (0 : Int32)) ∧
    (z3 = 0 → wp_N_shifted_85 P n_z n_n n_h n_c y0 z3 (1 : Int32))))
def wp_N_shifted (n_z n_n n_h n_c : Int32) (a1 a2 : Int32) (P : Int32 → (Int32) → (Int32) → (Int32) → (Int32) → Prop) : Prop := 
  (a1 = 0 → wp_N_shifted_34 P n_z n_n n_h n_c a1 a2 (1 : Int32) (a2 >>> ((7 : Int32) &&& 31))) ∧
  (¬ a1 = 0 → 
    (a1 = (2 : Int32) → wp_N_shifted_34 P n_z n_n n_h n_c a1 a2 (1 : Int32) (a2 >>> ((7 : Int32) &&& 31))) ∧
    (¬ a1 = (2 : Int32) → 
      (¬ a1 = (4 : Int32) → wp_N_shifted_34 P n_z n_n n_h n_c a1 a2 (0 : Int32) (a2 &&& (1 : Int32))) ∧
      (a1 = (4 : Int32) → wp_N_shifted_34 P n_z n_n n_h n_c a1 a2 (1 : Int32) (a2 >>> ((7 : Int32) &&& 31)))))
def wp_P_packFloating_46 (s_bk s_ln : Nat → Int32) (t_ct : Int32) (K3 : (Nat → Int32) → (Nat → Int32) → (Nat → Int32) → Int32 → Int32 → Prop) (K10 : (Nat → Int32) → (Nat → Int32) → (Nat → Int32) → Int32 → Int32 → Int32 → Prop) (P : Int32 → (Nat → Int32) → (Nat → Int32) → (Nat → Int32) → Prop) (t_bk t_of t_en : Nat → Int32) (x2 x3 x4 y0 : Int32) : Prop := 
  (y0 = 0 → K10 t_bk t_of t_en x2 x3 (x4 + (1 : Int32))) ∧
  (¬ y0 = 0 → wp_P_packLowest t_bk t_of t_en x4 x3 x2 (fun r1 w2 w3 w4 => 
    (¬ r1 = 0 → K10 w2 w3 w4 x2 x3 (x4 + (1 : Int32))) ∧
    (r1 = 0 → P (0 : Int32) w2 w3 w4)))
def wp_P_packFloating_10 (s_bk s_ln : Nat → Int32) (t_ct : Int32) (K3 : (Nat → Int32) → (Nat → Int32) → (Nat → Int32) → Int32 → Int32 → Prop) (P : Int32 → (Nat → Int32) → (Nat → Int32) → (Nat → Int32) → Prop) : Nat → (Nat → Int32) → (Nat → Int32) → (Nat → Int32) → (Int32) → (Int32) → (Int32) → Prop
  | 0, _, _, _, _, _, _ => False
  | n9 + 1, t_bk, t_of, t_en, x2, x3, x4 => 
    (t_ct ≤ x4 → K3 t_bk t_of t_en x2 (x3 + (-1 : Int32))) ∧
    (¬ t_ct ≤ x4 → vp_in x4 10 ∧ (
      (¬ (s_bk x4.toNatClampNeg) = (-1 : Int32) → wp_P_packFloating_46 s_bk s_ln t_ct K3 (wp_P_packFloating_10 s_bk s_ln t_ct K3 P n9) P t_bk t_of t_en x2 x3 x4 (0 : Int32)) ∧
      ((s_bk x4.toNatClampNeg) = (-1 : Int32) → vp_in x4 10 ∧ (
        (¬ (s_ln x4.toNatClampNeg) = x3 → wp_P_packFloating_46 s_bk s_ln t_ct K3 (wp_P_packFloating_10 s_bk s_ln t_ct K3 P n9) P t_bk t_of t_en x2 x3 x4 (0 : Int32)) ∧
        ((s_ln x4.toNatClampNeg) = x3 → wp_P_packFloating_46 s_bk s_ln t_ct K3 (wp_P_packFloating_10 s_bk s_ln t_ct K3 P n9) P t_bk t_of t_en x2 x3 x4 (1 : Int32))))))
def wp_P_packFloating_3 (s_bk s_ln : Nat → Int32) (t_ct : Int32) (P : Int32 → (Nat → Int32) → (Nat → Int32) → (Nat → Int32) → Prop) : Nat → (Nat → Int32) → (Nat → Int32) → (Nat → Int32) → (Int32) → (Int32) → Prop
  | 0, _, _, _, _, _ => False
  | n9 + 1, t_bk, t_of, t_en, x2, x3 => 
    (x3 < 0 → P (1 : Int32) t_bk t_of t_en) ∧
    (¬ x3 < 0 → ∃ j9 : Nat, wp_P_packFloating_10 s_bk s_ln t_ct (wp_P_packFloating_3 s_bk s_ln t_ct P n9) P j9 t_bk t_of t_en x2 x3 (0 : Int32))
def wp_P_packFloating (s_bk s_ln t_bk t_of t_en : Nat → Int32) (t_ct : Int32) (a2 : Int32) (P : Int32 → (Nat → Int32) → (Nat → Int32) → (Nat → Int32) → Prop) : Prop := ∃ j9 : Nat, wp_P_packFloating_3 s_bk s_ln t_ct P j9 t_bk t_of t_en a2 (48 : Int32)
def wp_Q_build_77 (q_many : Int32) (q_size q_bytes q_kind q_bank q_address : Nat → Int32) (K46 : (Int32) → (Nat → Int32) → Int32 → Prop) (P : (Int32) → (Nat → Int32) → Prop) : Nat → (Int32) → (Nat → Int32) → (Int32) → (Int32) → (Int32) → Prop
  | 0, _, _, _, _, _ => False
  | n9 + 1, q_banks, q_memory, x2, x3, x4 => vp_in x2 10 ∧ (
    ((q_size x2.toNatClampNeg) ≤ x4 → K46 q_banks q_memory (x2 + (1 : Int32))) ∧
    (¬ (q_size x2.toNatClampNeg) ≤ x4 → vp_in (((48 : Int32) * x2) + x4) 480 ∧ (∀ z5 : Int32, z5 = q_bytes (((48 : Int32) * x2) + x4).toNatClampNeg → vp_in (((48 : Int32) * x2) + x4) 480 ∧ (∀ z6 : Int32, z6 = q_kind (((48 : Int32) * x2) + x4).toNatClampNeg → 
      (¬ z6 = 0 → 
        (¬ z6 = (1 : Int32) → vp_in z5 10 ∧ (vp_in (x3 + x4) 705 ∧ ((wp_Q_build_77 q_many q_size q_bytes q_kind q_bank q_address K46 P n9) q_banks (upd q_memory (x3 + x4).toNatClampNeg (q_bank z5.toNatClampNeg)) x2 x3 (x4 + (1 : Int32))))) ∧
        (z6 = (1 : Int32) → vp_in z5 10 ∧ (vp_in (x3 + x4) 705 ∧ ((wp_Q_build_77 q_many q_size q_bytes q_kind q_bank q_address K46 P n9) q_banks (upd q_memory (x3 + x4).toNatClampNeg (q_address z5.toNatClampNeg)) x2 x3 (x4 + (1 : Int32)))))) ∧
      (z6 = 0 → vp_in (x3 + x4) 705 ∧ ((wp_Q_build_77 q_many q_size q_bytes q_kind q_bank q_address K46 P n9) q_banks (upd q_memory (x3 + x4).toNatClampNeg z5) x2 x3 (x4 + (1 : Int32))))))))
def wp_Q_build_46 (q_many : Int32) (q_size q_bytes q_kind q_bank q_address : Nat → Int32) (P : (Int32) → (Nat → Int32) → Prop) : Nat → (Int32) → (Nat → Int32) → (Int32) → Prop
  | 0, _, _, _ => False
  | n9 + 1, q_banks, q_memory, x2 => 
    (q_many ≤ x2 → wp_Q_headCheck q_memory (fun r2 => wp_Q_imageCheck q_banks (upd q_memory (13 : Int32).toNatClampNeg r2) (fun r3 => P q_banks (upd (upd (upd q_memory (13 : Int32).toNatClampNeg r2) (14 : Int32).toNatClampNeg (r3 >>> ((8 : Int32) &&& 31))) (15 : Int32).toNatClampNeg (r3 &&& (255 : Int32)))))) ∧
    (¬ q_many ≤ x2 → vp_in x2 10 ∧ (vp_in x2 10 ∧ (∀ z4 : Int32, z4 = ((64 : Int32) * (q_bank x2.toNatClampNeg)) + ((q_address x2.toNatClampNeg) - (q_address x2.toNatClampNeg) / (64 : Int32) * (64 : Int32)) → ∃ j9 : Nat, wp_Q_build_77 q_many q_size q_bytes q_kind q_bank q_address (wp_Q_build_46 q_many q_size q_bytes q_kind q_bank q_address P n9) P j9 q_banks q_memory x2 z4 (0 : Int32))))
def wp_Q_build_7 (q_many : Int32) (q_size q_bytes q_kind q_bank q_address : Nat → Int32) (P : (Int32) → (Nat → Int32) → Prop) : Nat → (Int32) → (Nat → Int32) → (Int32) → (Int32) → Prop
  | 0, _, _, _, _ => False
  | n9 + 1, q_banks, q_memory, x1, x2 => 
    (((64 : Int32) * x1) ≤ x2 → ∃ j9 : Nat, wp_Q_build_46 q_many q_size q_bytes q_kind q_bank q_address P j9 q_banks q_memory (0 : Int32)) ∧
    (¬ ((64 : Int32) * x1) ≤ x2 → 
      ((32 : Int32) ≤ x2 → vp_in x2 705 ∧ ((wp_Q_build_7 q_many q_size q_bytes q_kind q_bank q_address P n9) q_banks (upd q_memory x2.toNatClampNeg (255 : Int32)) x1 (x2 + (1 : Int32)))) ∧
      (¬ (32 : Int32) ≤ x2 → wp_Q_headByte q_address q_banks x2 (fun r1 => vp_in x2 705 ∧ ((wp_Q_build_7 q_many q_size q_bytes q_kind q_bank q_address P n9) q_banks (upd q_memory x2.toNatClampNeg r1) x1 (x2 + (1 : Int32))))))
def wp_Q_build (q_many : Int32) (q_size q_bytes q_kind q_bank q_address : Nat → Int32) (q_banks : Int32) (q_memory : Nat → Int32) (a1 : Int32) (P : (Int32) → (Nat → Int32) → Prop) : Prop := ∃ j9 : Nat, wp_Q_build_7 q_many q_size q_bytes q_kind q_bank q_address P j9 a1 q_memory a1 (0 : Int32)
def wp_Q_get (q_banks : Int32) (q_memory q_register : Nat → Int32) (q_ram q_low q_top q_mode : Int32) (a1 : Int32) (P : Int32 → Prop) : Prop := 
  (¬ a1 = (6 : Int32) → vp_in a1 8 ∧ (P (q_register a1.toNatClampNeg))) ∧
  (a1 = (6 : Int32) → wp_Q_read q_banks q_memory q_ram q_low q_top q_mode (q_register (5 : Int32).toNatClampNeg) (fun r1 => P r1))
def wp_Q_next (q_banks : Int32) (q_memory : Nat → Int32) (q_place q_ram q_low q_top q_mode : Int32)  (P : Int32 → (Int32) → Prop) : Prop := wp_Q_read q_banks q_memory q_ram q_low q_top q_mode q_place (fun r1 => P r1 ((q_place + (1 : Int32)) - (q_place + (1 : Int32)) / (256 : Int32) * (256 : Int32)))
def wp_Q_peek (q_code q_linked q_banks : Int32) (q_memory : Nat → Int32) (q_ram q_low q_top q_mode : Int32) (a1 : Int32) (P : Int32 → (Int32) → Prop) : Prop := 
  (q_linked = 0 → wp_Q_refuse q_code (1 : Int32) (fun r1 w2 => P r1 w2)) ∧
  (¬ q_linked = 0 → wp_Q_outside a1 (0 : Int32) (255 : Int32) (fun r3 => 
    (r3 = 0 → wp_Q_read q_banks q_memory q_ram q_low q_top q_mode a1 (fun r4 => P r4 (0 : Int32))) ∧
    (¬ r3 = 0 → wp_Q_refuse q_code (1 : Int32) (fun r5 w6 => P r5 w6))))
def wp_Q_pop (q_banks : Int32) (q_memory : Nat → Int32) (q_stack q_ram q_low q_top q_mode : Int32)  (P : Int32 → (Int32) → Prop) : Prop := wp_Q_read q_banks q_memory q_ram q_low q_top q_mode q_stack (fun r1 => P r1 ((q_stack + (1 : Int32)) - (q_stack + (1 : Int32)) / (256 : Int32) * (256 : Int32)))
def wp_Q_push (q_banks : Int32) (q_memory : Nat → Int32) (q_stack q_ram q_low q_top q_mode : Int32) (a1 : Int32) (P : (Nat → Int32) → (Int32) → (Int32) → (Int32) → (Int32) → (Int32) → Prop) : Prop := wp_Q_write q_banks q_memory q_ram q_low q_top q_mode ((q_stack + (255 : Int32)) - (q_stack + (255 : Int32)) / (256 : Int32) * (256 : Int32)) a1 (fun w1 w2 w3 w4 w5 => P w1 ((q_stack + (255 : Int32)) - (q_stack + (255 : Int32)) / (256 : Int32) * (256 : Int32)) w2 w3 w4 w5)
def wp_Q_set (q_banks : Int32) (q_memory q_register : Nat → Int32) (q_ram q_low q_top q_mode : Int32) (a1 a2 : Int32) (P : (Nat → Int32) → (Nat → Int32) → (Int32) → (Int32) → (Int32) → (Int32) → Prop) : Prop := 
  (¬ a1 = (6 : Int32) → vp_in a1 8 ∧ (P q_memory (upd q_register a1.toNatClampNeg (a2 &&& (255 : Int32))) q_ram q_low q_top q_mode)) ∧
  (a1 = (6 : Int32) → wp_Q_write q_banks q_memory q_ram q_low q_top q_mode (q_register (5 : Int32).toNatClampNeg) (a2 &&& (255 : Int32)) (fun w1 w2 w3 w4 w5 => P w1 q_register w2 w3 w4 w5))
def wp_D_valid (k_ce : Nat → Int32) (k_bc : Int32)  (P : Int32 → Prop) (PX : Nat → Prop) : Prop := wp_K_isMade k_bc (fun r1 => 
  (¬ r1 = 0 → wp_K_verdict k_ce k_bc (fun r2 => P r2)) ∧
  (r1 = 0 → PX 3))
def wp_K_make_36 (s_ln s_kd s_vl : Nat → Int32) (s_ct : Int32) (l_bk l_of : Nat → Int32) (P : (Nat → Int32) → (Int32) → Prop) : Nat → (Nat → Int32) → (Int32) → (Int32) → Prop
  | 0, _, _, _ => False
  | n9 + 1, k_ce, k_bc, x4 => 
    (s_ct ≤ x4 → wp_P_addressOf l_bk l_of (0 : Int32) (fun r2 => wp_K_writeHead k_ce k_bc r2 (fun w3 => P w3 k_bc))) ∧
    (¬ s_ct ≤ x4 → wp_K_lay s_ln s_kd s_vl k_ce l_bk l_of x4 (fun w4 => (wp_K_make_36 s_ln s_kd s_vl s_ct l_bk l_of P n9) w4 k_bc (x4 + (1 : Int32))))
def wp_K_make_8 (s_ln s_kd s_vl : Nat → Int32) (s_ct : Int32) (l_bk l_of : Nat → Int32) (P : (Nat → Int32) → (Int32) → Prop) : Nat → (Nat → Int32) → (Int32) → (Int32) → Prop
  | 0, _, _, _ => False
  | n9 + 1, k_ce, k_bc, x4 => wp_K_size k_bc (fun r1 => 
    (r1 ≤ x4 → ∃ j9 : Nat, wp_K_make_36 s_ln s_kd s_vl s_ct l_bk l_of P j9 k_ce k_bc (0 : Int32)) ∧
    (¬ r1 ≤ x4 → vp_in x4 512 ∧ ((wp_K_make_8 s_ln s_kd s_vl s_ct l_bk l_of P n9) (upd k_ce x4.toNatClampNeg (255 : Int32)) k_bc (x4 + (1 : Int32)))))
def wp_K_make (s_ln s_kd s_vl : Nat → Int32) (s_ct : Int32) (k_ce : Nat → Int32) (k_bc : Int32) (l_bk l_of : Nat → Int32) (a3 : Int32) (P : (Nat → Int32) → (Int32) → Prop) : Prop := ∃ j9 : Nat, wp_K_make_8 s_ln s_kd s_vl s_ct l_bk l_of P j9 k_ce a3 (0 : Int32)
def wp_N_interruptFor (m_ra m_up : Nat → Int32) (m_on m_lo m_hi m_mo m_ma m_li n_st n_pl n_en : Int32) (a1 : Int32) (P : (Nat → Int32) → (Nat → Int32) → (Int32) → (Int32) → (Int32) → (Int32) → (Int32) → (Int32) → (Int32) → (Int32) → (Int32) → Prop) : Prop := wp_N_push m_ra m_up m_on m_lo m_hi m_mo m_ma (m_li &&& (((1 : Int32) <<< (a1 &&& 31)) ^^^ (-1 : Int32))) n_st n_pl (fun w1 w2 w3 w4 w5 w6 w7 w8 w9 => P w1 w2 w3 w4 w5 w6 w7 w8 w9 ((16 : Int32) + ((4 : Int32) * a1)) (0 : Int32))
def wp_N_obeyJump_58 (k_ce : Nat → Int32) (k_bc n_z n_c : Int32) (P : (Nat → Int32) → (Nat → Int32) → (Int32) → (Int32) → (Int32) → (Int32) → (Int32) → (Int32) → (Int32) → (Int32) → (Int32) → Prop) (m_ra m_up : Nat → Int32) (m_on m_lo m_hi m_mo m_ma m_li n_st n_pl n_co x1 x3 x4 : Int32) : Prop := 
  (x3 = 0 → 
    (¬ x1 = (3 : Int32) → P m_ra m_up m_on m_lo m_hi m_mo m_ma m_li n_st x4 n_co) ∧
    (x1 = (3 : Int32) → P m_ra m_up m_on m_lo m_hi m_mo m_ma m_li n_st ((n_pl + x4) &&& (255 : Int32)) n_co)) ∧
  (¬ x3 = 0 → wp_N_pull k_ce k_bc m_ra m_up m_on m_lo m_hi m_mo m_ma m_li n_st (fun r15 w16 => P m_ra m_up m_on m_lo m_hi m_mo m_ma m_li w16 r15 n_co))
def wp_N_obeyJump_34 (k_ce : Nat → Int32) (k_bc n_z n_c : Int32) (P : (Nat → Int32) → (Nat → Int32) → (Int32) → (Int32) → (Int32) → (Int32) → (Int32) → (Int32) → (Int32) → (Int32) → (Int32) → Prop) (m_ra m_up : Nat → Int32) (m_on m_lo m_hi m_mo m_ma m_li n_st n_pl n_co x1 x2 x3 y0 : Int32) : Prop := wp_N_holds n_z n_c x2 (fun r5 => 
  (¬ r5 = 0 → 
    (¬ x1 = (1 : Int32) → wp_N_obeyJump_58 k_ce k_bc n_z n_c P m_ra m_up m_on m_lo m_hi m_mo m_ma m_li n_st n_pl n_co x1 x3 y0) ∧
    (x1 = (1 : Int32) → wp_N_push m_ra m_up m_on m_lo m_hi m_mo m_ma m_li n_st n_pl (fun w6 w7 w8 w9 w10 w11 w12 w13 w14 => wp_N_obeyJump_58 k_ce k_bc n_z n_c P w6 w7 w8 w9 w10 w11 w12 w13 w14 n_pl n_co x1 x3 y0))) ∧
  (r5 = 0 → P m_ra m_up m_on m_lo m_hi m_mo m_ma m_li n_st n_pl n_co))
def wp_N_obeyJump (k_ce : Nat → Int32) (k_bc : Int32) (m_ra m_up : Nat → Int32) (m_on m_lo m_hi m_mo m_ma m_li n_st n_pl n_z n_c n_co : Int32) (a1 a2 : Int32) (P : (Nat → Int32) → (Nat → Int32) → (Int32) → (Int32) → (Int32) → (Int32) → (Int32) → (Int32) → (Int32) → (Int32) → (Int32) → Prop) : Prop := 
  (a2 ≤ (4 : Int32) → 
    (¬ a1 = (2 : Int32) → wp_N_next k_ce k_bc m_ra m_up m_on m_lo m_hi m_mo m_ma m_li n_pl (fun r1 w2 => wp_N_obeyJump_34 k_ce k_bc n_z n_c P m_ra m_up m_on m_lo m_hi m_mo m_ma m_li n_st w2 n_co a1 a2 (0 : Int32) r1)) ∧
    (a1 = (2 : Int32) → wp_N_obeyJump_34 k_ce k_bc n_z n_c P m_ra m_up m_on m_lo m_hi m_mo m_ma m_li n_st n_pl n_co a1 a2 (1 : Int32) (0 : Int32))) ∧
  (¬ a2 ≤ (4 : Int32) → wp_N_endAs n_pl n_co (3 : Int32) (fun w3 w4 => P m_ra m_up m_on m_lo m_hi m_mo m_ma m_li n_st w3 w4))
def wp_N_obeyOnBits (k_ce : Nat → Int32) (k_bc : Int32) (m_ra m_up : Nat → Int32) (m_on m_lo m_hi m_mo m_ma m_li : Int32) (n_rg : Nat → Int32) (n_z n_n n_h n_c : Int32) (a1 : Int32) (P : (Nat → Int32) → (Nat → Int32) → (Int32) → (Int32) → (Int32) → (Int32) → (Int32) → (Int32) → (Nat → Int32) → (Int32) → (Int32) → (Int32) → (Int32) → Prop) : Prop := ∀ z1 : Int32, z1 = a1 &&& (7 : Int32) → ∀ z2 : Int32, z2 = a1 >>> ((3 : Int32) &&& 31) → ∀ z3 : Int32, z3 = (1 : Int32) <<< ((z2 &&& (7 : Int32)) &&& 31) → 
  ((7 : Int32) ≤ z2 → 
    (z2 < (24 : Int32) → 
      (z2 < (16 : Int32) → 
        (z2 < (8 : Int32) → P m_ra m_up m_on m_lo m_hi m_mo m_ma m_li n_rg n_z n_n n_h n_c) ∧
        (¬ z2 < (8 : Int32) → wp_N_get k_ce k_bc m_ra m_up m_on m_lo m_hi m_mo m_ma m_li n_rg z1 (fun r4 => 
          (¬ (r4 &&& z3) = 0 → wp_N_setFlags n_z n_n n_h n_c (0 : Int32) (0 : Int32) (1 : Int32) n_c (fun w5 w6 w7 w8 => P m_ra m_up m_on m_lo m_hi m_mo m_ma m_li n_rg w5 w6 w7 w8)) ∧
          ((r4 &&& z3) = 0 → wp_N_setFlags n_z n_n n_h n_c (1 : Int32) (0 : Int32) (1 : Int32) n_c (fun w9 w10 w11 w12 => P m_ra m_up m_on m_lo m_hi m_mo m_ma m_li n_rg w9 w10 w11 w12))))) ∧
      (¬ z2 < (16 : Int32) → wp_N_get k_ce k_bc m_ra m_up m_on m_lo m_hi m_mo m_ma m_li n_rg z1 (fun r13 => wp_N_set m_ra m_up m_on m_lo m_hi m_mo m_ma m_li n_rg z1 (r13 &&& (z3 ^^^ (-1 : Int32))) (fun w14 w15 w16 w17 w18 w19 w20 w21 w22 => P w14 w15 w16 w17 w18 w19 w20 w21 w22 n_z n_n n_h n_c)))) ∧
    (¬ z2 < (24 : Int32) → wp_N_get k_ce k_bc m_ra m_up m_on m_lo m_hi m_mo m_ma m_li n_rg z1 (fun r23 => wp_N_set m_ra m_up m_on m_lo m_hi m_mo m_ma m_li n_rg z1 (r23 ||| z3) (fun w24 w25 w26 w27 w28 w29 w30 w31 w32 => P w24 w25 w26 w27 w28 w29 w30 w31 w32 n_z n_n n_h n_c)))) ∧
  (¬ (7 : Int32) ≤ z2 → wp_N_get k_ce k_bc m_ra m_up m_on m_lo m_hi m_mo m_ma m_li n_rg z1 (fun r33 => wp_N_shifted n_z n_n n_h n_c z2 r33 (fun r34 w35 w36 w37 w38 => wp_N_set m_ra m_up m_on m_lo m_hi m_mo m_ma m_li n_rg z1 r34 (fun w39 w40 w41 w42 w43 w44 w45 w46 w47 => P w39 w40 w41 w42 w43 w44 w45 w46 w47 w35 w36 w37 w38))))
def wp_N_obeyOnOne (k_ce : Nat → Int32) (k_bc : Int32) (m_ra m_up : Nat → Int32) (m_on m_lo m_hi m_mo m_ma m_li : Int32) (n_rg : Nat → Int32) (n_st n_pl n_z n_n n_h n_c : Int32) (a1 a2 : Int32) (P : (Nat → Int32) → (Nat → Int32) → (Int32) → (Int32) → (Int32) → (Int32) → (Int32) → (Int32) → (Nat → Int32) → (Int32) → (Int32) → (Int32) → (Int32) → (Int32) → (Int32) → Prop) : Prop := 
  (a1 = (2 : Int32) → wp_N_get k_ce k_bc m_ra m_up m_on m_lo m_hi m_mo m_ma m_li n_rg a2 (fun r1 => wp_N_oneMore n_z n_n n_h n_c r1 (fun r2 w3 w4 w5 w6 => wp_N_set m_ra m_up m_on m_lo m_hi m_mo m_ma m_li n_rg a2 r2 (fun w7 w8 w9 w10 w11 w12 w13 w14 w15 => P w7 w8 w9 w10 w11 w12 w13 w14 w15 n_st n_pl w3 w4 w5 w6)))) ∧
  (a1 = (3 : Int32) → wp_N_get k_ce k_bc m_ra m_up m_on m_lo m_hi m_mo m_ma m_li n_rg a2 (fun r16 => wp_N_oneLess n_z n_n n_h n_c r16 (fun r17 w18 w19 w20 w21 => wp_N_set m_ra m_up m_on m_lo m_hi m_mo m_ma m_li n_rg a2 r17 (fun w22 w23 w24 w25 w26 w27 w28 w29 w30 => P w22 w23 w24 w25 w26 w27 w28 w29 w30 n_st n_pl w18 w19 w20 w21)))) ∧
  (a1 = (4 : Int32) → wp_N_get k_ce k_bc m_ra m_up m_on m_lo m_hi m_mo m_ma m_li n_rg a2 (fun r31 => wp_N_push m_ra m_up m_on m_lo m_hi m_mo m_ma m_li n_st r31 (fun w32 w33 w34 w35 w36 w37 w38 w39 w40 => P w32 w33 w34 w35 w36 w37 w38 w39 n_rg w40 n_pl n_z n_n n_h n_c))) ∧
  (a1 = (5 : Int32) → wp_N_pull k_ce k_bc m_ra m_up m_on m_lo m_hi m_mo m_ma m_li n_st (fun r41 w42 => wp_N_set m_ra m_up m_on m_lo m_hi m_mo m_ma m_li n_rg a2 r41 (fun w43 w44 w45 w46 w47 w48 w49 w50 w51 => P w43 w44 w45 w46 w47 w48 w49 w50 w51 w42 n_pl n_z n_n n_h n_c))) ∧
  (a1 = (6 : Int32) → wp_N_next k_ce k_bc m_ra m_up m_on m_lo m_hi m_mo m_ma m_li n_pl (fun r52 w53 => wp_N_set m_ra m_up m_on m_lo m_hi m_mo m_ma m_li n_rg a2 r52 (fun w54 w55 w56 w57 w58 w59 w60 w61 w62 => P w54 w55 w56 w57 w58 w59 w60 w61 w62 n_st w53 n_z n_n n_h n_c))) ∧
  (¬ a1 = (2 : Int32) → ¬ a1 = (3 : Int32) → ¬ a1 = (4 : Int32) → ¬ a1 = (5 : Int32) → ¬ a1 = (6 : Int32) → wp_N_get k_ce k_bc m_ra m_up m_on m_lo m_hi m_mo m_ma m_li n_rg a2 (fun r63 => wp_N_exchanged n_z n_n n_h n_c r63 (fun r64 w65 w66 w67 w68 => wp_N_set m_ra m_up m_on m_lo m_hi m_mo m_ma m_li n_rg a2 r64 (fun w69 w70 w71 w72 w73 w74 w75 w76 w77 => P w69 w70 w71 w72 w73 w74 w75 w76 w77 n_st n_pl w65 w66 w67 w68))))
def wp_N_obeySingle (k_ce : Nat → Int32) (k_bc : Int32) (m_ra m_up : Nat → Int32) (m_on m_lo m_hi m_mo m_ma m_li : Int32) (n_rg n_sb : Nat → Int32) (n_st n_pl n_z n_n n_h n_c n_en n_so n_co n_sc : Int32) (a1 : Int32) (P : (Nat → Int32) → (Nat → Int32) → (Int32) → (Int32) → (Int32) → (Int32) → (Int32) → (Int32) → (Int32) → (Int32) → (Int32) → (Int32) → Prop) : Prop := 
  (a1 = (0 : Int32) → P n_rg n_sb n_st n_pl n_z n_n n_h n_c n_en n_so n_co n_sc) ∧
  (a1 = (1 : Int32) → wp_N_endAs n_pl n_co (1 : Int32) (fun w1 w2 => P n_rg n_sb n_st w1 n_z n_n n_h n_c n_en n_so w2 n_sc)) ∧
  (a1 = (2 : Int32) → wp_N_endAs n_pl n_co (2 : Int32) (fun w3 w4 => P n_rg n_sb n_st w3 n_z n_n n_h n_c n_en n_so w4 n_sc)) ∧
  (a1 = (3 : Int32) → P n_rg n_sb n_st n_pl n_z n_n n_h n_c (0 : Int32) n_so n_co n_sc) ∧
  (a1 = (4 : Int32) → P n_rg n_sb n_st n_pl n_z n_n n_h n_c n_en (1 : Int32) n_co n_sc) ∧
  (a1 = (5 : Int32) → wp_N_pull k_ce k_bc m_ra m_up m_on m_lo m_hi m_mo m_ma m_li n_st (fun r5 w6 => P n_rg n_sb w6 r5 n_z n_n n_h n_c (1 : Int32) n_so n_co n_sc)) ∧
  (a1 = (6 : Int32) → wp_N_adjust n_rg n_z n_n n_h n_c (fun w7 w8 w9 w10 w11 => P w7 n_sb n_st n_pl w8 w9 w10 w11 n_en n_so n_co n_sc)) ∧
  (a1 = (7 : Int32) → wp_N_setFlags n_z n_n n_h n_c n_z (1 : Int32) (1 : Int32) n_c (fun w12 w13 w14 w15 => P (upd n_rg (7 : Int32).toNatClampNeg ((n_rg (7 : Int32).toNatClampNeg) ^^^ (255 : Int32))) n_sb n_st n_pl w12 w13 w14 w15 n_en n_so n_co n_sc)) ∧
  (a1 = (8 : Int32) → wp_N_setFlags n_z n_n n_h n_c n_z (0 : Int32) (0 : Int32) (1 : Int32) (fun w16 w17 w18 w19 => P n_rg n_sb n_st n_pl w16 w17 w18 w19 n_en n_so n_co n_sc)) ∧
  (a1 = (9 : Int32) → 
    (¬ n_c = 0 → wp_N_setFlags n_z n_n n_h n_c n_z (0 : Int32) (0 : Int32) (0 : Int32) (fun w20 w21 w22 w23 => P n_rg n_sb n_st n_pl w20 w21 w22 w23 n_en n_so n_co n_sc)) ∧
    (n_c = 0 → wp_N_setFlags n_z n_n n_h n_c n_z (0 : Int32) (0 : Int32) (1 : Int32) (fun w24 w25 w26 w27 => P n_rg n_sb n_st n_pl w24 w25 w26 w27 n_en n_so n_co n_sc))) ∧
  (a1 = (10 : Int32) → wp_N_pull k_ce k_bc m_ra m_up m_on m_lo m_hi m_mo m_ma m_li n_st (fun r28 w29 => P n_rg n_sb w29 r28 n_z n_n n_h n_c n_en n_so n_co n_sc)) ∧
  (a1 = (11 : Int32) → wp_N_send n_sb n_sc (n_rg (7 : Int32).toNatClampNeg) (fun w30 w31 => P n_rg w30 n_st n_pl n_z n_n n_h n_c n_en n_so n_co w31)) ∧
  (¬ a1 = (0 : Int32) → ¬ a1 = (1 : Int32) → ¬ a1 = (2 : Int32) → ¬ a1 = (3 : Int32) → ¬ a1 = (4 : Int32) → ¬ a1 = (5 : Int32) → ¬ a1 = (6 : Int32) → ¬ a1 = (7 : Int32) → ¬ a1 = (8 : Int32) → ¬ a1 = (9 : Int32) → ¬ a1 = (10 : Int32) → ¬ a1 = (11 : Int32) → wp_N_endAs n_pl n_co (3 : Int32) (fun w32 w33 => P n_rg n_sb n_st w32 n_z n_n n_h n_c n_en n_so w33 n_sc))
def wp_N_shown_71 (k_ce : Nat → Int32) (k_bc : Int32) (m_ra m_up : Nat → Int32) (m_on m_lo m_hi m_mo m_ma m_li : Int32) (n_rg : Nat → Int32) (n_st n_pl n_z n_n n_h n_c n_en : Int32) (P : Int32 → Prop) (y0 y1 : Int32) : Prop := 
  (n_h = 0 → wp_N_carryBit n_c (fun r3 => P (((y1 + y0) + (0 : Int32)) + r3))) ∧
  (¬ n_h = 0 → wp_N_carryBit n_c (fun r4 => P (((y1 + y0) + (2 : Int32)) + r4)))
def wp_N_shown (k_ce : Nat → Int32) (k_bc : Int32) (m_ra m_up : Nat → Int32) (m_on m_lo m_hi m_mo m_ma m_li : Int32) (n_rg : Nat → Int32) (n_st n_pl n_z n_n n_h n_c n_en : Int32) (a1 : Int32) (P : Int32 → Prop) : Prop := 
  (a1 = (8 : Int32) → P n_st) ∧
  (a1 = (9 : Int32) → P n_pl) ∧
  (a1 = (10 : Int32) → 
    (n_z = 0 → 
      (n_n = 0 → wp_N_shown_71 k_ce k_bc m_ra m_up m_on m_lo m_hi m_mo m_ma m_li n_rg n_st n_pl n_z n_n n_h n_c n_en P (0 : Int32) (0 : Int32)) ∧
      (¬ n_n = 0 → wp_N_shown_71 k_ce k_bc m_ra m_up m_on m_lo m_hi m_mo m_ma m_li n_rg n_st n_pl n_z n_n n_h n_c n_en P (4 : Int32) (0 : Int32))) ∧
    (¬ n_z = 0 → 
      (n_n = 0 → wp_N_shown_71 k_ce k_bc m_ra m_up m_on m_lo m_hi m_mo m_ma m_li n_rg n_st n_pl n_z n_n n_h n_c n_en P (0 : Int32) (8 : Int32)) ∧
      (¬ n_n = 0 → wp_N_shown_71 k_ce k_bc m_ra m_up m_on m_lo m_hi m_mo m_ma m_li n_rg n_st n_pl n_z n_n n_h n_c n_en P (4 : Int32) (8 : Int32)))) ∧
  (a1 = (11 : Int32) → wp_M_switches m_on m_lo m_hi m_mo (fun r1 => P r1)) ∧
  (a1 = (12 : Int32) → 
    (n_en = 0 → P (0 : Int32)) ∧
    (¬ n_en = 0 → P (1 : Int32))) ∧
  (¬ a1 = (8 : Int32) → ¬ a1 = (9 : Int32) → ¬ a1 = (10 : Int32) → ¬ a1 = (11 : Int32) → ¬ a1 = (12 : Int32) → wp_N_get k_ce k_bc m_ra m_up m_on m_lo m_hi m_mo m_ma m_li n_rg (a1 &&& (7 : Int32)) (fun r2 => P r2))
def wp_P_pack_10 (s_bk s_ln : Nat → Int32) (s_ct : Int32) (P : Int32 → (Nat → Int32) → (Nat → Int32) → (Nat → Int32) → (Int32) → Prop) : Nat → (Nat → Int32) → (Nat → Int32) → (Nat → Int32) → (Int32) → (Int32) → (Int32) → Prop
  | 0, _, _, _, _, _, _ => False
  | n9 + 1, t_bk, t_of, t_en, t_ct, x2, x3 => 
    ((8 : Int32) ≤ x3 → wp_P_packPinned s_bk s_ln t_bk t_of t_en t_ct x2 (fun r1 w2 w3 w4 => 
      (r1 = 0 → P (0 : Int32) w2 w3 w4 t_ct) ∧
      (¬ r1 = 0 → wp_P_packFloating s_bk s_ln w2 w3 w4 t_ct x2 (fun r5 w6 w7 w8 => 
        (r5 = 0 → P (0 : Int32) w6 w7 w8 t_ct) ∧
        (¬ r5 = 0 → P (1 : Int32) w6 w7 w8 t_ct))))) ∧
    (¬ (8 : Int32) ≤ x3 → 
      (¬ x3 = 0 → vp_in x3 8 ∧ ((wp_P_pack_10 s_bk s_ln s_ct P n9) t_bk t_of (upd t_en x3.toNatClampNeg (0 : Int32)) t_ct x2 (x3 + (1 : Int32)))) ∧
      (x3 = 0 → vp_in x3 8 ∧ ((wp_P_pack_10 s_bk s_ln s_ct P n9) t_bk t_of (upd t_en x3.toNatClampNeg (32 : Int32)) t_ct x2 (x3 + (1 : Int32)))))
def wp_P_pack (s_bk s_ln : Nat → Int32) (s_ct : Int32) (t_bk t_of t_en : Nat → Int32) (t_ct : Int32) (a2 : Int32) (P : Int32 → (Nat → Int32) → (Nat → Int32) → (Nat → Int32) → (Int32) → Prop) : Prop := ∃ j9 : Nat, wp_P_pack_10 s_bk s_ln s_ct P j9 t_bk t_of t_en s_ct a2 (0 : Int32)
def wp_Q_bits (q_banks : Int32) (q_memory q_register : Nat → Int32) (q_zero q_less q_half q_carry q_ram q_low q_top q_mode : Int32) (a1 : Int32) (P : (Nat → Int32) → (Nat → Int32) → (Int32) → (Int32) → (Int32) → (Int32) → (Int32) → (Int32) → (Int32) → (Int32) → Prop) : Prop := ∀ z1 : Int32, z1 = a1 - a1 / (8 : Int32) * (8 : Int32) → ∀ z2 : Int32, z2 = a1 / (8 : Int32) → ∀ z3 : Int32, z3 = (1 : Int32) <<< ((z2 - z2 / (8 : Int32) * (8 : Int32)) &&& 31) → 
  (¬ z2 = (7 : Int32) → wp_Q_get q_banks q_memory q_register q_ram q_low q_top q_mode z1 (fun r4 => 
    ((7 : Int32) ≤ z2 → 
      ((16 : Int32) ≤ z2 → 
        ((24 : Int32) ≤ z2 → wp_Q_set q_banks q_memory q_register q_ram q_low q_top q_mode z1 (r4 ||| z3) (fun w5 w6 w7 w8 w9 w10 => P w5 w6 q_zero q_less q_half q_carry w7 w8 w9 w10)) ∧
        (¬ (24 : Int32) ≤ z2 → wp_Q_set q_banks q_memory q_register q_ram q_low q_top q_mode z1 (r4 &&& ((255 : Int32) - z3)) (fun w11 w12 w13 w14 w15 w16 => P w11 w12 q_zero q_less q_half q_carry w13 w14 w15 w16))) ∧
      (¬ (16 : Int32) ≤ z2 → 
        (¬ (r4 &&& z3) = 0 → P q_memory q_register (0 : Int32) (0 : Int32) (1 : Int32) q_carry q_ram q_low q_top q_mode) ∧
        ((r4 &&& z3) = 0 → P q_memory q_register (1 : Int32) (0 : Int32) (1 : Int32) q_carry q_ram q_low q_top q_mode))) ∧
    (¬ (7 : Int32) ≤ z2 → wp_Q_turned q_zero q_less q_half q_carry z2 r4 (fun r17 w18 w19 w20 w21 => wp_Q_set q_banks q_memory q_register q_ram q_low q_top q_mode z1 r17 (fun w22 w23 w24 w25 w26 w27 => P w22 w23 w18 w19 w20 w21 w24 w25 w26 w27))))) ∧
  (z2 = (7 : Int32) → P q_memory q_register q_zero q_less q_half q_carry q_ram q_low q_top q_mode)
def wp_Q_few_172 (q_banks : Int32) (q_memory : Nat → Int32) (q_ram q_low q_top q_mode : Int32) (P : (Nat → Int32) → (Int32) → (Int32) → (Int32) → (Int32) → (Int32) → (Int32) → (Int32) → (Int32) → (Int32) → (Int32) → (Nat → Int32) → Prop) (q_register : Nat → Int32) (q_stack q_place q_zero q_less q_half q_carry q_enabled q_soon q_state q_sent : Int32) (q_out : Nat → Int32) (x1 : Int32) : Prop := wp_Q_pop q_banks q_memory q_stack q_ram q_low q_top q_mode (fun r11 w12 => 
  (¬ q_enabled = 0 → P q_register w12 r11 q_zero q_less q_half q_carry (1 : Int32) q_soon q_state q_sent q_out) ∧
  (q_enabled = 0 → 
    (¬ x1 = (5 : Int32) → P q_register w12 r11 q_zero q_less q_half q_carry (0 : Int32) q_soon q_state q_sent q_out) ∧
    (x1 = (5 : Int32) → P q_register w12 r11 q_zero q_less q_half q_carry (1 : Int32) q_soon q_state q_sent q_out)))
def wp_Q_few_137 (q_banks : Int32) (q_memory : Nat → Int32) (q_ram q_low q_top q_mode : Int32) (P : (Nat → Int32) → (Int32) → (Int32) → (Int32) → (Int32) → (Int32) → (Int32) → (Int32) → (Int32) → (Int32) → (Int32) → (Nat → Int32) → Prop) (q_register : Nat → Int32) (q_stack q_place q_zero q_less q_half q_carry q_enabled q_soon q_state q_sent : Int32) (q_out : Nat → Int32) (x1 : Int32) : Prop := 
  (x1 = (8 : Int32) → P q_register q_stack q_place q_zero (0 : Int32) (0 : Int32) (1 : Int32) q_enabled q_soon q_state q_sent q_out) ∧
  (¬ x1 = (8 : Int32) → 
    (¬ q_carry = 0 → P q_register q_stack q_place q_zero (0 : Int32) (0 : Int32) (0 : Int32) q_enabled q_soon q_state q_sent q_out) ∧
    (q_carry = 0 → P q_register q_stack q_place q_zero (0 : Int32) (0 : Int32) (1 : Int32) q_enabled q_soon q_state q_sent q_out))
def wp_Q_few (q_banks : Int32) (q_memory q_register : Nat → Int32) (q_stack q_place q_zero q_less q_half q_carry q_enabled q_soon q_ram q_low q_top q_mode q_state q_sent : Int32) (q_out : Nat → Int32) (a1 : Int32) (P : (Nat → Int32) → (Int32) → (Int32) → (Int32) → (Int32) → (Int32) → (Int32) → (Int32) → (Int32) → (Int32) → (Int32) → (Nat → Int32) → Prop) : Prop := 
  (a1 = (0 : Int32) → P q_register q_stack q_place q_zero q_less q_half q_carry q_enabled q_soon q_state q_sent q_out) ∧
  (a1 = (1 : Int32) → wp_Q_stand q_place q_state (1 : Int32) (fun w1 w2 => P q_register q_stack w1 q_zero q_less q_half q_carry q_enabled q_soon w2 q_sent q_out)) ∧
  (a1 = (2 : Int32) → wp_Q_stand q_place q_state (2 : Int32) (fun w3 w4 => P q_register q_stack w3 q_zero q_less q_half q_carry q_enabled q_soon w4 q_sent q_out)) ∧
  (a1 = (3 : Int32) → P q_register q_stack q_place q_zero q_less q_half q_carry (0 : Int32) q_soon q_state q_sent q_out) ∧
  (a1 = (4 : Int32) → P q_register q_stack q_place q_zero q_less q_half q_carry q_enabled (1 : Int32) q_state q_sent q_out) ∧
  (a1 = (5 : Int32) → wp_Q_few_172 q_banks q_memory q_ram q_low q_top q_mode P q_register q_stack q_place q_zero q_less q_half q_carry q_enabled q_soon q_state q_sent q_out a1) ∧
  (a1 = (6 : Int32) → wp_Q_adjust q_register q_zero q_less q_half q_carry (fun w5 w6 w7 w8 => P w5 q_stack q_place w6 q_less w7 w8 q_enabled q_soon q_state q_sent q_out)) ∧
  (a1 = (7 : Int32) → P (upd q_register (7 : Int32).toNatClampNeg ((255 : Int32) - (q_register (7 : Int32).toNatClampNeg))) q_stack q_place q_zero (1 : Int32) (1 : Int32) q_carry q_enabled q_soon q_state q_sent q_out) ∧
  (a1 = (8 : Int32) → wp_Q_few_137 q_banks q_memory q_ram q_low q_top q_mode P q_register q_stack q_place q_zero q_less q_half q_carry q_enabled q_soon q_state q_sent q_out a1) ∧
  (a1 = (9 : Int32) → wp_Q_few_137 q_banks q_memory q_ram q_low q_top q_mode P q_register q_stack q_place q_zero q_less q_half q_carry q_enabled q_soon q_state q_sent q_out a1) ∧
  (a1 = (10 : Int32) → wp_Q_few_172 q_banks q_memory q_ram q_low q_top q_mode P q_register q_stack q_place q_zero q_less q_half q_carry q_enabled q_soon q_state q_sent q_out a1) ∧
  (a1 = (11 : Int32) → 
    ((100 : Int32) ≤ q_sent → P q_register q_stack q_place q_zero q_less q_half q_carry q_enabled q_soon q_state (q_sent + (1 : Int32)) q_out) ∧
    (¬ (100 : Int32) ≤ q_sent → vp_in q_sent 100 ∧ (P q_register q_stack q_place q_zero q_less q_half q_carry q_enabled q_soon q_state (q_sent + (1 : Int32)) (upd q_out q_sent.toNatClampNeg (q_register (7 : Int32).toNatClampNeg))))) ∧
  (¬ a1 = (0 : Int32) → ¬ a1 = (1 : Int32) → ¬ a1 = (2 : Int32) → ¬ a1 = (3 : Int32) → ¬ a1 = (4 : Int32) → ¬ a1 = (5 : Int32) → ¬ a1 = (6 : Int32) → ¬ a1 = (7 : Int32) → ¬ a1 = (8 : Int32) → ¬ a1 = (9 : Int32) → ¬ a1 = (10 : Int32) → ¬ a1 = (11 : Int32) → wp_Q_stand q_place q_state (3 : Int32) (fun w9 w10 => P q_register q_stack w9 q_zero q_less q_half q_carry q_enabled q_soon w10 q_sent q_out))
def wp_Q_interrupt_2 (q_banks : Int32) (P : (Nat → Int32) → (Int32) → (Int32) → (Int32) → (Int32) → (Int32) → (Int32) → (Int32) → Prop) : Nat → (Nat → Int32) → (Int32) → (Int32) → (Int32) → (Int32) → (Int32) → (Int32) → (Int32) → (Int32) → (Int32) → Prop
  | 0, _, _, _, _, _, _, _, _, _, _ => False
  | n9 + 1, q_memory, q_stack, q_place, q_enabled, q_ram, q_low, q_top, q_mode, x1, x2 => 
    (¬ ((x1 >>> (x2 &&& 31)) &&& (1 : Int32)) = 0 → wp_Q_push q_banks (upd q_memory (703 : Int32).toNatClampNeg ((q_memory (703 : Int32).toNatClampNeg) - ((1 : Int32) <<< (x2 &&& 31)))) q_stack q_ram q_low q_top q_mode q_place (fun w1 w2 w3 w4 w5 w6 => P w1 w2 ((16 : Int32) + ((4 : Int32) * x2)) (0 : Int32) w3 w4 w5 w6)) ∧
    (((x1 >>> (x2 &&& 31)) &&& (1 : Int32)) = 0 → (wp_Q_interrupt_2 q_banks P n9) q_memory q_stack q_place q_enabled q_ram q_low q_top q_mode x1 (x2 + (1 : Int32)))
def wp_Q_interrupt (q_banks : Int32) (q_memory : Nat → Int32) (q_stack q_place q_enabled q_ram q_low q_top q_mode : Int32) (a1 : Int32) (P : (Nat → Int32) → (Int32) → (Int32) → (Int32) → (Int32) → (Int32) → (Int32) → (Int32) → Prop) : Prop := ∃ j9 : Nat, wp_Q_interrupt_2 q_banks P j9 q_memory q_stack q_place q_enabled q_ram q_low q_top q_mode a1 (0 : Int32)
def wp_Q_lead_78 (q_banks q_zero q_carry : Int32) (P : (Nat → Int32) → (Int32) → (Int32) → (Int32) → (Int32) → (Int32) → (Int32) → (Int32) → Prop) (q_memory : Nat → Int32) (q_stack q_place q_ram q_low q_top q_mode q_state x3 x4 y0 : Int32) : Prop := 
  (¬ x3 = (2 : Int32) → 
    (¬ x3 = (3 : Int32) → P q_memory q_stack x4 q_ram q_low q_top q_mode q_state) ∧
    (x3 = (3 : Int32) → P q_memory q_stack (((q_place + y0) + (256 : Int32)) - ((q_place + y0) + (256 : Int32)) / (256 : Int32) * (256 : Int32)) q_ram q_low q_top q_mode q_state)) ∧
  (x3 = (2 : Int32) → wp_Q_pop q_banks q_memory q_stack q_ram q_low q_top q_mode (fun r14 w15 => P q_memory w15 r14 q_ram q_low q_top q_mode q_state))
def wp_Q_lead_36 (q_banks q_zero q_carry : Int32) (P : (Nat → Int32) → (Int32) → (Int32) → (Int32) → (Int32) → (Int32) → (Int32) → (Int32) → Prop) (q_memory : Nat → Int32) (q_stack q_place q_ram q_low q_top q_mode q_state x2 x3 y0 : Int32) : Prop := wp_Q_holds q_zero q_carry x2 (fun r7 => 
  (¬ r7 = 0 → 
    (¬ x3 = (1 : Int32) → 
      (y0 ≤ (127 : Int32) → wp_Q_lead_78 q_banks q_zero q_carry P q_memory q_stack q_place q_ram q_low q_top q_mode q_state x3 y0 y0) ∧
      (¬ y0 ≤ (127 : Int32) → wp_Q_lead_78 q_banks q_zero q_carry P q_memory q_stack q_place q_ram q_low q_top q_mode q_state x3 y0 (y0 - (256 : Int32)))) ∧
    (x3 = (1 : Int32) → wp_Q_push q_banks q_memory q_stack q_ram q_low q_top q_mode q_place (fun w8 w9 w10 w11 w12 w13 => 
      (y0 ≤ (127 : Int32) → wp_Q_lead_78 q_banks q_zero q_carry P w8 w9 q_place w10 w11 w12 w13 q_state x3 y0 y0) ∧
      (¬ y0 ≤ (127 : Int32) → wp_Q_lead_78 q_banks q_zero q_carry P w8 w9 q_place w10 w11 w12 w13 q_state x3 y0 (y0 - (256 : Int32)))))) ∧
  (r7 = 0 → P q_memory q_stack q_place q_ram q_low q_top q_mode q_state))
def wp_Q_lead (q_banks : Int32) (q_memory : Nat → Int32) (q_stack q_place q_zero q_carry q_ram q_low q_top q_mode q_state : Int32) (a1 : Int32) (P : (Nat → Int32) → (Int32) → (Int32) → (Int32) → (Int32) → (Int32) → (Int32) → (Int32) → Prop) : Prop := ∀ z1 : Int32, z1 = a1 - a1 / (8 : Int32) * (8 : Int32) → ∀ z2 : Int32, z2 = (a1 / (8 : Int32)) - (a1 / (8 : Int32)) / (4 : Int32) * (4 : Int32) → 
  (z1 ≤ (4 : Int32) → 
    (¬ z2 = (2 : Int32) → wp_Q_next q_banks q_memory q_place q_ram q_low q_top q_mode (fun r3 w4 => wp_Q_lead_36 q_banks q_zero q_carry P q_memory q_stack w4 q_ram q_low q_top q_mode q_state z1 z2 r3)) ∧
    (z2 = (2 : Int32) → wp_Q_lead_36 q_banks q_zero q_carry P q_memory q_stack q_place q_ram q_low q_top q_mode q_state z1 z2 (0 : Int32))) ∧
  (¬ z1 ≤ (4 : Int32) → wp_Q_stand q_place q_state (3 : Int32) (fun w5 w6 => P q_memory q_stack w5 q_ram q_low q_top q_mode w6))
def wp_Q_link_81 (q_many : Int32) (q_pin q_size q_bytes q_kind : Nat → Int32) (P : Int32 → (Int32) → (Nat → Int32) → (Nat → Int32) → (Nat → Int32) → (Int32) → (Nat → Int32) → (Nat → Int32) → (Int32) → (Nat → Int32) → (Nat → Int32) → (Int32) → (Int32) → (Int32) → (Int32) → (Int32) → (Int32) → (Int32) → (Int32) → (Int32) → (Int32) → (Int32) → (Int32) → (Int32) → (Int32) → Prop) : Nat → (Int32) → (Nat → Int32) → (Nat → Int32) → (Nat → Int32) → (Int32) → (Nat → Int32) → (Nat → Int32) → (Int32) → (Nat → Int32) → (Nat → Int32) → (Int32) → (Int32) → (Int32) → (Int32) → (Int32) → (Int32) → (Int32) → (Int32) → (Int32) → (Int32) → (Int32) → (Int32) → (Int32) → (Int32) → (Int32) → (Int32) → Prop
  | 0, _, _, _, _, _, _, _, _, _, _, _, _, _, _, _, _, _, _, _, _, _, _, _, _, _, _ => False
  | n9 + 1, q_code, q_bank, q_address, q_full, q_linked, q_packedBank, q_packedAddress, q_banks, q_memory, q_register, q_stack, q_place, q_zero, q_less, q_half, q_carry, q_enabled, q_soon, q_ram, q_low, q_top, q_mode, q_state, q_sent, x2, x3 => 
    (q_many ≤ x3 → wp_Q_begin q_memory q_register q_stack q_place q_zero q_less q_half q_carry q_enabled q_soon q_ram q_low q_top q_mode q_state q_sent (fun w8 w9 w10 w11 w12 w13 w14 w15 w16 w17 w18 w19 w20 w21 w22 w23 => P x2 q_code q_bank q_address q_full q_linked q_packedBank q_packedAddress q_banks w8 w9 w10 w11 w12 w13 w14 w15 w16 w17 w18 w19 w20 w21 w22 w23)) ∧
    (¬ q_many ≤ x3 → vp_in x3 10 ∧ (vp_in x3 10 ∧ (vp_in x3 10 ∧ (vp_in x3 10 ∧ (vp_in x3 10 ∧ (∀ z24 : Int32, z24 = x2 + (q_size x3.toNatClampNeg) → (wp_Q_link_81 q_many q_pin q_size q_bytes q_kind P n9) q_code q_bank q_address q_full q_linked (upd q_packedBank x3.toNatClampNeg (q_bank x3.toNatClampNeg)) (upd q_packedAddress x3.toNatClampNeg (q_address x3.toNatClampNeg)) q_banks q_memory q_register q_stack q_place q_zero q_less q_half q_carry q_enabled q_soon q_ram q_low q_top q_mode q_state q_sent z24 (x3 + (1 : Int32))))))))
def wp_Q_link_52 (q_many : Int32) (q_pin q_size q_bytes q_kind : Nat → Int32) (P : Int32 → (Int32) → (Nat → Int32) → (Nat → Int32) → (Nat → Int32) → (Int32) → (Nat → Int32) → (Nat → Int32) → (Int32) → (Nat → Int32) → (Nat → Int32) → (Int32) → (Int32) → (Int32) → (Int32) → (Int32) → (Int32) → (Int32) → (Int32) → (Int32) → (Int32) → (Int32) → (Int32) → (Int32) → (Int32) → Prop) (q_code : Int32) (q_bank q_address q_full : Nat → Int32) (q_linked : Int32) (q_packedBank q_packedAddress : Nat → Int32) (q_banks : Int32) (q_memory q_register : Nat → Int32) (q_stack q_place q_zero q_less q_half q_carry q_enabled q_soon q_ram q_low q_top q_mode q_state q_sent x1 y0 : Int32) : Prop := 
  (y0 ≤ 0 → wp_Q_build q_many q_size q_bytes q_kind q_bank q_address q_banks q_memory x1 (fun w6 w7 => ∃ j9 : Nat, wp_Q_link_81 q_many q_pin q_size q_bytes q_kind P j9 y0 q_bank q_address q_full q_many q_packedBank q_packedAddress w6 w7 q_register q_stack q_place q_zero q_less q_half q_carry q_enabled q_soon q_ram q_low q_top q_mode q_state q_sent (0 : Int32) (0 : Int32))) ∧
  (¬ y0 ≤ 0 → P (0 : Int32) y0 q_bank q_address q_full q_linked q_packedBank q_packedAddress q_banks q_memory q_register q_stack q_place q_zero q_less q_half q_carry q_enabled q_soon q_ram q_low q_top q_mode q_state q_sent)
def wp_Q_link_21 (q_many : Int32) (q_pin q_size q_bytes q_kind : Nat → Int32) (P : Int32 → (Int32) → (Nat → Int32) → (Nat → Int32) → (Nat → Int32) → (Int32) → (Nat → Int32) → (Nat → Int32) → (Int32) → (Nat → Int32) → (Nat → Int32) → (Int32) → (Int32) → (Int32) → (Int32) → (Int32) → (Int32) → (Int32) → (Int32) → (Int32) → (Int32) → (Int32) → (Int32) → (Int32) → (Int32) → Prop) (q_code : Int32) (q_bank q_address q_full : Nat → Int32) (q_linked : Int32) (q_packedBank q_packedAddress : Nat → Int32) (q_banks : Int32) (q_memory q_register : Nat → Int32) (q_stack q_place q_zero q_less q_half q_carry q_enabled q_soon q_ram q_low q_top q_mode q_state q_sent x1 : Int32) : Prop := 
  (q_many = 0 → wp_Q_link_52 q_many q_pin q_size q_bytes q_kind P q_code q_bank q_address q_full q_linked q_packedBank q_packedAddress q_banks q_memory q_register q_stack q_place q_zero q_less q_half q_carry q_enabled q_soon q_ram q_low q_top q_mode q_state q_sent x1 (2 : Int32)) ∧
  (¬ q_many = 0 → wp_Q_allKnown q_many q_size q_bytes q_kind (fun r1 => 
    (¬ r1 = 0 → wp_Q_pack q_many q_pin q_size q_bank q_address q_full x1 (fun r2 w3 w4 w5 => 
      (r2 = 0 → wp_Q_link_52 q_many q_pin q_size q_bytes q_kind P q_code w3 w4 w5 q_linked q_packedBank q_packedAddress q_banks q_memory q_register q_stack q_place q_zero q_less q_half q_carry q_enabled q_soon q_ram q_low q_top q_mode q_state q_sent x1 (3 : Int32)) ∧
      (¬ r2 = 0 → wp_Q_link_52 q_many q_pin q_size q_bytes q_kind P q_code w3 w4 w5 q_linked q_packedBank q_packedAddress q_banks q_memory q_register q_stack q_place q_zero q_less q_half q_carry q_enabled q_soon q_ram q_low q_top q_mode q_state q_sent x1 (0 : Int32)))) ∧
    (r1 = 0 → wp_Q_link_52 q_many q_pin q_size q_bytes q_kind P q_code q_bank q_address q_full q_linked q_packedBank q_packedAddress q_banks q_memory q_register q_stack q_place q_zero q_less q_half q_carry q_enabled q_soon q_ram q_low q_top q_mode q_state q_sent x1 (2 : Int32))))
def wp_Q_link (q_code q_many : Int32) (q_pin q_size q_bytes q_kind q_bank q_address q_full : Nat → Int32) (q_linked : Int32) (q_packedBank q_packedAddress : Nat → Int32) (q_banks : Int32) (q_memory q_register : Nat → Int32) (q_stack q_place q_zero q_less q_half q_carry q_enabled q_soon q_ram q_low q_top q_mode q_state q_sent : Int32) (a1 : Int32) (P : Int32 → (Int32) → (Nat → Int32) → (Nat → Int32) → (Nat → Int32) → (Int32) → (Nat → Int32) → (Nat → Int32) → (Int32) → (Nat → Int32) → (Nat → Int32) → (Int32) → (Int32) → (Int32) → (Int32) → (Int32) → (Int32) → (Int32) → (Int32) → (Int32) → (Int32) → (Int32) → (Int32) → (Int32) → (Int32) → Prop) : Prop := 
  (a1 = (2 : Int32) → wp_Q_link_21 q_many q_pin q_size q_bytes q_kind P q_code q_bank q_address q_full q_linked q_packedBank q_packedAddress q_banks q_memory q_register q_stack q_place q_zero q_less q_half q_carry q_enabled q_soon q_ram q_low q_top q_mode q_state q_sent a1) ∧
  (¬ a1 = (2 : Int32) → 
    (a1 = (4 : Int32) → wp_Q_link_21 q_many q_pin q_size q_bytes q_kind P q_code q_bank q_address q_full q_linked q_packedBank q_packedAddress q_banks q_memory q_register q_stack q_place q_zero q_less q_half q_carry q_enabled q_soon q_ram q_low q_top q_mode q_state q_sent a1) ∧
    (¬ a1 = (4 : Int32) → 
      (a1 = (8 : Int32) → wp_Q_link_21 q_many q_pin q_size q_bytes q_kind P q_code q_bank q_address q_full q_linked q_packedBank q_packedAddress q_banks q_memory q_register q_stack q_place q_zero q_less q_half q_carry q_enabled q_soon q_ram q_low q_top q_mode q_state q_sent a1) ∧
      (¬ a1 = (8 : Int32) → wp_Q_link_52 q_many q_pin q_size q_bytes q_kind P q_code q_bank q_address q_full q_linked q_packedBank q_packedAddress q_banks q_memory q_register q_stack q_place q_zero q_less q_half q_carry q_enabled q_soon q_ram q_low q_top q_mode q_state q_sent a1 (1 : Int32))))
def wp_Q_register_152 (q_linked q_banks : Int32) (q_memory q_register : Nat → Int32) (q_stack q_place q_zero q_less q_half q_carry q_enabled q_ram q_low q_top q_mode : Int32) (P : Int32 → (Int32) → Prop) (q_code y0 : Int32) : Prop := P (((y0 + ((4 : Int32) * q_low)) + ((2 : Int32) * q_top)) + q_mode) q_code
def wp_Q_register_121 (q_linked q_banks : Int32) (q_memory q_register : Nat → Int32) (q_stack q_place q_zero q_less q_half q_carry q_enabled q_ram q_low q_top q_mode : Int32) (P : Int32 → (Int32) → Prop) (q_code x1 y0 y1 : Int32) : Prop := ∀ z7 : Int32, z7 = y1 + y0 → 
  (¬ x1 = (10 : Int32) → 
    (¬ x1 = (11 : Int32) → 
      (q_enabled = 0 → P (0 : Int32) q_code) ∧
      (¬ q_enabled = 0 → P (1 : Int32) q_code)) ∧
    (x1 = (11 : Int32) → 
      (q_ram = 0 → wp_Q_register_152 q_linked q_banks q_memory q_register q_stack q_place q_zero q_less q_half q_carry q_enabled q_ram q_low q_top q_mode P q_code (0 : Int32)) ∧
      (¬ q_ram = 0 → wp_Q_register_152 q_linked q_banks q_memory q_register q_stack q_place q_zero q_less q_half q_carry q_enabled q_ram q_low q_top q_mode P q_code (16 : Int32)))) ∧
  (x1 = (10 : Int32) → P z7 q_code)
def wp_Q_register_95 (q_linked q_banks : Int32) (q_memory q_register : Nat → Int32) (q_stack q_place q_zero q_less q_half q_carry q_enabled q_ram q_low q_top q_mode : Int32) (P : Int32 → (Int32) → Prop) (q_code x1 y0 y1 : Int32) : Prop := 
  (q_half = 0 → 
    (q_carry = 0 → wp_Q_register_121 q_linked q_banks q_memory q_register q_stack q_place q_zero q_less q_half q_carry q_enabled q_ram q_low q_top q_mode P q_code x1 (0 : Int32) ((y1 + y0) + (0 : Int32))) ∧
    (¬ q_carry = 0 → wp_Q_register_121 q_linked q_banks q_memory q_register q_stack q_place q_zero q_less q_half q_carry q_enabled q_ram q_low q_top q_mode P q_code x1 (1 : Int32) ((y1 + y0) + (0 : Int32)))) ∧
  (¬ q_half = 0 → 
    (q_carry = 0 → wp_Q_register_121 q_linked q_banks q_memory q_register q_stack q_place q_zero q_less q_half q_carry q_enabled q_ram q_low q_top q_mode P q_code x1 (0 : Int32) ((y1 + y0) + (2 : Int32))) ∧
    (¬ q_carry = 0 → wp_Q_register_121 q_linked q_banks q_memory q_register q_stack q_place q_zero q_less q_half q_carry q_enabled q_ram q_low q_top q_mode P q_code x1 (1 : Int32) ((y1 + y0) + (2 : Int32))))
def wp_Q_register_29 (q_linked q_banks : Int32) (q_memory q_register : Nat → Int32) (q_stack q_place q_zero q_less q_half q_carry q_enabled q_ram q_low q_top q_mode : Int32) (P : Int32 → (Int32) → Prop) (q_code x1 : Int32) : Prop := 
  ((8 : Int32) ≤ x1 → 
    ((10 : Int32) ≤ x1 → 
      (q_zero = 0 → 
        (q_less = 0 → wp_Q_register_95 q_linked q_banks q_memory q_register q_stack q_place q_zero q_less q_half q_carry q_enabled q_ram q_low q_top q_mode P (0 : Int32) x1 (0 : Int32) (0 : Int32)) ∧
        (¬ q_less = 0 → wp_Q_register_95 q_linked q_banks q_memory q_register q_stack q_place q_zero q_less q_half q_carry q_enabled q_ram q_low q_top q_mode P (0 : Int32) x1 (4 : Int32) (0 : Int32))) ∧
      (¬ q_zero = 0 → 
        (q_less = 0 → wp_Q_register_95 q_linked q_banks q_memory q_register q_stack q_place q_zero q_less q_half q_carry q_enabled q_ram q_low q_top q_mode P (0 : Int32) x1 (0 : Int32) (8 : Int32)) ∧
        (¬ q_less = 0 → wp_Q_register_95 q_linked q_banks q_memory q_register q_stack q_place q_zero q_less q_half q_carry q_enabled q_ram q_low q_top q_mode P (0 : Int32) x1 (4 : Int32) (8 : Int32)))) ∧
    (¬ (10 : Int32) ≤ x1 → 
      (¬ x1 = (8 : Int32) → P q_place (0 : Int32)) ∧
      (x1 = (8 : Int32) → P q_stack (0 : Int32)))) ∧
  (¬ (8 : Int32) ≤ x1 → wp_Q_get q_banks q_memory q_register q_ram q_low q_top q_mode x1 (fun r6 => P r6 (0 : Int32)))
def wp_Q_register (q_code q_linked q_banks : Int32) (q_memory q_register : Nat → Int32) (q_stack q_place q_zero q_less q_half q_carry q_enabled q_ram q_low q_top q_mode : Int32) (a1 : Int32) (P : Int32 → (Int32) → Prop) : Prop := wp_Q_outside a1 (0 : Int32) (12 : Int32) (fun r1 => 
  (¬ r1 = 0 → wp_Q_refuse q_code (1 : Int32) (fun r2 w3 => P r2 w3)) ∧
  (r1 = 0 → 
    (¬ a1 = (6 : Int32) → wp_Q_register_29 q_linked q_banks q_memory q_register q_stack q_place q_zero q_less q_half q_carry q_enabled q_ram q_low q_top q_mode P q_code a1) ∧
    (a1 = (6 : Int32) → 
      (¬ q_linked = 0 → wp_Q_register_29 q_linked q_banks q_memory q_register q_stack q_place q_zero q_less q_half q_carry q_enabled q_ram q_low q_top q_mode P q_code a1) ∧
      (q_linked = 0 → wp_Q_refuse q_code (1 : Int32) (fun r4 w5 => P r4 w5)))))
def wp_Q_single_77 (q_banks : Int32) (P : (Nat → Int32) → (Nat → Int32) → (Int32) → (Int32) → (Int32) → (Int32) → (Int32) → (Int32) → (Int32) → (Int32) → (Int32) → (Int32) → Prop) (q_memory q_register : Nat → Int32) (q_stack q_place q_zero q_less q_half q_carry q_ram q_low q_top q_mode x1 x2 : Int32) : Prop := 
  (¬ x1 = (7 : Int32) → P q_memory q_register q_stack q_place q_zero q_less q_half q_carry q_ram q_low q_top q_mode) ∧
  (x1 = (7 : Int32) → wp_Q_get q_banks q_memory q_register q_ram q_low q_top q_mode x2 (fun r51 => wp_Q_plain q_zero q_less q_half q_carry (((r51 - r51 / (16 : Int32) * (16 : Int32)) * (16 : Int32)) + (r51 / (16 : Int32))) (0 : Int32) (fun r52 w53 w54 w55 w56 => wp_Q_set q_banks q_memory q_register q_ram q_low q_top q_mode x2 r52 (fun w57 w58 w59 w60 w61 w62 => P w57 w58 q_stack q_place w53 w54 w55 w56 w59 w60 w61 w62))))
def wp_Q_single_48 (q_banks : Int32) (P : (Nat → Int32) → (Nat → Int32) → (Int32) → (Int32) → (Int32) → (Int32) → (Int32) → (Int32) → (Int32) → (Int32) → (Int32) → (Int32) → Prop) (q_memory q_register : Nat → Int32) (q_stack q_place q_zero q_less q_half q_carry q_ram q_low q_top q_mode x1 x2 : Int32) : Prop := 
  (¬ x1 = (5 : Int32) → 
    (¬ x1 = (6 : Int32) → wp_Q_single_77 q_banks P q_memory q_register q_stack q_place q_zero q_less q_half q_carry q_ram q_low q_top q_mode x1 x2) ∧
    (x1 = (6 : Int32) → wp_Q_next q_banks q_memory q_place q_ram q_low q_top q_mode (fun r27 w28 => wp_Q_set q_banks q_memory q_register q_ram q_low q_top q_mode x2 r27 (fun w29 w30 w31 w32 w33 w34 => wp_Q_single_77 q_banks P w29 w30 q_stack w28 q_zero q_less q_half q_carry w31 w32 w33 w34 x1 x2)))) ∧
  (x1 = (5 : Int32) → wp_Q_pop q_banks q_memory q_stack q_ram q_low q_top q_mode (fun r35 w36 => wp_Q_set q_banks q_memory q_register q_ram q_low q_top q_mode x2 r35 (fun w37 w38 w39 w40 w41 w42 => 
    (¬ x1 = (6 : Int32) → wp_Q_single_77 q_banks P w37 w38 w36 q_place q_zero q_less q_half q_carry w39 w40 w41 w42 x1 x2) ∧
    (x1 = (6 : Int32) → wp_Q_next q_banks w37 q_place w39 w40 w41 w42 (fun r43 w44 => wp_Q_set q_banks w37 w38 w39 w40 w41 w42 x2 r43 (fun w45 w46 w47 w48 w49 w50 => wp_Q_single_77 q_banks P w45 w46 w36 w44 q_zero q_less q_half q_carry w47 w48 w49 w50 x1 x2))))))
def wp_Q_single_28 (q_banks : Int32) (P : (Nat → Int32) → (Nat → Int32) → (Int32) → (Int32) → (Int32) → (Int32) → (Int32) → (Int32) → (Int32) → (Int32) → (Int32) → (Int32) → Prop) (q_memory q_register : Nat → Int32) (q_stack q_place q_zero q_less q_half q_carry q_ram q_low q_top q_mode x1 x2 y0 y1 y3 : Int32) : Prop := wp_Q_count q_zero q_less q_half q_carry y1 y0 (fun r9 w10 w11 w12 w13 => wp_Q_set q_banks q_memory q_register q_ram q_low q_top q_mode y3 r9 (fun w14 w15 w16 w17 w18 w19 => 
  (¬ x1 = (4 : Int32) → wp_Q_single_48 q_banks P w14 w15 q_stack q_place w10 w11 w12 w13 w16 w17 w18 w19 x1 x2) ∧
  (x1 = (4 : Int32) → wp_Q_get q_banks w14 w15 w16 w17 w18 w19 x2 (fun r20 => wp_Q_push q_banks w14 q_stack w16 w17 w18 w19 r20 (fun w21 w22 w23 w24 w25 w26 => wp_Q_single_48 q_banks P w21 w15 w22 q_place w10 w11 w12 w13 w23 w24 w25 w26 x1 x2)))))
def wp_Q_single_10 (q_banks : Int32) (P : (Nat → Int32) → (Nat → Int32) → (Int32) → (Int32) → (Int32) → (Int32) → (Int32) → (Int32) → (Int32) → (Int32) → (Int32) → (Int32) → Prop) (q_memory q_register : Nat → Int32) (q_stack q_place q_zero q_less q_half q_carry q_ram q_low q_top q_mode x1 x2 : Int32) : Prop := wp_Q_get q_banks q_memory q_register q_ram q_low q_top q_mode x2 (fun r8 => 
  (¬ x1 = (2 : Int32) → wp_Q_single_28 q_banks P q_memory q_register q_stack q_place q_zero q_less q_half q_carry q_ram q_low q_top q_mode x1 x2 (0 : Int32) r8 x2) ∧
  (x1 = (2 : Int32) → wp_Q_single_28 q_banks P q_memory q_register q_stack q_place q_zero q_less q_half q_carry q_ram q_low q_top q_mode x1 x2 (1 : Int32) r8 x2))
def wp_Q_single (q_banks : Int32) (q_memory q_register : Nat → Int32) (q_stack q_place q_zero q_less q_half q_carry q_ram q_low q_top q_mode : Int32) (a1 a2 : Int32) (P : (Nat → Int32) → (Nat → Int32) → (Int32) → (Int32) → (Int32) → (Int32) → (Int32) → (Int32) → (Int32) → (Int32) → (Int32) → (Int32) → Prop) : Prop := 
  (a1 = (2 : Int32) → wp_Q_single_10 q_banks P q_memory q_register q_stack q_place q_zero q_less q_half q_carry q_ram q_low q_top q_mode a1 a2) ∧
  (¬ a1 = (2 : Int32) → 
    (¬ a1 = (3 : Int32) → 
      (¬ a1 = (4 : Int32) → wp_Q_single_48 q_banks P q_memory q_register q_stack q_place q_zero q_less q_half q_carry q_ram q_low q_top q_mode a1 a2) ∧
      (a1 = (4 : Int32) → wp_Q_get q_banks q_memory q_register q_ram q_low q_top q_mode a2 (fun r1 => wp_Q_push q_banks q_memory q_stack q_ram q_low q_top q_mode r1 (fun w2 w3 w4 w5 w6 w7 => wp_Q_single_48 q_banks P w2 q_register w3 q_place q_zero q_less q_half q_carry w4 w5 w6 w7 a1 a2)))) ∧
    (a1 = (3 : Int32) → wp_Q_single_10 q_banks P q_memory q_register q_stack q_place q_zero q_less q_half q_carry q_ram q_low q_top q_mode a1 a2))
def wp_D_register_11 (k_ce : Nat → Int32) (k_bc : Int32) (m_ra m_up : Nat → Int32) (m_on m_lo m_hi m_mo m_ma m_li : Int32) (n_rg : Nat → Int32) (n_st n_pl n_z n_n n_h n_c n_en : Int32) (P : Int32 → Prop) (PX : Nat → Prop) (x1 y0 : Int32) : Prop := 
  (x1 < 0 → PX 3) ∧
  (¬ x1 < 0 → 
    ((12 : Int32) < x1 → PX 3) ∧
    (¬ (12 : Int32) < x1 → 
      (y0 = 0 → wp_N_shown k_ce k_bc m_ra m_up m_on m_lo m_hi m_mo m_ma m_li n_rg n_st n_pl n_z n_n n_h n_c n_en x1 (fun r1 => P r1)) ∧
      (¬ y0 = 0 → wp_K_isMade k_bc (fun r2 => 
        (¬ r2 = 0 → wp_N_shown k_ce k_bc m_ra m_up m_on m_lo m_hi m_mo m_ma m_li n_rg n_st n_pl n_z n_n n_h n_c n_en x1 (fun r3 => P r3)) ∧
        (r2 = 0 → PX 3)))))
def wp_D_register (k_ce : Nat → Int32) (k_bc : Int32) (m_ra m_up : Nat → Int32) (m_on m_lo m_hi m_mo m_ma m_li : Int32) (n_rg : Nat → Int32) (n_st n_pl n_z n_n n_h n_c n_en : Int32) (a1 : Int32) (P : Int32 → Prop) (PX : Nat → Prop) : Prop := 
  (¬ a1 = (6 : Int32) → wp_D_register_11 k_ce k_bc m_ra m_up m_on m_lo m_hi m_mo m_ma m_li n_rg n_st n_pl n_z n_n n_h n_c n_en P PX a1 (0 : Int32)) ∧
  (a1 = (6 : Int32) → wp_D_register_11 k_ce k_bc m_ra m_up m_on m_lo m_hi m_mo m_ma m_li n_rg n_st n_pl n_z n_n n_h n_c n_en P PX a1 (1 : Int32))
def wp_N_obey (k_ce : Nat → Int32) (k_bc : Int32) (m_ra m_up : Nat → Int32) (m_on m_lo m_hi m_mo m_ma m_li : Int32) (n_rg n_sb : Nat → Int32) (n_st n_pl n_z n_n n_h n_c n_en n_so n_co n_sc : Int32) (a1 : Int32) (P : (Nat → Int32) → (Nat → Int32) → (Int32) → (Int32) → (Int32) → (Int32) → (Int32) → (Int32) → (Nat → Int32) → (Nat → Int32) → (Int32) → (Int32) → (Int32) → (Int32) → (Int32) → (Int32) → (Int32) → (Int32) → (Int32) → (Int32) → Prop) : Prop := ∀ z1 : Int32, z1 = a1 >>> ((3 : Int32) &&& 31) → ∀ z2 : Int32, z2 = a1 &&& (7 : Int32) → 
  ((2 : Int32) ≤ z1 → 
    ((8 : Int32) ≤ z1 → 
      ((16 : Int32) ≤ z1 → 
        ((24 : Int32) ≤ z1 → 
          ((28 : Int32) ≤ z1 → 
            (¬ z1 = (28 : Int32) → 
              (¬ a1 = (240 : Int32) → wp_N_endAs n_pl n_co (3 : Int32) (fun w3 w4 => P m_ra m_up m_on m_lo m_hi m_mo m_ma m_li n_rg n_sb n_st w3 n_z n_n n_h n_c n_en n_so w4 n_sc)) ∧
              (a1 = (240 : Int32) → wp_N_next k_ce k_bc m_ra m_up m_on m_lo m_hi m_mo m_ma m_li n_pl (fun r5 w6 => wp_N_obeyOnBits k_ce k_bc m_ra m_up m_on m_lo m_hi m_mo m_ma m_li n_rg n_z n_n n_h n_c r5 (fun w7 w8 w9 w10 w11 w12 w13 w14 w15 w16 w17 w18 w19 => P w7 w8 w9 w10 w11 w12 w13 w14 w15 n_sb n_st w6 w16 w17 w18 w19 n_en n_so n_co n_sc)))) ∧
            (z1 = (28 : Int32) → wp_N_next k_ce k_bc m_ra m_up m_on m_lo m_hi m_mo m_ma m_li n_pl (fun r20 w21 => wp_N_calculate n_rg n_z n_n n_h n_c z2 r20 (fun w22 w23 w24 w25 w26 => P m_ra m_up m_on m_lo m_hi m_mo m_ma m_li w22 n_sb n_st w21 w23 w24 w25 w26 n_en n_so n_co n_sc)))) ∧
          (¬ (28 : Int32) ≤ z1 → wp_N_obeyJump k_ce k_bc m_ra m_up m_on m_lo m_hi m_mo m_ma m_li n_st n_pl n_z n_c n_co (z1 - (24 : Int32)) z2 (fun w27 w28 w29 w30 w31 w32 w33 w34 w35 w36 w37 => P w27 w28 w29 w30 w31 w32 w33 w34 n_rg n_sb w35 w36 n_z n_n n_h n_c n_en n_so w37 n_sc))) ∧
        (¬ (24 : Int32) ≤ z1 → wp_N_get k_ce k_bc m_ra m_up m_on m_lo m_hi m_mo m_ma m_li n_rg z2 (fun r38 => wp_N_calculate n_rg n_z n_n n_h n_c (z1 - (16 : Int32)) r38 (fun w39 w40 w41 w42 w43 => P m_ra m_up m_on m_lo m_hi m_mo m_ma m_li w39 n_sb n_st n_pl w40 w41 w42 w43 n_en n_so n_co n_sc)))) ∧
      (¬ (16 : Int32) ≤ z1 → wp_N_get k_ce k_bc m_ra m_up m_on m_lo m_hi m_mo m_ma m_li n_rg z2 (fun r44 => wp_N_set m_ra m_up m_on m_lo m_hi m_mo m_ma m_li n_rg (z1 - (8 : Int32)) r44 (fun w45 w46 w47 w48 w49 w50 w51 w52 w53 => P w45 w46 w47 w48 w49 w50 w51 w52 w53 n_sb n_st n_pl n_z n_n n_h n_c n_en n_so n_co n_sc)))) ∧
    (¬ (8 : Int32) ≤ z1 → wp_N_obeyOnOne k_ce k_bc m_ra m_up m_on m_lo m_hi m_mo m_ma m_li n_rg n_st n_pl n_z n_n n_h n_c z1 z2 (fun w54 w55 w56 w57 w58 w59 w60 w61 w62 w63 w64 w65 w66 w67 w68 => P w54 w55 w56 w57 w58 w59 w60 w61 w62 n_sb w63 w64 w65 w66 w67 w68 n_en n_so n_co n_sc))) ∧
  (¬ (2 : Int32) ≤ z1 → wp_N_obeySingle k_ce k_bc m_ra m_up m_on m_lo m_hi m_mo m_ma m_li n_rg n_sb n_st n_pl n_z n_n n_h n_c n_en n_so n_co n_sc a1 (fun w69 w70 w71 w72 w73 w74 w75 w76 w77 w78 w79 w80 => P m_ra m_up m_on m_lo m_hi m_mo m_ma m_li w69 w70 w71 w72 w73 w74 w75 w76 w77 w78 w79 w80))
def wp_Q_instruction (q_banks : Int32) (q_memory q_register : Nat → Int32) (q_stack q_place q_zero q_less q_half q_carry q_enabled q_soon q_ram q_low q_top q_mode q_state q_sent : Int32) (q_out : Nat → Int32)  (P : (Nat → Int32) → (Nat → Int32) → (Int32) → (Int32) → (Int32) → (Int32) → (Int32) → (Int32) → (Int32) → (Int32) → (Int32) → (Int32) → (Int32) → (Int32) → (Int32) → (Int32) → (Nat → Int32) → Prop) : Prop := wp_Q_next q_banks q_memory q_place q_ram q_low q_top q_mode (fun r1 w2 => 
  ((16 : Int32) ≤ r1 → 
    ((64 : Int32) ≤ r1 → 
      ((128 : Int32) ≤ r1 → 
        ((192 : Int32) ≤ r1 → 
          ((224 : Int32) ≤ r1 → 
            ((232 : Int32) ≤ r1 → 
              (¬ r1 = (240 : Int32) → wp_Q_stand w2 q_state (3 : Int32) (fun w3 w4 => P q_memory q_register q_stack w3 q_zero q_less q_half q_carry q_enabled q_soon q_ram q_low q_top q_mode w4 q_sent q_out)) ∧
              (r1 = (240 : Int32) → wp_Q_next q_banks q_memory w2 q_ram q_low q_top q_mode (fun r5 w6 => wp_Q_bits q_banks q_memory q_register q_zero q_less q_half q_carry q_ram q_low q_top q_mode r5 (fun w7 w8 w9 w10 w11 w12 w13 w14 w15 w16 => P w7 w8 q_stack w6 w9 w10 w11 w12 q_enabled q_soon w13 w14 w15 w16 q_state q_sent q_out)))) ∧
            (¬ (232 : Int32) ≤ r1 → wp_Q_next q_banks q_memory w2 q_ram q_low q_top q_mode (fun r17 w18 => wp_Q_reckon q_register q_zero q_less q_half q_carry (r1 - r1 / (8 : Int32) * (8 : Int32)) r17 (fun w19 w20 w21 w22 w23 => P q_memory w19 q_stack w18 w20 w21 w22 w23 q_enabled q_soon q_ram q_low q_top q_mode q_state q_sent q_out)))) ∧
          (¬ (224 : Int32) ≤ r1 → wp_Q_lead q_banks q_memory q_stack w2 q_zero q_carry q_ram q_low q_top q_mode q_state r1 (fun w24 w25 w26 w27 w28 w29 w30 w31 => P w24 q_register w25 w26 q_zero q_less q_half q_carry q_enabled q_soon w27 w28 w29 w30 w31 q_sent q_out))) ∧
        (¬ (192 : Int32) ≤ r1 → wp_Q_get q_banks q_memory q_register q_ram q_low q_top q_mode (r1 - r1 / (8 : Int32) * (8 : Int32)) (fun r32 => wp_Q_reckon q_register q_zero q_less q_half q_carry ((r1 / (8 : Int32)) - (r1 / (8 : Int32)) / (8 : Int32) * (8 : Int32)) r32 (fun w33 w34 w35 w36 w37 => P q_memory w33 q_stack w2 w34 w35 w36 w37 q_enabled q_soon q_ram q_low q_top q_mode q_state q_sent q_out)))) ∧
      (¬ (128 : Int32) ≤ r1 → wp_Q_get q_banks q_memory q_register q_ram q_low q_top q_mode (r1 - r1 / (8 : Int32) * (8 : Int32)) (fun r38 => wp_Q_set q_banks q_memory q_register q_ram q_low q_top q_mode ((r1 / (8 : Int32)) - (r1 / (8 : Int32)) / (8 : Int32) * (8 : Int32)) r38 (fun w39 w40 w41 w42 w43 w44 => P w39 w40 q_stack w2 q_zero q_less q_half q_carry q_enabled q_soon w41 w42 w43 w44 q_state q_sent q_out)))) ∧
    (¬ (64 : Int32) ≤ r1 → wp_Q_single q_banks q_memory q_register q_stack w2 q_zero q_less q_half q_carry q_ram q_low q_top q_mode (r1 / (8 : Int32)) (r1 - r1 / (8 : Int32) * (8 : Int32)) (fun w45 w46 w47 w48 w49 w50 w51 w52 w53 w54 w55 w56 => P w45 w46 w47 w48 w49 w50 w51 w52 q_enabled q_soon w53 w54 w55 w56 q_state q_sent q_out))) ∧
  (¬ (16 : Int32) ≤ r1 → wp_Q_few q_banks q_memory q_register q_stack w2 q_zero q_less q_half q_carry q_enabled q_soon q_ram q_low q_top q_mode q_state q_sent q_out r1 (fun w57 w58 w59 w60 w61 w62 w63 w64 w65 w66 w67 w68 => P q_memory w57 w58 w59 w60 w61 w62 w63 w64 w65 q_ram q_low q_top q_mode w66 w67 w68)))
def wp_N_step_44 (k_ce : Nat → Int32) (k_bc : Int32) (P : (Nat → Int32) → (Nat → Int32) → (Int32) → (Int32) → (Int32) → (Int32) → (Int32) → (Int32) → (Nat → Int32) → (Nat → Int32) → (Int32) → (Int32) → (Int32) → (Int32) → (Int32) → (Int32) → (Int32) → (Int32) → (Int32) → (Int32) → Prop) (m_ra m_up : Nat → Int32) (m_on m_lo m_hi m_mo m_ma m_li : Int32) (n_rg n_sb : Nat → Int32) (n_st n_pl n_z n_n n_h n_c n_en n_so n_co n_sc : Int32) : Prop := wp_N_next k_ce k_bc m_ra m_up m_on m_lo m_hi m_mo m_ma m_li n_pl (fun r15 w16 => wp_N_obey k_ce k_bc m_ra m_up m_on m_lo m_hi m_mo m_ma m_li n_rg n_sb n_st w16 n_z n_n n_h n_c n_en (0 : Int32) n_co n_sc r15 (fun w17 w18 w19 w20 w21 w22 w23 w24 w25 w26 w27 w28 w29 w30 w31 w32 w33 w34 w35 w36 => 
  (¬ w33 = 0 → P w17 w18 w19 w20 w21 w22 w23 w24 w25 w26 w27 w28 w29 w30 w31 w32 (1 : Int32) w34 w35 w36) ∧
  (w33 = 0 → 
    (n_so = 0 → P w17 w18 w19 w20 w21 w22 w23 w24 w25 w26 w27 w28 w29 w30 w31 w32 (0 : Int32) w34 w35 w36) ∧
    (¬ n_so = 0 → P w17 w18 w19 w20 w21 w22 w23 w24 w25 w26 w27 w28 w29 w30 w31 w32 (1 : Int32) w34 w35 w36))))
def wp_N_step (k_ce : Nat → Int32) (k_bc : Int32) (m_ra m_up : Nat → Int32) (m_on m_lo m_hi m_mo m_ma m_li : Int32) (n_rg n_sb : Nat → Int32) (n_st n_pl n_z n_n n_h n_c n_en n_so n_co n_sc : Int32)  (P : (Nat → Int32) → (Nat → Int32) → (Int32) → (Int32) → (Int32) → (Int32) → (Int32) → (Int32) → (Nat → Int32) → (Nat → Int32) → (Int32) → (Int32) → (Int32) → (Int32) → (Int32) → (Int32) → (Int32) → (Int32) → (Int32) → (Int32) → Prop) : Prop := wp_M_askingLine m_ma m_li (fun r1 => 
  (¬ n_co = (1 : Int32) → 
    (n_en = 0 → wp_N_step_44 k_ce k_bc P m_ra m_up m_on m_lo m_hi m_mo m_ma m_li n_rg n_sb n_st n_pl n_z n_n n_h n_c n_en n_so n_co n_sc) ∧
    (¬ n_en = 0 → 
      (r1 = (-1 : Int32) → wp_N_step_44 k_ce k_bc P m_ra m_up m_on m_lo m_hi m_mo m_ma m_li n_rg n_sb n_st n_pl n_z n_n n_h n_c n_en n_so n_co n_sc) ∧
      (¬ r1 = (-1 : Int32) → wp_N_interruptFor m_ra m_up m_on m_lo m_hi m_mo m_ma m_li n_st n_pl n_en r1 (fun w2 w3 w4 w5 w6 w7 w8 w9 w10 w11 w12 => P w2 w3 w4 w5 w6 w7 w8 w9 n_rg n_sb w10 w11 n_z n_n n_h n_c w12 n_so n_co n_sc)))) ∧
  (n_co = (1 : Int32) → wp_N_wakeFor n_pl n_co r1 (fun w13 w14 => P m_ra m_up m_on m_lo m_hi m_mo m_ma m_li n_rg n_sb n_st w13 n_z n_n n_h n_c n_en n_so w14 n_sc)))
def wp_Q_step_86 (q_banks : Int32) (P : (Nat → Int32) → (Nat → Int32) → (Int32) → (Int32) → (Int32) → (Int32) → (Int32) → (Int32) → (Int32) → (Int32) → (Int32) → (Int32) → (Int32) → (Int32) → (Int32) → (Int32) → (Nat → Int32) → Prop) (q_memory q_register : Nat → Int32) (q_stack q_place q_zero q_less q_half q_carry q_enabled q_soon q_ram q_low q_top q_mode q_state q_sent : Int32) (q_out : Nat → Int32) : Prop := wp_Q_instruction q_banks q_memory q_register q_stack q_place q_zero q_less q_half q_carry q_enabled (0 : Int32) q_ram q_low q_top q_mode q_state q_sent q_out (fun w10 w11 w12 w13 w14 w15 w16 w17 w18 w19 w20 w21 w22 w23 w24 w25 w26 => 
  (¬ w18 = 0 → P w10 w11 w12 w13 w14 w15 w16 w17 (1 : Int32) w19 w20 w21 w22 w23 w24 w25 w26) ∧
  (w18 = 0 → 
    (q_soon = 0 → P w10 w11 w12 w13 w14 w15 w16 w17 (0 : Int32) w19 w20 w21 w22 w23 w24 w25 w26) ∧
    (¬ q_soon = 0 → P w10 w11 w12 w13 w14 w15 w16 w17 (1 : Int32) w19 w20 w21 w22 w23 w24 w25 w26)))
def wp_Q_step (q_banks : Int32) (q_memory q_register : Nat → Int32) (q_stack q_place q_zero q_less q_half q_carry q_enabled q_soon q_ram q_low q_top q_mode q_state q_sent : Int32) (q_out : Nat → Int32)  (P : (Nat → Int32) → (Nat → Int32) → (Int32) → (Int32) → (Int32) → (Int32) → (Int32) → (Int32) → (Int32) → (Int32) → (Int32) → (Int32) → (Int32) → (Int32) → (Int32) → (Int32) → (Nat → Int32) → Prop) : Prop := ∀ z1 : Int32, z1 = (q_memory (702 : Int32).toNatClampNeg) &&& (q_memory (703 : Int32).toNatClampNeg) → 
  (¬ q_state = (1 : Int32) → 
    (q_enabled = 0 → wp_Q_step_86 q_banks P q_memory q_register q_stack q_place q_zero q_less q_half q_carry q_enabled q_soon q_ram q_low q_top q_mode q_state q_sent q_out) ∧
    (¬ q_enabled = 0 → 
      (z1 = 0 → wp_Q_step_86 q_banks P q_memory q_register q_stack q_place q_zero q_less q_half q_carry q_enabled q_soon q_ram q_low q_top q_mode q_state q_sent q_out) ∧
      (¬ z1 = 0 → wp_Q_interrupt q_banks q_memory q_stack q_place q_enabled q_ram q_low q_top q_mode z1 (fun w2 w3 w4 w5 w6 w7 w8 w9 => P w2 q_register w3 w4 q_zero q_less q_half q_carry w5 q_soon w6 w7 w8 w9 q_state q_sent q_out)))) ∧
  (q_state = (1 : Int32) → 
    (¬ z1 = 0 → 
      (¬ z1 = 0 → P q_memory q_register q_stack ((q_place + (1 : Int32)) - (q_place + (1 : Int32)) / (256 : Int32) * (256 : Int32)) q_zero q_less q_half q_carry q_enabled q_soon q_ram q_low q_top q_mode (0 : Int32) q_sent q_out) ∧
      (z1 = 0 → P q_memory q_register q_stack ((q_place + (1 : Int32)) - (q_place + (1 : Int32)) / (256 : Int32) * (256 : Int32)) q_zero q_less q_half q_carry q_enabled q_soon q_ram q_low q_top q_mode (1 : Int32) q_sent q_out)) ∧
    (z1 = 0 → 
      (¬ z1 = 0 → P q_memory q_register q_stack q_place q_zero q_less q_half q_carry q_enabled q_soon q_ram q_low q_top q_mode (0 : Int32) q_sent q_out) ∧
      (z1 = 0 → P q_memory q_register q_stack q_place q_zero q_less q_half q_carry q_enabled q_soon q_ram q_low q_top q_mode (1 : Int32) q_sent q_out)))
def wp_D_run_20 (k_ce : Nat → Int32) (k_bc : Int32) (P : Int32 → (Nat → Int32) → (Nat → Int32) → (Int32) → (Int32) → (Int32) → (Int32) → (Int32) → (Int32) → (Nat → Int32) → (Nat → Int32) → (Int32) → (Int32) → (Int32) → (Int32) → (Int32) → (Int32) → (Int32) → (Int32) → (Int32) → (Int32) → Prop) (PX : Nat → (Nat → Int32) → (Nat → Int32) → (Int32) → (Int32) → (Int32) → (Int32) → (Int32) → (Int32) → (Nat → Int32) → (Nat → Int32) → (Int32) → (Int32) → (Int32) → (Int32) → (Int32) → (Int32) → (Int32) → (Int32) → (Int32) → (Int32) → Prop) : Nat → (Nat → Int32) → (Nat → Int32) → (Int32) → (Int32) → (Int32) → (Int32) → (Int32) → (Int32) → (Nat → Int32) → (Nat → Int32) → (Int32) → (Int32) → (Int32) → (Int32) → (Int32) → (Int32) → (Int32) → (Int32) → (Int32) → (Int32) → (Int32) → (Int32) → Prop
  | 0, _, _, _, _, _, _, _, _, _, _, _, _, _, _, _, _, _, _, _, _, _, _ => False
  | n9 + 1, m_ra, m_up, m_on, m_lo, m_hi, m_mo, m_ma, m_li, n_rg, n_sb, n_st, n_pl, n_z, n_n, n_h, n_c, n_en, n_so, n_co, n_sc, x1, x2 => 
    (x1 ≤ x2 → P x2 m_ra m_up m_on m_lo m_hi m_mo m_ma m_li n_rg n_sb n_st n_pl n_z n_n n_h n_c n_en n_so n_co n_sc) ∧
    (¬ x1 ≤ x2 → 
      ((2000 : Int32) ≤ x2 → P x2 m_ra m_up m_on m_lo m_hi m_mo m_ma m_li n_rg n_sb n_st n_pl n_z n_n n_h n_c n_en n_so n_co n_sc) ∧
      (¬ (2000 : Int32) ≤ x2 → wp_N_canGo n_co (fun r2 => 
        (r2 = 0 → P x2 m_ra m_up m_on m_lo m_hi m_mo m_ma m_li n_rg n_sb n_st n_pl n_z n_n n_h n_c n_en n_so n_co n_sc) ∧
        (¬ r2 = 0 → wp_N_step k_ce k_bc m_ra m_up m_on m_lo m_hi m_mo m_ma m_li n_rg n_sb n_st n_pl n_z n_n n_h n_c n_en n_so n_co n_sc (fun w3 w4 w5 w6 w7 w8 w9 w10 w11 w12 w13 w14 w15 w16 w17 w18 w19 w20 w21 w22 => (wp_D_run_20 k_ce k_bc P PX n9) w3 w4 w5 w6 w7 w8 w9 w10 w11 w12 w13 w14 w15 w16 w17 w18 w19 w20 w21 w22 x1 (x2 + (1 : Int32)))))))
def wp_D_run (k_ce : Nat → Int32) (k_bc : Int32) (m_ra m_up : Nat → Int32) (m_on m_lo m_hi m_mo m_ma m_li : Int32) (n_rg n_sb : Nat → Int32) (n_st n_pl n_z n_n n_h n_c n_en n_so n_co n_sc : Int32) (a1 : Int32) (P : Int32 → (Nat → Int32) → (Nat → Int32) → (Int32) → (Int32) → (Int32) → (Int32) → (Int32) → (Int32) → (Nat → Int32) → (Nat → Int32) → (Int32) → (Int32) → (Int32) → (Int32) → (Int32) → (Int32) → (Int32) → (Int32) → (Int32) → (Int32) → Prop) (PX : Nat → (Nat → Int32) → (Nat → Int32) → (Int32) → (Int32) → (Int32) → (Int32) → (Int32) → (Int32) → (Nat → Int32) → (Nat → Int32) → (Int32) → (Int32) → (Int32) → (Int32) → (Int32) → (Int32) → (Int32) → (Int32) → (Int32) → (Int32) → Prop) : Prop := wp_K_isMade k_bc (fun r1 => 
  (¬ r1 = 0 → ∃ j9 : Nat, wp_D_run_20 k_ce k_bc P PX j9 m_ra m_up m_on m_lo m_hi m_mo m_ma m_li n_rg n_sb n_st n_pl n_z n_n n_h n_c n_en n_so n_co n_sc a1 (0 : Int32)) ∧
  (r1 = 0 → PX 3 m_ra m_up m_on m_lo m_hi m_mo m_ma m_li n_rg n_sb n_st n_pl n_z n_n n_h n_c n_en n_so n_co n_sc))
def wp_Q_run_20 (q_linked q_banks : Int32) (P : Int32 → (Int32) → (Nat → Int32) → (Nat → Int32) → (Int32) → (Int32) → (Int32) → (Int32) → (Int32) → (Int32) → (Int32) → (Int32) → (Int32) → (Int32) → (Int32) → (Int32) → (Int32) → (Int32) → (Nat → Int32) → Prop) : Nat → (Int32) → (Nat → Int32) → (Nat → Int32) → (Int32) → (Int32) → (Int32) → (Int32) → (Int32) → (Int32) → (Int32) → (Int32) → (Int32) → (Int32) → (Int32) → (Int32) → (Int32) → (Int32) → (Nat → Int32) → (Int32) → (Int32) → Prop
  | 0, _, _, _, _, _, _, _, _, _, _, _, _, _, _, _, _, _, _, _, _ => False
  | n9 + 1, q_code, q_memory, q_register, q_stack, q_place, q_zero, q_less, q_half, q_carry, q_enabled, q_soon, q_ram, q_low, q_top, q_mode, q_state, q_sent, q_out, x1, x2 => 
    (x1 ≤ x2 → P x2 q_code q_memory q_register q_stack q_place q_zero q_less q_half q_carry q_enabled q_soon q_ram q_low q_top q_mode q_state q_sent q_out) ∧
    (¬ x1 ≤ x2 → 
      ((2000 : Int32) ≤ x2 → P x2 q_code q_memory q_register q_stack q_place q_zero q_less q_half q_carry q_enabled q_soon q_ram q_low q_top q_mode q_state q_sent q_out) ∧
      (¬ (2000 : Int32) ≤ x2 → 
        ((2 : Int32) ≤ q_state → P x2 q_code q_memory q_register q_stack q_place q_zero q_less q_half q_carry q_enabled q_soon q_ram q_low q_top q_mode q_state q_sent q_out) ∧
        (¬ (2 : Int32) ≤ q_state → wp_Q_step q_banks q_memory q_register q_stack q_place q_zero q_less q_half q_carry q_enabled q_soon q_ram q_low q_top q_mode q_state q_sent q_out (fun w3 w4 w5 w6 w7 w8 w9 w10 w11 w12 w13 w14 w15 w16 w17 w18 w19 => (wp_Q_run_20 q_linked q_banks P n9) q_code w3 w4 w5 w6 w7 w8 w9 w10 w11 w12 w13 w14 w15 w16 w17 w18 w19 x1 (x2 + (1 : Int32))))))
def wp_Q_run (q_code q_linked q_banks : Int32) (q_memory q_register : Nat → Int32) (q_stack q_place q_zero q_less q_half q_carry q_enabled q_soon q_ram q_low q_top q_mode q_state q_sent : Int32) (q_out : Nat → Int32) (a1 : Int32) (P : Int32 → (Int32) → (Nat → Int32) → (Nat → Int32) → (Int32) → (Int32) → (Int32) → (Int32) → (Int32) → (Int32) → (Int32) → (Int32) → (Int32) → (Int32) → (Int32) → (Int32) → (Int32) → (Int32) → (Nat → Int32) → Prop) : Prop := 
  (¬ q_linked = 0 → ∃ j9 : Nat, wp_Q_run_20 q_linked q_banks P j9 (0 : Int32) q_memory q_register q_stack q_place q_zero q_less q_half q_carry q_enabled q_soon q_ram q_low q_top q_mode q_state q_sent q_out a1 (0 : Int32)) ∧
  (q_linked = 0 → wp_Q_refuse q_code (1 : Int32) (fun r1 w2 => P r1 w2 q_memory q_register q_stack q_place q_zero q_less q_half q_carry q_enabled q_soon q_ram q_low q_top q_mode q_state q_sent q_out))
end
