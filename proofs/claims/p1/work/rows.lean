section
-- ===== PART A: goes FIRST, ahead of the names: the tables' words, and 'selects' of the private methods out of them =====
/-- a private method of a class that the tables say can be made, by its rows of tables_1 -/
def lw_okq (q : MethodName × Nat) : Prop := (q.1.cls ≠ "java/lang/invoke/MethodHandle" ∧ q.1.cls ≠ "java/lang/invoke/VarHandle") ∧ Cond.instantiable q.1.cls q.2 ∈ tables_1 ∧ Cond.privateMethod q.1 ∈ tables_1 ∧ Cond.instanceMethod q.1 ∈ tables_1
theorem lw_p0 : lw_okq (⟨"SundialTreaty$Reader", "put", "(I)V"⟩, 15) := ⟨⟨by decide +kernel, by decide +kernel⟩, List.mem_of_getElem? (i := 33) (by decide +kernel), List.mem_of_getElem? (i := 499) (by decide +kernel), List.mem_of_getElem? (i := 500) (by decide +kernel)⟩
theorem lw_p1 : lw_okq (⟨"SundialTreaty$ValleyText", "readInto", "(LSundialTreaty$Valley;LSundialTreaty$Reader;)I"⟩, 1) := ⟨⟨by decide +kernel, by decide +kernel⟩, List.mem_of_getElem? (i := 152) (by decide +kernel), List.mem_of_getElem? (i := 511) (by decide +kernel), List.mem_of_getElem? (i := 512) (by decide +kernel)⟩
theorem lw_p2 : lw_okq (⟨"SundialTreaty$Valley", "makeEmpty", "()V"⟩, 16) := ⟨⟨by decide +kernel, by decide +kernel⟩, List.mem_of_getElem? (i := 165) (by decide +kernel), List.mem_of_getElem? (i := 515) (by decide +kernel), List.mem_of_getElem? (i := 516) (by decide +kernel)⟩
theorem lw_p3 : lw_okq (⟨"SundialTreaty$Reader", "begin", "(I)V"⟩, 15) := ⟨⟨by decide +kernel, by decide +kernel⟩, List.mem_of_getElem? (i := 33) (by decide +kernel), List.mem_of_getElem? (i := 519) (by decide +kernel), List.mem_of_getElem? (i := 520) (by decide +kernel)⟩
theorem lw_p4 : lw_okq (⟨"SundialTreaty$Reader", "next", "()V"⟩, 15) := ⟨⟨by decide +kernel, by decide +kernel⟩, List.mem_of_getElem? (i := 33) (by decide +kernel), List.mem_of_getElem? (i := 523) (by decide +kernel), List.mem_of_getElem? (i := 524) (by decide +kernel)⟩
theorem lw_p5 : lw_okq (⟨"SundialTreaty$Reader", "readRun", "()V"⟩, 15) := ⟨⟨by decide +kernel, by decide +kernel⟩, List.mem_of_getElem? (i := 33) (by decide +kernel), List.mem_of_getElem? (i := 530) (by decide +kernel), List.mem_of_getElem? (i := 531) (by decide +kernel)⟩
theorem lw_p6 : lw_okq (⟨"SundialTreaty$Reader", "toldWord", "()I"⟩, 15) := ⟨⟨by decide +kernel, by decide +kernel⟩, List.mem_of_getElem? (i := 33) (by decide +kernel), List.mem_of_getElem? (i := 534) (by decide +kernel), List.mem_of_getElem? (i := 535) (by decide +kernel)⟩
theorem lw_p7 : lw_okq (⟨"SundialTreaty$Reader", "atEnd", "()Z"⟩, 15) := ⟨⟨by decide +kernel, by decide +kernel⟩, List.mem_of_getElem? (i := 33) (by decide +kernel), List.mem_of_getElem? (i := 538) (by decide +kernel), List.mem_of_getElem? (i := 539) (by decide +kernel)⟩
theorem lw_p8 : lw_okq (⟨"SundialTreaty$ValleyText", "readLine", "(LSundialTreaty$Valley;LSundialTreaty$Reader;)Z"⟩, 1) := ⟨⟨by decide +kernel, by decide +kernel⟩, List.mem_of_getElem? (i := 152) (by decide +kernel), List.mem_of_getElem? (i := 542) (by decide +kernel), List.mem_of_getElem? (i := 543) (by decide +kernel)⟩
theorem lw_p9 : lw_okq (⟨"SundialTreaty$ValleyText", "readTown", "(LSundialTreaty$Valley;LSundialTreaty$Reader;)Z"⟩, 1) := ⟨⟨by decide +kernel, by decide +kernel⟩, List.mem_of_getElem? (i := 152) (by decide +kernel), List.mem_of_getElem? (i := 546) (by decide +kernel), List.mem_of_getElem? (i := 547) (by decide +kernel)⟩
theorem lw_p10 : lw_okq (⟨"SundialTreaty$Reader", "failAs", "(I)Z"⟩, 15) := ⟨⟨by decide +kernel, by decide +kernel⟩, List.mem_of_getElem? (i := 33) (by decide +kernel), List.mem_of_getElem? (i := 550) (by decide +kernel), List.mem_of_getElem? (i := 551) (by decide +kernel)⟩
theorem lw_p11 : lw_okq (⟨"SundialTreaty$Reader", "takeNewName", "(LSundialTreaty$Valley;)Z"⟩, 15) := ⟨⟨by decide +kernel, by decide +kernel⟩, List.mem_of_getElem? (i := 33) (by decide +kernel), List.mem_of_getElem? (i := 555) (by decide +kernel), List.mem_of_getElem? (i := 556) (by decide +kernel)⟩
theorem lw_p12 : lw_okq (⟨"SundialTreaty$Reader", "isName", "()Z"⟩, 15) := ⟨⟨by decide +kernel, by decide +kernel⟩, List.mem_of_getElem? (i := 33) (by decide +kernel), List.mem_of_getElem? (i := 559) (by decide +kernel), List.mem_of_getElem? (i := 560) (by decide +kernel)⟩
theorem lw_p13 : lw_okq (⟨"SundialTreaty$Valley", "isTold", "(J)Z"⟩, 16) := ⟨⟨by decide +kernel, by decide +kernel⟩, List.mem_of_getElem? (i := 165) (by decide +kernel), List.mem_of_getElem? (i := 564) (by decide +kernel), List.mem_of_getElem? (i := 565) (by decide +kernel)⟩
theorem lw_p14 : lw_okq (⟨"SundialTreaty$Valley", "townNamed", "(J)I"⟩, 16) := ⟨⟨by decide +kernel, by decide +kernel⟩, List.mem_of_getElem? (i := 165) (by decide +kernel), List.mem_of_getElem? (i := 568) (by decide +kernel), List.mem_of_getElem? (i := 569) (by decide +kernel)⟩
theorem lw_p15 : lw_okq (⟨"SundialTreaty$Reader", "takeNumber", "(II)Z"⟩, 15) := ⟨⟨by decide +kernel, by decide +kernel⟩, List.mem_of_getElem? (i := 33) (by decide +kernel), List.mem_of_getElem? (i := 572) (by decide +kernel), List.mem_of_getElem? (i := 573) (by decide +kernel)⟩
def lw_privs_1 : List (MethodName × Nat) := [(⟨"SundialTreaty$Reader", "put", "(I)V"⟩, 15), (⟨"SundialTreaty$ValleyText", "readInto", "(LSundialTreaty$Valley;LSundialTreaty$Reader;)I"⟩, 1), (⟨"SundialTreaty$Valley", "makeEmpty", "()V"⟩, 16), (⟨"SundialTreaty$Reader", "begin", "(I)V"⟩, 15), (⟨"SundialTreaty$Reader", "next", "()V"⟩, 15), (⟨"SundialTreaty$Reader", "readRun", "()V"⟩, 15), (⟨"SundialTreaty$Reader", "toldWord", "()I"⟩, 15), (⟨"SundialTreaty$Reader", "atEnd", "()Z"⟩, 15), (⟨"SundialTreaty$ValleyText", "readLine", "(LSundialTreaty$Valley;LSundialTreaty$Reader;)Z"⟩, 1), (⟨"SundialTreaty$ValleyText", "readTown", "(LSundialTreaty$Valley;LSundialTreaty$Reader;)Z"⟩, 1), (⟨"SundialTreaty$Reader", "failAs", "(I)Z"⟩, 15), (⟨"SundialTreaty$Reader", "takeNewName", "(LSundialTreaty$Valley;)Z"⟩, 15), (⟨"SundialTreaty$Reader", "isName", "()Z"⟩, 15), (⟨"SundialTreaty$Valley", "isTold", "(J)Z"⟩, 16), (⟨"SundialTreaty$Valley", "townNamed", "(J)I"⟩, 16), (⟨"SundialTreaty$Reader", "takeNumber", "(II)Z"⟩, 15)]
theorem lw_r1 : ∀ q ∈ lw_privs_1, lw_okq q := List.forall_mem_cons.mpr ⟨lw_p0, List.forall_mem_cons.mpr ⟨lw_p1, List.forall_mem_cons.mpr ⟨lw_p2, List.forall_mem_cons.mpr ⟨lw_p3, List.forall_mem_cons.mpr ⟨lw_p4, List.forall_mem_cons.mpr ⟨lw_p5, List.forall_mem_cons.mpr ⟨lw_p6, List.forall_mem_cons.mpr ⟨lw_p7, List.forall_mem_cons.mpr ⟨lw_p8, List.forall_mem_cons.mpr ⟨lw_p9, List.forall_mem_cons.mpr ⟨lw_p10, List.forall_mem_cons.mpr ⟨lw_p11, List.forall_mem_cons.mpr ⟨lw_p12, List.forall_mem_cons.mpr ⟨lw_p13, List.forall_mem_cons.mpr ⟨lw_p14, List.forall_mem_cons.mpr ⟨lw_p15, fun _ h => absurd h List.not_mem_nil⟩⟩⟩⟩⟩⟩⟩⟩⟩⟩⟩⟩⟩⟩⟩⟩
theorem lw_p16 : lw_okq (⟨"SundialTreaty$Reader", "takeWay", "()Z"⟩, 15) := ⟨⟨by decide +kernel, by decide +kernel⟩, List.mem_of_getElem? (i := 33) (by decide +kernel), List.mem_of_getElem? (i := 576) (by decide +kernel), List.mem_of_getElem? (i := 577) (by decide +kernel)⟩
theorem lw_p17 : lw_okq (⟨"SundialTreaty$ValleyText", "readTerm", "(LSundialTreaty$Valley;LSundialTreaty$Reader;)Z"⟩, 1) := ⟨⟨by decide +kernel, by decide +kernel⟩, List.mem_of_getElem? (i := 152) (by decide +kernel), List.mem_of_getElem? (i := 580) (by decide +kernel), List.mem_of_getElem? (i := 581) (by decide +kernel)⟩
theorem lw_p18 : lw_okq (⟨"SundialTreaty$Reader", "takeTown", "(LSundialTreaty$Valley;I)Z"⟩, 15) := ⟨⟨by decide +kernel, by decide +kernel⟩, List.mem_of_getElem? (i := 33) (by decide +kernel), List.mem_of_getElem? (i := 584) (by decide +kernel), List.mem_of_getElem? (i := 585) (by decide +kernel)⟩
theorem lw_p19 : lw_okq (⟨"SundialTreaty$ValleyText", "readTrain", "(LSundialTreaty$Valley;LSundialTreaty$Reader;)Z"⟩, 1) := ⟨⟨by decide +kernel, by decide +kernel⟩, List.mem_of_getElem? (i := 152) (by decide +kernel), List.mem_of_getElem? (i := 589) (by decide +kernel), List.mem_of_getElem? (i := 590) (by decide +kernel)⟩
theorem lw_p20 : lw_okq (⟨"SundialTreaty$ValleyText", "readSetting", "(LSundialTreaty$Valley;LSundialTreaty$Reader;I)Z"⟩, 1) := ⟨⟨by decide +kernel, by decide +kernel⟩, List.mem_of_getElem? (i := 152) (by decide +kernel), List.mem_of_getElem? (i := 593) (by decide +kernel), List.mem_of_getElem? (i := 594) (by decide +kernel)⟩
theorem lw_p21 : lw_okq (⟨"SundialTreaty$Reader", "takeSign", "(I)Z"⟩, 15) := ⟨⟨by decide +kernel, by decide +kernel⟩, List.mem_of_getElem? (i := 33) (by decide +kernel), List.mem_of_getElem? (i := 599) (by decide +kernel), List.mem_of_getElem? (i := 600) (by decide +kernel)⟩
theorem lw_p22 : lw_okq (⟨"SundialTreaty$State", "beginIn", "(LSundialTreaty$Valley;)V"⟩, 7) := ⟨⟨by decide +kernel, by decide +kernel⟩, List.mem_of_getElem? (i := 254) (by decide +kernel), List.mem_of_getElem? (i := 603) (by decide +kernel), List.mem_of_getElem? (i := 604) (by decide +kernel)⟩
theorem lw_p23 : lw_okq (⟨"SundialTreaty", "hasTown", "(I)Z"⟩, 17) := ⟨⟨by decide +kernel, by decide +kernel⟩, List.mem_of_getElem? (i := 25) (by decide +kernel), List.mem_of_getElem? (i := 615) (by decide +kernel), List.mem_of_getElem? (i := 616) (by decide +kernel)⟩
theorem lw_p24 : lw_okq (⟨"SundialTreaty$State", "whyNotBend", "(LSundialTreaty$Valley;II)I"⟩, 7) := ⟨⟨by decide +kernel, by decide +kernel⟩, List.mem_of_getElem? (i := 254) (by decide +kernel), List.mem_of_getElem? (i := 619) (by decide +kernel), List.mem_of_getElem? (i := 620) (by decide +kernel)⟩
theorem lw_p25 : lw_okq (⟨"SundialTreaty$State", "wasBent", "(I)Z"⟩, 7) := ⟨⟨by decide +kernel, by decide +kernel⟩, List.mem_of_getElem? (i := 254) (by decide +kernel), List.mem_of_getElem? (i := 623) (by decide +kernel), List.mem_of_getElem? (i := 624) (by decide +kernel)⟩
theorem lw_p26 : lw_okq (⟨"SundialTreaty$Valley", "limit", "()I"⟩, 16) := ⟨⟨by decide +kernel, by decide +kernel⟩, List.mem_of_getElem? (i := 165) (by decide +kernel), List.mem_of_getElem? (i := 630) (by decide +kernel), List.mem_of_getElem? (i := 631) (by decide +kernel)⟩
theorem lw_p27 : lw_okq (⟨"SundialTreaty$History", "keep", "(LSundialTreaty$State;)V"⟩, 2) := ⟨⟨by decide +kernel, by decide +kernel⟩, List.mem_of_getElem? (i := 290) (by decide +kernel), List.mem_of_getElem? (i := 634) (by decide +kernel), List.mem_of_getElem? (i := 635) (by decide +kernel)⟩
theorem lw_p28 : lw_okq (⟨"SundialTreaty$State", "copyFrom", "(LSundialTreaty$State;)V"⟩, 7) := ⟨⟨by decide +kernel, by decide +kernel⟩, List.mem_of_getElem? (i := 254) (by decide +kernel), List.mem_of_getElem? (i := 638) (by decide +kernel), List.mem_of_getElem? (i := 639) (by decide +kernel)⟩
theorem lw_p29 : lw_okq (⟨"SundialTreaty$State", "bendBy", "(II)V"⟩, 7) := ⟨⟨by decide +kernel, by decide +kernel⟩, List.mem_of_getElem? (i := 254) (by decide +kernel), List.mem_of_getElem? (i := 645) (by decide +kernel), List.mem_of_getElem? (i := 646) (by decide +kernel)⟩
theorem lw_p30 : lw_okq (⟨"SundialTreaty$State", "isShaded", "(I)Z"⟩, 7) := ⟨⟨by decide +kernel, by decide +kernel⟩, List.mem_of_getElem? (i := 254) (by decide +kernel), List.mem_of_getElem? (i := 653) (by decide +kernel), List.mem_of_getElem? (i := 654) (by decide +kernel)⟩
theorem lw_p31 : lw_okq (⟨"SundialTreaty$State", "turnShade", "(I)V"⟩, 7) := ⟨⟨by decide +kernel, by decide +kernel⟩, List.mem_of_getElem? (i := 254) (by decide +kernel), List.mem_of_getElem? (i := 657) (by decide +kernel), List.mem_of_getElem? (i := 658) (by decide +kernel)⟩
def lw_privs_2 : List (MethodName × Nat) := [(⟨"SundialTreaty$Reader", "takeWay", "()Z"⟩, 15), (⟨"SundialTreaty$ValleyText", "readTerm", "(LSundialTreaty$Valley;LSundialTreaty$Reader;)Z"⟩, 1), (⟨"SundialTreaty$Reader", "takeTown", "(LSundialTreaty$Valley;I)Z"⟩, 15), (⟨"SundialTreaty$ValleyText", "readTrain", "(LSundialTreaty$Valley;LSundialTreaty$Reader;)Z"⟩, 1), (⟨"SundialTreaty$ValleyText", "readSetting", "(LSundialTreaty$Valley;LSundialTreaty$Reader;I)Z"⟩, 1), (⟨"SundialTreaty$Reader", "takeSign", "(I)Z"⟩, 15), (⟨"SundialTreaty$State", "beginIn", "(LSundialTreaty$Valley;)V"⟩, 7), (⟨"SundialTreaty", "hasTown", "(I)Z"⟩, 17), (⟨"SundialTreaty$State", "whyNotBend", "(LSundialTreaty$Valley;II)I"⟩, 7), (⟨"SundialTreaty$State", "wasBent", "(I)Z"⟩, 7), (⟨"SundialTreaty$Valley", "limit", "()I"⟩, 16), (⟨"SundialTreaty$History", "keep", "(LSundialTreaty$State;)V"⟩, 2), (⟨"SundialTreaty$State", "copyFrom", "(LSundialTreaty$State;)V"⟩, 7), (⟨"SundialTreaty$State", "bendBy", "(II)V"⟩, 7), (⟨"SundialTreaty$State", "isShaded", "(I)Z"⟩, 7), (⟨"SundialTreaty$State", "turnShade", "(I)V"⟩, 7)]
theorem lw_r2 : ∀ q ∈ lw_privs_2, lw_okq q := List.forall_mem_cons.mpr ⟨lw_p16, List.forall_mem_cons.mpr ⟨lw_p17, List.forall_mem_cons.mpr ⟨lw_p18, List.forall_mem_cons.mpr ⟨lw_p19, List.forall_mem_cons.mpr ⟨lw_p20, List.forall_mem_cons.mpr ⟨lw_p21, List.forall_mem_cons.mpr ⟨lw_p22, List.forall_mem_cons.mpr ⟨lw_p23, List.forall_mem_cons.mpr ⟨lw_p24, List.forall_mem_cons.mpr ⟨lw_p25, List.forall_mem_cons.mpr ⟨lw_p26, List.forall_mem_cons.mpr ⟨lw_p27, List.forall_mem_cons.mpr ⟨lw_p28, List.forall_mem_cons.mpr ⟨lw_p29, List.forall_mem_cons.mpr ⟨lw_p30, List.forall_mem_cons.mpr ⟨lw_p31, fun _ h => absurd h List.not_mem_nil⟩⟩⟩⟩⟩⟩⟩⟩⟩⟩⟩⟩⟩⟩⟩⟩
theorem lw_p32 : lw_okq (⟨"SundialTreaty$State", "springBack", "(LSundialTreaty$Valley;)I"⟩, 7) := ⟨⟨by decide +kernel, by decide +kernel⟩, List.mem_of_getElem? (i := 254) (by decide +kernel), List.mem_of_getElem? (i := 669) (by decide +kernel), List.mem_of_getElem? (i := 670) (by decide +kernel)⟩
theorem lw_p33 : lw_okq (⟨"SundialTreaty$State", "passDays", "(LSundialTreaty$Valley;I)V"⟩, 7) := ⟨⟨by decide +kernel, by decide +kernel⟩, List.mem_of_getElem? (i := 254) (by decide +kernel), List.mem_of_getElem? (i := 683) (by decide +kernel), List.mem_of_getElem? (i := 684) (by decide +kernel)⟩
theorem lw_p34 : lw_okq (⟨"SundialTreaty$State", "passDay", "(LSundialTreaty$Valley;)V"⟩, 7) := ⟨⟨by decide +kernel, by decide +kernel⟩, List.mem_of_getElem? (i := 254) (by decide +kernel), List.mem_of_getElem? (i := 687) (by decide +kernel), List.mem_of_getElem? (i := 688) (by decide +kernel)⟩
theorem lw_p35 : lw_okq (⟨"SundialTreaty$State", "inBreach", "(LSundialTreaty$Valley;I)Z"⟩, 7) := ⟨⟨by decide +kernel, by decide +kernel⟩, List.mem_of_getElem? (i := 254) (by decide +kernel), List.mem_of_getElem? (i := 692) (by decide +kernel), List.mem_of_getElem? (i := 693) (by decide +kernel)⟩
theorem lw_p36 : lw_okq (⟨"SundialTreaty$Valley", "dueOn", "(II)I"⟩, 16) := ⟨⟨by decide +kernel, by decide +kernel⟩, List.mem_of_getElem? (i := 165) (by decide +kernel), List.mem_of_getElem? (i := 696) (by decide +kernel), List.mem_of_getElem? (i := 697) (by decide +kernel)⟩
theorem lw_p37 : lw_okq (⟨"SundialTreaty$History", "takeBack", "(LSundialTreaty$State;)I"⟩, 2) := ⟨⟨by decide +kernel, by decide +kernel⟩, List.mem_of_getElem? (i := 290) (by decide +kernel), List.mem_of_getElem? (i := 704) (by decide +kernel), List.mem_of_getElem? (i := 705) (by decide +kernel)⟩
theorem lw_p38 : lw_okq (⟨"SundialTreaty", "bendsAdded", "()I"⟩, 17) := ⟨⟨by decide +kernel, by decide +kernel⟩, List.mem_of_getElem? (i := 25) (by decide +kernel), List.mem_of_getElem? (i := 712) (by decide +kernel), List.mem_of_getElem? (i := 713) (by decide +kernel)⟩
theorem lw_p39 : lw_okq (⟨"SundialTreaty", "added", "([I)I"⟩, 17) := ⟨⟨by decide +kernel, by decide +kernel⟩, List.mem_of_getElem? (i := 25) (by decide +kernel), List.mem_of_getElem? (i := 716) (by decide +kernel), List.mem_of_getElem? (i := 717) (by decide +kernel)⟩
theorem lw_p40 : lw_okq (⟨"SundialTreaty", "roomOf", "(II)I"⟩, 17) := ⟨⟨by decide +kernel, by decide +kernel⟩, List.mem_of_getElem? (i := 25) (by decide +kernel), List.mem_of_getElem? (i := 721) (by decide +kernel), List.mem_of_getElem? (i := 722) (by decide +kernel)⟩
theorem lw_p41 : lw_okq (⟨"SundialTreaty", "hasDue", "(I)Z"⟩, 17) := ⟨⟨by decide +kernel, by decide +kernel⟩, List.mem_of_getElem? (i := 25) (by decide +kernel), List.mem_of_getElem? (i := 725) (by decide +kernel), List.mem_of_getElem? (i := 726) (by decide +kernel)⟩
theorem lw_p42 : lw_okq (⟨"SundialTreaty$State", "bendToDues", "(LSundialTreaty$Valley;)V"⟩, 7) := ⟨⟨by decide +kernel, by decide +kernel⟩, List.mem_of_getElem? (i := 254) (by decide +kernel), List.mem_of_getElem? (i := 738) (by decide +kernel), List.mem_of_getElem? (i := 739) (by decide +kernel)⟩
theorem lw_p43 : lw_okq (⟨"SundialTreaty$State", "breachBits", "(LSundialTreaty$Valley;)I"⟩, 7) := ⟨⟨by decide +kernel, by decide +kernel⟩, List.mem_of_getElem? (i := 254) (by decide +kernel), List.mem_of_getElem? (i := 744) (by decide +kernel), List.mem_of_getElem? (i := 745) (by decide +kernel)⟩
theorem lw_p44 : lw_okq (⟨"SundialTreaty$Router", "find", "(LSundialTreaty$Valley;LSundialTreaty$State;III)I"⟩, 5) := ⟨⟨by decide +kernel, by decide +kernel⟩, List.mem_of_getElem? (i := 374) (by decide +kernel), List.mem_of_getElem? (i := 756) (by decide +kernel), List.mem_of_getElem? (i := 757) (by decide +kernel)⟩
theorem lw_p45 : lw_okq (⟨"SundialTreaty$Router", "search", "(LSundialTreaty$Valley;LSundialTreaty$State;III)V"⟩, 5) := ⟨⟨by decide +kernel, by decide +kernel⟩, List.mem_of_getElem? (i := 374) (by decide +kernel), List.mem_of_getElem? (i := 760) (by decide +kernel), List.mem_of_getElem? (i := 761) (by decide +kernel)⟩
theorem lw_p46 : lw_okq (⟨"SundialTreaty$State", "leaves", "(LSundialTreaty$Valley;I)I"⟩, 7) := ⟨⟨by decide +kernel, by decide +kernel⟩, List.mem_of_getElem? (i := 254) (by decide +kernel), List.mem_of_getElem? (i := 764) (by decide +kernel), List.mem_of_getElem? (i := 765) (by decide +kernel)⟩
theorem lw_p47 : lw_okq (⟨"SundialTreaty$State", "noonByDial", "(LSundialTreaty$Valley;I)I"⟩, 7) := ⟨⟨by decide +kernel, by decide +kernel⟩, List.mem_of_getElem? (i := 254) (by decide +kernel), List.mem_of_getElem? (i := 768) (by decide +kernel), List.mem_of_getElem? (i := 769) (by decide +kernel)⟩
def lw_privs_3 : List (MethodName × Nat) := [(⟨"SundialTreaty$State", "springBack", "(LSundialTreaty$Valley;)I"⟩, 7), (⟨"SundialTreaty$State", "passDays", "(LSundialTreaty$Valley;I)V"⟩, 7), (⟨"SundialTreaty$State", "passDay", "(LSundialTreaty$Valley;)V"⟩, 7), (⟨"SundialTreaty$State", "inBreach", "(LSundialTreaty$Valley;I)Z"⟩, 7), (⟨"SundialTreaty$Valley", "dueOn", "(II)I"⟩, 16), (⟨"SundialTreaty$History", "takeBack", "(LSundialTreaty$State;)I"⟩, 2), (⟨"SundialTreaty", "bendsAdded", "()I"⟩, 17), (⟨"SundialTreaty", "added", "([I)I"⟩, 17), (⟨"SundialTreaty", "roomOf", "(II)I"⟩, 17), (⟨"SundialTreaty", "hasDue", "(I)Z"⟩, 17), (⟨"SundialTreaty$State", "bendToDues", "(LSundialTreaty$Valley;)V"⟩, 7), (⟨"SundialTreaty$State", "breachBits", "(LSundialTreaty$Valley;)I"⟩, 7), (⟨"SundialTreaty$Router", "find", "(LSundialTreaty$Valley;LSundialTreaty$State;III)I"⟩, 5), (⟨"SundialTreaty$Router", "search", "(LSundialTreaty$Valley;LSundialTreaty$State;III)V"⟩, 5), (⟨"SundialTreaty$State", "leaves", "(LSundialTreaty$Valley;I)I"⟩, 7), (⟨"SundialTreaty$State", "noonByDial", "(LSundialTreaty$Valley;I)I"⟩, 7)]
theorem lw_r3 : ∀ q ∈ lw_privs_3, lw_okq q := List.forall_mem_cons.mpr ⟨lw_p32, List.forall_mem_cons.mpr ⟨lw_p33, List.forall_mem_cons.mpr ⟨lw_p34, List.forall_mem_cons.mpr ⟨lw_p35, List.forall_mem_cons.mpr ⟨lw_p36, List.forall_mem_cons.mpr ⟨lw_p37, List.forall_mem_cons.mpr ⟨lw_p38, List.forall_mem_cons.mpr ⟨lw_p39, List.forall_mem_cons.mpr ⟨lw_p40, List.forall_mem_cons.mpr ⟨lw_p41, List.forall_mem_cons.mpr ⟨lw_p42, List.forall_mem_cons.mpr ⟨lw_p43, List.forall_mem_cons.mpr ⟨lw_p44, List.forall_mem_cons.mpr ⟨lw_p45, List.forall_mem_cons.mpr ⟨lw_p46, List.forall_mem_cons.mpr ⟨lw_p47, fun _ h => absurd h List.not_mem_nil⟩⟩⟩⟩⟩⟩⟩⟩⟩⟩⟩⟩⟩⟩⟩⟩
theorem lw_p48 : lw_okq (⟨"SundialTreaty$State", "comes", "(LSundialTreaty$Valley;I)I"⟩, 7) := ⟨⟨by decide +kernel, by decide +kernel⟩, List.mem_of_getElem? (i := 254) (by decide +kernel), List.mem_of_getElem? (i := 772) (by decide +kernel), List.mem_of_getElem? (i := 773) (by decide +kernel)⟩
theorem lw_p49 : lw_okq (⟨"SundialTreaty$Router", "takeIfBetter", "(II)V"⟩, 5) := ⟨⟨by decide +kernel, by decide +kernel⟩, List.mem_of_getElem? (i := 374) (by decide +kernel), List.mem_of_getElem? (i := 777) (by decide +kernel), List.mem_of_getElem? (i := 778) (by decide +kernel)⟩
theorem lw_p50 : lw_okq (⟨"SundialTreaty$Valley", "change", "()I"⟩, 16) := ⟨⟨by decide +kernel, by decide +kernel⟩, List.mem_of_getElem? (i := 165) (by decide +kernel), List.mem_of_getElem? (i := 782) (by decide +kernel), List.mem_of_getElem? (i := 783) (by decide +kernel)⟩
theorem lw_p51 : lw_okq (⟨"SundialTreaty$State", "comeNearer", "(LSundialTreaty$Valley;)Z"⟩, 7) := ⟨⟨by decide +kernel, by decide +kernel⟩, List.mem_of_getElem? (i := 254) (by decide +kernel), List.mem_of_getElem? (i := 798) (by decide +kernel), List.mem_of_getElem? (i := 799) (by decide +kernel)⟩
theorem lw_p52 : lw_okq (⟨"SundialTreaty$State", "middleNoon", "(LSundialTreaty$Valley;I)I"⟩, 7) := ⟨⟨by decide +kernel, by decide +kernel⟩, List.mem_of_getElem? (i := 254) (by decide +kernel), List.mem_of_getElem? (i := 802) (by decide +kernel), List.mem_of_getElem? (i := 803) (by decide +kernel)⟩
theorem lw_p53 : lw_okq (⟨"SundialTreaty$State", "noonsUpTo", "(LSundialTreaty$Valley;II)I"⟩, 7) := ⟨⟨by decide +kernel, by decide +kernel⟩, List.mem_of_getElem? (i := 254) (by decide +kernel), List.mem_of_getElem? (i := 806) (by decide +kernel), List.mem_of_getElem? (i := 807) (by decide +kernel)⟩
theorem lw_p54 : lw_okq (⟨"SundialTreaty$Motto", "write", "(JIZ)V"⟩, 2) := ⟨⟨by decide +kernel, by decide +kernel⟩, List.mem_of_getElem? (i := 398) (by decide +kernel), List.mem_of_getElem? (i := 825) (by decide +kernel), List.mem_of_getElem? (i := 826) (by decide +kernel)⟩
theorem lw_p55 : lw_okq (⟨"SundialTreaty$Motto", "put", "(I)V"⟩, 2) := ⟨⟨by decide +kernel, by decide +kernel⟩, List.mem_of_getElem? (i := 398) (by decide +kernel), List.mem_of_getElem? (i := 829) (by decide +kernel), List.mem_of_getElem? (i := 830) (by decide +kernel)⟩
theorem lw_p56 : lw_okq (⟨"SundialTreaty$Motto", "put", "(Ljava/lang/String;)V"⟩, 2) := ⟨⟨by decide +kernel, by decide +kernel⟩, List.mem_of_getElem? (i := 398) (by decide +kernel), List.mem_of_getElem? (i := 834) (by decide +kernel), List.mem_of_getElem? (i := 835) (by decide +kernel)⟩
theorem lw_p57 : lw_okq (⟨"SundialTreaty$Motto", "putMinutes", "(I)V"⟩, 2) := ⟨⟨by decide +kernel, by decide +kernel⟩, List.mem_of_getElem? (i := 398) (by decide +kernel), List.mem_of_getElem? (i := 844) (by decide +kernel), List.mem_of_getElem? (i := 845) (by decide +kernel)⟩
theorem lw_p58 : lw_okq (⟨"SundialTreaty$State", "drawDays", "(LSundialTreaty$Valley;II)V"⟩, 7) := ⟨⟨by decide +kernel, by decide +kernel⟩, List.mem_of_getElem? (i := 254) (by decide +kernel), List.mem_of_getElem? (i := 857) (by decide +kernel), List.mem_of_getElem? (i := 858) (by decide +kernel)⟩
theorem lw_p59 : lw_okq (⟨"SundialTreaty$State", "draw", "(I)I"⟩, 7) := ⟨⟨by decide +kernel, by decide +kernel⟩, List.mem_of_getElem? (i := 254) (by decide +kernel), List.mem_of_getElem? (i := 861) (by decide +kernel), List.mem_of_getElem? (i := 862) (by decide +kernel)⟩
theorem lw_p60 : lw_okq (⟨"SundialTreaty$Valley", "frost", "()I"⟩, 16) := ⟨⟨by decide +kernel, by decide +kernel⟩, List.mem_of_getElem? (i := 165) (by decide +kernel), List.mem_of_getElem? (i := 866) (by decide +kernel), List.mem_of_getElem? (i := 867) (by decide +kernel)⟩
theorem lw_p61 : lw_okq (⟨"SundialTreaty$State", "actByDraw", "(LSundialTreaty$Valley;II)V"⟩, 7) := ⟨⟨by decide +kernel, by decide +kernel⟩, List.mem_of_getElem? (i := 254) (by decide +kernel), List.mem_of_getElem? (i := 871) (by decide +kernel), List.mem_of_getElem? (i := 872) (by decide +kernel)⟩
theorem lw_p62 : lw_okq (⟨"SundialTreaty$Book", "read", "(LSundialTreaty$Valley;LSundialTreaty$Reader;)Z"⟩, 10) := ⟨⟨by decide +kernel, by decide +kernel⟩, List.mem_of_getElem? (i := 331) (by decide +kernel), List.mem_of_getElem? (i := 886) (by decide +kernel), List.mem_of_getElem? (i := 887) (by decide +kernel)⟩
theorem lw_p63 : lw_okq (⟨"SundialTreaty$Book", "readLine", "(LSundialTreaty$Valley;LSundialTreaty$Reader;)Z"⟩, 10) := ⟨⟨by decide +kernel, by decide +kernel⟩, List.mem_of_getElem? (i := 331) (by decide +kernel), List.mem_of_getElem? (i := 896) (by decide +kernel), List.mem_of_getElem? (i := 897) (by decide +kernel)⟩
def lw_privs_4 : List (MethodName × Nat) := [(⟨"SundialTreaty$State", "comes", "(LSundialTreaty$Valley;I)I"⟩, 7), (⟨"SundialTreaty$Router", "takeIfBetter", "(II)V"⟩, 5), (⟨"SundialTreaty$Valley", "change", "()I"⟩, 16), (⟨"SundialTreaty$State", "comeNearer", "(LSundialTreaty$Valley;)Z"⟩, 7), (⟨"SundialTreaty$State", "middleNoon", "(LSundialTreaty$Valley;I)I"⟩, 7), (⟨"SundialTreaty$State", "noonsUpTo", "(LSundialTreaty$Valley;II)I"⟩, 7), (⟨"SundialTreaty$Motto", "write", "(JIZ)V"⟩, 2), (⟨"SundialTreaty$Motto", "put", "(I)V"⟩, 2), (⟨"SundialTreaty$Motto", "put", "(Ljava/lang/String;)V"⟩, 2), (⟨"SundialTreaty$Motto", "putMinutes", "(I)V"⟩, 2), (⟨"SundialTreaty$State", "drawDays", "(LSundialTreaty$Valley;II)V"⟩, 7), (⟨"SundialTreaty$State", "draw", "(I)I"⟩, 7), (⟨"SundialTreaty$Valley", "frost", "()I"⟩, 16), (⟨"SundialTreaty$State", "actByDraw", "(LSundialTreaty$Valley;II)V"⟩, 7), (⟨"SundialTreaty$Book", "read", "(LSundialTreaty$Valley;LSundialTreaty$Reader;)Z"⟩, 10), (⟨"SundialTreaty$Book", "readLine", "(LSundialTreaty$Valley;LSundialTreaty$Reader;)Z"⟩, 10)]
theorem lw_r4 : ∀ q ∈ lw_privs_4, lw_okq q := List.forall_mem_cons.mpr ⟨lw_p48, List.forall_mem_cons.mpr ⟨lw_p49, List.forall_mem_cons.mpr ⟨lw_p50, List.forall_mem_cons.mpr ⟨lw_p51, List.forall_mem_cons.mpr ⟨lw_p52, List.forall_mem_cons.mpr ⟨lw_p53, List.forall_mem_cons.mpr ⟨lw_p54, List.forall_mem_cons.mpr ⟨lw_p55, List.forall_mem_cons.mpr ⟨lw_p56, List.forall_mem_cons.mpr ⟨lw_p57, List.forall_mem_cons.mpr ⟨lw_p58, List.forall_mem_cons.mpr ⟨lw_p59, List.forall_mem_cons.mpr ⟨lw_p60, List.forall_mem_cons.mpr ⟨lw_p61, List.forall_mem_cons.mpr ⟨lw_p62, List.forall_mem_cons.mpr ⟨lw_p63, fun _ h => absurd h List.not_mem_nil⟩⟩⟩⟩⟩⟩⟩⟩⟩⟩⟩⟩⟩⟩⟩⟩
theorem lw_p64 : lw_okq (⟨"SundialTreaty$Book", "judge", "(LSundialTreaty$Valley;LSundialTreaty$State;)V"⟩, 10) := ⟨⟨by decide +kernel, by decide +kernel⟩, List.mem_of_getElem? (i := 331) (by decide +kernel), List.mem_of_getElem? (i := 905) (by decide +kernel), List.mem_of_getElem? (i := 906) (by decide +kernel)⟩
theorem lw_p65 : lw_okq (⟨"SundialTreaty$Book", "live", "(LSundialTreaty$Valley;LSundialTreaty$State;I)I"⟩, 10) := ⟨⟨by decide +kernel, by decide +kernel⟩, List.mem_of_getElem? (i := 331) (by decide +kernel), List.mem_of_getElem? (i := 909) (by decide +kernel), List.mem_of_getElem? (i := 910) (by decide +kernel)⟩
theorem lw_p66 : lw_okq (⟨"SundialTreaty$Sentence", "read", "(LSundialTreaty$Valley;LSundialTreaty$Reader;)Z"⟩, 5) := ⟨⟨by decide +kernel, by decide +kernel⟩, List.mem_of_getElem? (i := 307) (by decide +kernel), List.mem_of_getElem? (i := 940) (by decide +kernel), List.mem_of_getElem? (i := 941) (by decide +kernel)⟩
theorem lw_p67 : lw_okq (⟨"SundialTreaty$Sentence", "readCond", "(LSundialTreaty$Valley;LSundialTreaty$Reader;I)Z"⟩, 5) := ⟨⟨by decide +kernel, by decide +kernel⟩, List.mem_of_getElem? (i := 307) (by decide +kernel), List.mem_of_getElem? (i := 945) (by decide +kernel), List.mem_of_getElem? (i := 946) (by decide +kernel)⟩
theorem lw_p68 : lw_okq (⟨"SundialTreaty$Sentence", "readAll", "(LSundialTreaty$Valley;LSundialTreaty$Reader;I)Z"⟩, 5) := ⟨⟨by decide +kernel, by decide +kernel⟩, List.mem_of_getElem? (i := 307) (by decide +kernel), List.mem_of_getElem? (i := 949) (by decide +kernel), List.mem_of_getElem? (i := 950) (by decide +kernel)⟩
theorem lw_p69 : lw_okq (⟨"SundialTreaty$Sentence", "readOne", "(LSundialTreaty$Valley;LSundialTreaty$Reader;I)Z"⟩, 5) := ⟨⟨by decide +kernel, by decide +kernel⟩, List.mem_of_getElem? (i := 307) (by decide +kernel), List.mem_of_getElem? (i := 953) (by decide +kernel), List.mem_of_getElem? (i := 954) (by decide +kernel)⟩
theorem lw_p70 : lw_okq (⟨"SundialTreaty$Sentence", "addStep", "(III)V"⟩, 5) := ⟨⟨by decide +kernel, by decide +kernel⟩, List.mem_of_getElem? (i := 307) (by decide +kernel), List.mem_of_getElem? (i := 963) (by decide +kernel), List.mem_of_getElem? (i := 964) (by decide +kernel)⟩
theorem lw_p71 : lw_okq (⟨"SundialTreaty$Sentence", "readPlain", "(LSundialTreaty$Valley;LSundialTreaty$Reader;I)Z"⟩, 5) := ⟨⟨by decide +kernel, by decide +kernel⟩, List.mem_of_getElem? (i := 307) (by decide +kernel), List.mem_of_getElem? (i := 967) (by decide +kernel), List.mem_of_getElem? (i := 968) (by decide +kernel)⟩
theorem lw_p72 : lw_okq (⟨"SundialTreaty$Sentence", "holds", "(LSundialTreaty$Valley;LSundialTreaty$State;I)Z"⟩, 5) := ⟨⟨by decide +kernel, by decide +kernel⟩, List.mem_of_getElem? (i := 307) (by decide +kernel), List.mem_of_getElem? (i := 978) (by decide +kernel), List.mem_of_getElem? (i := 979) (by decide +kernel)⟩
theorem lw_p73 : lw_okq (⟨"SundialTreaty$Sentence", "plainHolds", "(LSundialTreaty$Valley;LSundialTreaty$State;II)Z"⟩, 5) := ⟨⟨by decide +kernel, by decide +kernel⟩, List.mem_of_getElem? (i := 307) (by decide +kernel), List.mem_of_getElem? (i := 983) (by decide +kernel), List.mem_of_getElem? (i := 984) (by decide +kernel)⟩
theorem lw_p74 : lw_okq (⟨"SundialTreaty$Sentence", "compares", "(II)Z"⟩, 5) := ⟨⟨by decide +kernel, by decide +kernel⟩, List.mem_of_getElem? (i := 307) (by decide +kernel), List.mem_of_getElem? (i := 991) (by decide +kernel), List.mem_of_getElem? (i := 992) (by decide +kernel)⟩
theorem lw_p75 : lw_okq (⟨"SundialTreaty$Valley", "copyFrom", "(LSundialTreaty$Valley;)V"⟩, 16) := ⟨⟨by decide +kernel, by decide +kernel⟩, List.mem_of_getElem? (i := 165) (by decide +kernel), List.mem_of_getElem? (i := 999) (by decide +kernel), List.mem_of_getElem? (i := 1000) (by decide +kernel)⟩
theorem lw_p76 : lw_okq (⟨"SundialTreaty$Sentence", "copyFrom", "(LSundialTreaty$Sentence;)V"⟩, 5) := ⟨⟨by decide +kernel, by decide +kernel⟩, List.mem_of_getElem? (i := 307) (by decide +kernel), List.mem_of_getElem? (i := 1004) (by decide +kernel), List.mem_of_getElem? (i := 1005) (by decide +kernel)⟩
theorem lw_p77 : lw_okq (⟨"java/lang/Throwable", "fillInStackTrace", "(I)Ljava/lang/Throwable;"⟩, 6) := ⟨⟨by decide +kernel, by decide +kernel⟩, List.mem_of_getElem? (i := 1064) (by decide +kernel), List.mem_of_getElem? (i := 1062) (by decide +kernel), List.mem_of_getElem? (i := 1063) (by decide +kernel)⟩
theorem lw_p78 : lw_okq (⟨"SundialTreaty", "hasTrain", "(I)Z"⟩, 17) := ⟨⟨by decide +kernel, by decide +kernel⟩, List.mem_of_getElem? (i := 25) (by decide +kernel), List.mem_of_getElem? (i := 1113) (by decide +kernel), List.mem_of_getElem? (i := 1114) (by decide +kernel)⟩
theorem lw_p79 : lw_okq (⟨"SundialTreaty", "minutesOff", "()I"⟩, 17) := ⟨⟨by decide +kernel, by decide +kernel⟩, List.mem_of_getElem? (i := 25) (by decide +kernel), List.mem_of_getElem? (i := 1136) (by decide +kernel), List.mem_of_getElem? (i := 1137) (by decide +kernel)⟩
def lw_privs_5 : List (MethodName × Nat) := [(⟨"SundialTreaty$Book", "judge", "(LSundialTreaty$Valley;LSundialTreaty$State;)V"⟩, 10), (⟨"SundialTreaty$Book", "live", "(LSundialTreaty$Valley;LSundialTreaty$State;I)I"⟩, 10), (⟨"SundialTreaty$Sentence", "read", "(LSundialTreaty$Valley;LSundialTreaty$Reader;)Z"⟩, 5), (⟨"SundialTreaty$Sentence", "readCond", "(LSundialTreaty$Valley;LSundialTreaty$Reader;I)Z"⟩, 5), (⟨"SundialTreaty$Sentence", "readAll", "(LSundialTreaty$Valley;LSundialTreaty$Reader;I)Z"⟩, 5), (⟨"SundialTreaty$Sentence", "readOne", "(LSundialTreaty$Valley;LSundialTreaty$Reader;I)Z"⟩, 5), (⟨"SundialTreaty$Sentence", "addStep", "(III)V"⟩, 5), (⟨"SundialTreaty$Sentence", "readPlain", "(LSundialTreaty$Valley;LSundialTreaty$Reader;I)Z"⟩, 5), (⟨"SundialTreaty$Sentence", "holds", "(LSundialTreaty$Valley;LSundialTreaty$State;I)Z"⟩, 5), (⟨"SundialTreaty$Sentence", "plainHolds", "(LSundialTreaty$Valley;LSundialTreaty$State;II)Z"⟩, 5), (⟨"SundialTreaty$Sentence", "compares", "(II)Z"⟩, 5), (⟨"SundialTreaty$Valley", "copyFrom", "(LSundialTreaty$Valley;)V"⟩, 16), (⟨"SundialTreaty$Sentence", "copyFrom", "(LSundialTreaty$Sentence;)V"⟩, 5), (⟨"java/lang/Throwable", "fillInStackTrace", "(I)Ljava/lang/Throwable;"⟩, 6), (⟨"SundialTreaty", "hasTrain", "(I)Z"⟩, 17), (⟨"SundialTreaty", "minutesOff", "()I"⟩, 17)]
theorem lw_r5 : ∀ q ∈ lw_privs_5, lw_okq q := List.forall_mem_cons.mpr ⟨lw_p64, List.forall_mem_cons.mpr ⟨lw_p65, List.forall_mem_cons.mpr ⟨lw_p66, List.forall_mem_cons.mpr ⟨lw_p67, List.forall_mem_cons.mpr ⟨lw_p68, List.forall_mem_cons.mpr ⟨lw_p69, List.forall_mem_cons.mpr ⟨lw_p70, List.forall_mem_cons.mpr ⟨lw_p71, List.forall_mem_cons.mpr ⟨lw_p72, List.forall_mem_cons.mpr ⟨lw_p73, List.forall_mem_cons.mpr ⟨lw_p74, List.forall_mem_cons.mpr ⟨lw_p75, List.forall_mem_cons.mpr ⟨lw_p76, List.forall_mem_cons.mpr ⟨lw_p77, List.forall_mem_cons.mpr ⟨lw_p78, List.forall_mem_cons.mpr ⟨lw_p79, fun _ h => absurd h List.not_mem_nil⟩⟩⟩⟩⟩⟩⟩⟩⟩⟩⟩⟩⟩⟩⟩⟩
theorem lw_p80 : lw_okq (⟨"SundialTreatyModel", "four", "(I)V"⟩, 51) := ⟨⟨by decide +kernel, by decide +kernel⟩, List.mem_of_getElem? (i := 1200) (by decide +kernel), List.mem_of_getElem? (i := 1198) (by decide +kernel), List.mem_of_getElem? (i := 1199) (by decide +kernel)⟩
theorem lw_p81 : lw_okq (⟨"SundialTreatyModel", "clears", "()V"⟩, 51) := ⟨⟨by decide +kernel, by decide +kernel⟩, List.mem_of_getElem? (i := 1200) (by decide +kernel), List.mem_of_getElem? (i := 1234) (by decide +kernel), List.mem_of_getElem? (i := 1235) (by decide +kernel)⟩
theorem lw_p82 : lw_okq (⟨"SundialTreatyModel", "taken", "(I)V"⟩, 51) := ⟨⟨by decide +kernel, by decide +kernel⟩, List.mem_of_getElem? (i := 1200) (by decide +kernel), List.mem_of_getElem? (i := 1396) (by decide +kernel), List.mem_of_getElem? (i := 1397) (by decide +kernel)⟩
theorem lw_p83 : lw_okq (⟨"SundialTreatyModel", "next", "()V"⟩, 51) := ⟨⟨by decide +kernel, by decide +kernel⟩, List.mem_of_getElem? (i := 1200) (by decide +kernel), List.mem_of_getElem? (i := 1400) (by decide +kernel), List.mem_of_getElem? (i := 1401) (by decide +kernel)⟩
theorem lw_p84 : lw_okq (⟨"SundialTreatyModel", "peek", "()I"⟩, 51) := ⟨⟨by decide +kernel, by decide +kernel⟩, List.mem_of_getElem? (i := 1200) (by decide +kernel), List.mem_of_getElem? (i := 1404) (by decide +kernel), List.mem_of_getElem? (i := 1405) (by decide +kernel)⟩
theorem lw_p85 : lw_okq (⟨"SundialTreatyModel", "line", "()Z"⟩, 51) := ⟨⟨by decide +kernel, by decide +kernel⟩, List.mem_of_getElem? (i := 1200) (by decide +kernel), List.mem_of_getElem? (i := 1414) (by decide +kernel), List.mem_of_getElem? (i := 1415) (by decide +kernel)⟩
theorem lw_p86 : lw_okq (⟨"SundialTreatyModel", "isWord", "(J)Z"⟩, 51) := ⟨⟨by decide +kernel, by decide +kernel⟩, List.mem_of_getElem? (i := 1200) (by decide +kernel), List.mem_of_getElem? (i := 1418) (by decide +kernel), List.mem_of_getElem? (i := 1419) (by decide +kernel)⟩
theorem lw_p87 : lw_okq (⟨"SundialTreatyModel", "readTown", "()Z"⟩, 51) := ⟨⟨by decide +kernel, by decide +kernel⟩, List.mem_of_getElem? (i := 1200) (by decide +kernel), List.mem_of_getElem? (i := 1422) (by decide +kernel), List.mem_of_getElem? (i := 1423) (by decide +kernel)⟩
theorem lw_p88 : lw_okq (⟨"SundialTreatyModel", "bad", "(I)Z"⟩, 51) := ⟨⟨by decide +kernel, by decide +kernel⟩, List.mem_of_getElem? (i := 1200) (by decide +kernel), List.mem_of_getElem? (i := 1426) (by decide +kernel), List.mem_of_getElem? (i := 1427) (by decide +kernel)⟩
theorem lw_p89 : lw_okq (⟨"SundialTreatyModel", "fresh", "(I)Z"⟩, 51) := ⟨⟨by decide +kernel, by decide +kernel⟩, List.mem_of_getElem? (i := 1200) (by decide +kernel), List.mem_of_getElem? (i := 1430) (by decide +kernel), List.mem_of_getElem? (i := 1431) (by decide +kernel)⟩
theorem lw_p90 : lw_okq (⟨"SundialTreatyModel", "isName", "()Z"⟩, 51) := ⟨⟨by decide +kernel, by decide +kernel⟩, List.mem_of_getElem? (i := 1200) (by decide +kernel), List.mem_of_getElem? (i := 1434) (by decide +kernel), List.mem_of_getElem? (i := 1435) (by decide +kernel)⟩
theorem lw_p91 : lw_okq (⟨"SundialTreatyModel", "find", "(II)I"⟩, 51) := ⟨⟨by decide +kernel, by decide +kernel⟩, List.mem_of_getElem? (i := 1200) (by decide +kernel), List.mem_of_getElem? (i := 1438) (by decide +kernel), List.mem_of_getElem? (i := 1439) (by decide +kernel)⟩
theorem lw_p92 : lw_okq (⟨"SundialTreatyModel", "puts", "(III)Z"⟩, 51) := ⟨⟨by decide +kernel, by decide +kernel⟩, List.mem_of_getElem? (i := 1200) (by decide +kernel), List.mem_of_getElem? (i := 1442) (by decide +kernel), List.mem_of_getElem? (i := 1443) (by decide +kernel)⟩
theorem lw_p93 : lw_okq (⟨"SundialTreatyModel", "takes", "(II)Z"⟩, 51) := ⟨⟨by decide +kernel, by decide +kernel⟩, List.mem_of_getElem? (i := 1200) (by decide +kernel), List.mem_of_getElem? (i := 1446) (by decide +kernel), List.mem_of_getElem? (i := 1447) (by decide +kernel)⟩
theorem lw_p94 : lw_okq (⟨"SundialTreatyModel", "takesWay", "(II)Z"⟩, 51) := ⟨⟨by decide +kernel, by decide +kernel⟩, List.mem_of_getElem? (i := 1200) (by decide +kernel), List.mem_of_getElem? (i := 1453) (by decide +kernel), List.mem_of_getElem? (i := 1454) (by decide +kernel)⟩
theorem lw_p95 : lw_okq (⟨"SundialTreatyModel", "readTerm", "()Z"⟩, 51) := ⟨⟨by decide +kernel, by decide +kernel⟩, List.mem_of_getElem? (i := 1200) (by decide +kernel), List.mem_of_getElem? (i := 1457) (by decide +kernel), List.mem_of_getElem? (i := 1458) (by decide +kernel)⟩
def lw_privs_6 : List (MethodName × Nat) := [(⟨"SundialTreatyModel", "four", "(I)V"⟩, 51), (⟨"SundialTreatyModel", "clears", "()V"⟩, 51), (⟨"SundialTreatyModel", "taken", "(I)V"⟩, 51), (⟨"SundialTreatyModel", "next", "()V"⟩, 51), (⟨"SundialTreatyModel", "peek", "()I"⟩, 51), (⟨"SundialTreatyModel", "line", "()Z"⟩, 51), (⟨"SundialTreatyModel", "isWord", "(J)Z"⟩, 51), (⟨"SundialTreatyModel", "readTown", "()Z"⟩, 51), (⟨"SundialTreatyModel", "bad", "(I)Z"⟩, 51), (⟨"SundialTreatyModel", "fresh", "(I)Z"⟩, 51), (⟨"SundialTreatyModel", "isName", "()Z"⟩, 51), (⟨"SundialTreatyModel", "find", "(II)I"⟩, 51), (⟨"SundialTreatyModel", "puts", "(III)Z"⟩, 51), (⟨"SundialTreatyModel", "takes", "(II)Z"⟩, 51), (⟨"SundialTreatyModel", "takesWay", "(II)Z"⟩, 51), (⟨"SundialTreatyModel", "readTerm", "()Z"⟩, 51)]
theorem lw_r6 : ∀ q ∈ lw_privs_6, lw_okq q := List.forall_mem_cons.mpr ⟨lw_p80, List.forall_mem_cons.mpr ⟨lw_p81, List.forall_mem_cons.mpr ⟨lw_p82, List.forall_mem_cons.mpr ⟨lw_p83, List.forall_mem_cons.mpr ⟨lw_p84, List.forall_mem_cons.mpr ⟨lw_p85, List.forall_mem_cons.mpr ⟨lw_p86, List.forall_mem_cons.mpr ⟨lw_p87, List.forall_mem_cons.mpr ⟨lw_p88, List.forall_mem_cons.mpr ⟨lw_p89, List.forall_mem_cons.mpr ⟨lw_p90, List.forall_mem_cons.mpr ⟨lw_p91, List.forall_mem_cons.mpr ⟨lw_p92, List.forall_mem_cons.mpr ⟨lw_p93, List.forall_mem_cons.mpr ⟨lw_p94, List.forall_mem_cons.mpr ⟨lw_p95, fun _ h => absurd h List.not_mem_nil⟩⟩⟩⟩⟩⟩⟩⟩⟩⟩⟩⟩⟩⟩⟩⟩
theorem lw_p96 : lw_okq (⟨"SundialTreatyModel", "takesName", "(II)Z"⟩, 51) := ⟨⟨by decide +kernel, by decide +kernel⟩, List.mem_of_getElem? (i := 1200) (by decide +kernel), List.mem_of_getElem? (i := 1461) (by decide +kernel), List.mem_of_getElem? (i := 1462) (by decide +kernel)⟩
theorem lw_p97 : lw_okq (⟨"SundialTreatyModel", "looksAt", "(II)Z"⟩, 51) := ⟨⟨by decide +kernel, by decide +kernel⟩, List.mem_of_getElem? (i := 1200) (by decide +kernel), List.mem_of_getElem? (i := 1465) (by decide +kernel), List.mem_of_getElem? (i := 1466) (by decide +kernel)⟩
theorem lw_p98 : lw_okq (⟨"SundialTreatyModel", "readTrain", "()Z"⟩, 51) := ⟨⟨by decide +kernel, by decide +kernel⟩, List.mem_of_getElem? (i := 1200) (by decide +kernel), List.mem_of_getElem? (i := 1469) (by decide +kernel), List.mem_of_getElem? (i := 1470) (by decide +kernel)⟩
theorem lw_p99 : lw_okq (⟨"SundialTreatyModel", "once", "(IIII)Z"⟩, 51) := ⟨⟨by decide +kernel, by decide +kernel⟩, List.mem_of_getElem? (i := 1200) (by decide +kernel), List.mem_of_getElem? (i := 1473) (by decide +kernel), List.mem_of_getElem? (i := 1474) (by decide +kernel)⟩
theorem lw_p100 : lw_okq (⟨"SundialTreatyModel", "sign", "(I)Z"⟩, 51) := ⟨⟨by decide +kernel, by decide +kernel⟩, List.mem_of_getElem? (i := 1200) (by decide +kernel), List.mem_of_getElem? (i := 1480) (by decide +kernel), List.mem_of_getElem? (i := 1481) (by decide +kernel)⟩
theorem lw_p101 : lw_okq (⟨"SundialTreatyModel", "isSign", "(I)Z"⟩, 51) := ⟨⟨by decide +kernel, by decide +kernel⟩, List.mem_of_getElem? (i := 1200) (by decide +kernel), List.mem_of_getElem? (i := 1484) (by decide +kernel), List.mem_of_getElem? (i := 1485) (by decide +kernel)⟩
theorem lw_p102 : lw_okq (⟨"SundialTreatyModel", "isTown", "(I)Z"⟩, 51) := ⟨⟨by decide +kernel, by decide +kernel⟩, List.mem_of_getElem? (i := 1200) (by decide +kernel), List.mem_of_getElem? (i := 1496) (by decide +kernel), List.mem_of_getElem? (i := 1497) (by decide +kernel)⟩
theorem lw_p103 : lw_okq (⟨"SundialTreatyModel", "throwsIf", "(Z)Z"⟩, 51) := ⟨⟨by decide +kernel, by decide +kernel⟩, List.mem_of_getElem? (i := 1200) (by decide +kernel), List.mem_of_getElem? (i := 1500) (by decide +kernel), List.mem_of_getElem? (i := 1501) (by decide +kernel)⟩
theorem lw_p104 : lw_okq (⟨"SundialTreatyModel", "isShaded", "(I)Z"⟩, 51) := ⟨⟨by decide +kernel, by decide +kernel⟩, List.mem_of_getElem? (i := 1200) (by decide +kernel), List.mem_of_getElem? (i := 1504) (by decide +kernel), List.mem_of_getElem? (i := 1505) (by decide +kernel)⟩
theorem lw_p105 : lw_okq (⟨"SundialTreatyModel", "inBreach", "(I)Z"⟩, 51) := ⟨⟨by decide +kernel, by decide +kernel⟩, List.mem_of_getElem? (i := 1200) (by decide +kernel), List.mem_of_getElem? (i := 1508) (by decide +kernel), List.mem_of_getElem? (i := 1509) (by decide +kernel)⟩
theorem lw_p106 : lw_okq (⟨"SundialTreatyModel", "hasDue", "(I)Z"⟩, 51) := ⟨⟨by decide +kernel, by decide +kernel⟩, List.mem_of_getElem? (i := 1200) (by decide +kernel), List.mem_of_getElem? (i := 1512) (by decide +kernel), List.mem_of_getElem? (i := 1513) (by decide +kernel)⟩
theorem lw_p107 : lw_okq (⟨"SundialTreatyModel", "dueOf", "(II)I"⟩, 51) := ⟨⟨by decide +kernel, by decide +kernel⟩, List.mem_of_getElem? (i := 1200) (by decide +kernel), List.mem_of_getElem? (i := 1516) (by decide +kernel), List.mem_of_getElem? (i := 1517) (by decide +kernel)⟩
theorem lw_p108 : lw_okq (⟨"SundialTreatyModel", "noonOf", "(I)I"⟩, 51) := ⟨⟨by decide +kernel, by decide +kernel⟩, List.mem_of_getElem? (i := 1200) (by decide +kernel), List.mem_of_getElem? (i := 1520) (by decide +kernel), List.mem_of_getElem? (i := 1521) (by decide +kernel)⟩
theorem lw_p109 : lw_okq (⟨"SundialTreatyModel", "isTrain", "(I)Z"⟩, 51) := ⟨⟨by decide +kernel, by decide +kernel⟩, List.mem_of_getElem? (i := 1200) (by decide +kernel), List.mem_of_getElem? (i := 1532) (by decide +kernel), List.mem_of_getElem? (i := 1533) (by decide +kernel)⟩
theorem lw_p110 : lw_okq (⟨"SundialTreatyModel", "leavesAt", "(I)I"⟩, 51) := ⟨⟨by decide +kernel, by decide +kernel⟩, List.mem_of_getElem? (i := 1200) (by decide +kernel), List.mem_of_getElem? (i := 1536) (by decide +kernel), List.mem_of_getElem? (i := 1537) (by decide +kernel)⟩
theorem lw_p111 : lw_okq (⟨"SundialTreatyModel", "comesAt", "(I)I"⟩, 51) := ⟨⟨by decide +kernel, by decide +kernel⟩, List.mem_of_getElem? (i := 1200) (by decide +kernel), List.mem_of_getElem? (i := 1540) (by decide +kernel), List.mem_of_getElem? (i := 1541) (by decide +kernel)⟩
def lw_privs_7 : List (MethodName × Nat) := [(⟨"SundialTreatyModel", "takesName", "(II)Z"⟩, 51), (⟨"SundialTreatyModel", "looksAt", "(II)Z"⟩, 51), (⟨"SundialTreatyModel", "readTrain", "()Z"⟩, 51), (⟨"SundialTreatyModel", "once", "(IIII)Z"⟩, 51), (⟨"SundialTreatyModel", "sign", "(I)Z"⟩, 51), (⟨"SundialTreatyModel", "isSign", "(I)Z"⟩, 51), (⟨"SundialTreatyModel", "isTown", "(I)Z"⟩, 51), (⟨"SundialTreatyModel", "throwsIf", "(Z)Z"⟩, 51), (⟨"SundialTreatyModel", "isShaded", "(I)Z"⟩, 51), (⟨"SundialTreatyModel", "inBreach", "(I)Z"⟩, 51), (⟨"SundialTreatyModel", "hasDue", "(I)Z"⟩, 51), (⟨"SundialTreatyModel", "dueOf", "(II)I"⟩, 51), (⟨"SundialTreatyModel", "noonOf", "(I)I"⟩, 51), (⟨"SundialTreatyModel", "isTrain", "(I)Z"⟩, 51), (⟨"SundialTreatyModel", "leavesAt", "(I)I"⟩, 51), (⟨"SundialTreatyModel", "comesAt", "(I)I"⟩, 51)]
theorem lw_r7 : ∀ q ∈ lw_privs_7, lw_okq q := List.forall_mem_cons.mpr ⟨lw_p96, List.forall_mem_cons.mpr ⟨lw_p97, List.forall_mem_cons.mpr ⟨lw_p98, List.forall_mem_cons.mpr ⟨lw_p99, List.forall_mem_cons.mpr ⟨lw_p100, List.forall_mem_cons.mpr ⟨lw_p101, List.forall_mem_cons.mpr ⟨lw_p102, List.forall_mem_cons.mpr ⟨lw_p103, List.forall_mem_cons.mpr ⟨lw_p104, List.forall_mem_cons.mpr ⟨lw_p105, List.forall_mem_cons.mpr ⟨lw_p106, List.forall_mem_cons.mpr ⟨lw_p107, List.forall_mem_cons.mpr ⟨lw_p108, List.forall_mem_cons.mpr ⟨lw_p109, List.forall_mem_cons.mpr ⟨lw_p110, List.forall_mem_cons.mpr ⟨lw_p111, fun _ h => absurd h List.not_mem_nil⟩⟩⟩⟩⟩⟩⟩⟩⟩⟩⟩⟩⟩⟩⟩⟩
theorem lw_p112 : lw_okq (⟨"SundialTreatyModel", "sumOf", "(I)I"⟩, 51) := ⟨⟨by decide +kernel, by decide +kernel⟩, List.mem_of_getElem? (i := 1200) (by decide +kernel), List.mem_of_getElem? (i := 1552) (by decide +kernel), List.mem_of_getElem? (i := 1553) (by decide +kernel)⟩
theorem lw_p113 : lw_okq (⟨"SundialTreatyModel", "breachSet", "()I"⟩, 51) := ⟨⟨by decide +kernel, by decide +kernel⟩, List.mem_of_getElem? (i := 1200) (by decide +kernel), List.mem_of_getElem? (i := 1556) (by decide +kernel), List.mem_of_getElem? (i := 1557) (by decide +kernel)⟩
theorem lw_p114 : lw_okq (⟨"SundialTreatyModel", "whyBend", "(II)I"⟩, 51) := ⟨⟨by decide +kernel, by decide +kernel⟩, List.mem_of_getElem? (i := 1200) (by decide +kernel), List.mem_of_getElem? (i := 1567) (by decide +kernel), List.mem_of_getElem? (i := 1568) (by decide +kernel)⟩
theorem lw_p115 : lw_okq (⟨"SundialTreatyModel", "keep", "()V"⟩, 51) := ⟨⟨by decide +kernel, by decide +kernel⟩, List.mem_of_getElem? (i := 1200) (by decide +kernel), List.mem_of_getElem? (i := 1571) (by decide +kernel), List.mem_of_getElem? (i := 1572) (by decide +kernel)⟩
theorem lw_p116 : lw_okq (⟨"SundialTreatyModel", "bends", "(II)V"⟩, 51) := ⟨⟨by decide +kernel, by decide +kernel⟩, List.mem_of_getElem? (i := 1200) (by decide +kernel), List.mem_of_getElem? (i := 1575) (by decide +kernel), List.mem_of_getElem? (i := 1576) (by decide +kernel)⟩
theorem lw_p117 : lw_okq (⟨"SundialTreatyModel", "freezes", "()I"⟩, 51) := ⟨⟨by decide +kernel, by decide +kernel⟩, List.mem_of_getElem? (i := 1200) (by decide +kernel), List.mem_of_getElem? (i := 1591) (by decide +kernel), List.mem_of_getElem? (i := 1592) (by decide +kernel)⟩
theorem lw_p118 : lw_okq (⟨"SundialTreatyModel", "goesOn", "(I)I"⟩, 51) := ⟨⟨by decide +kernel, by decide +kernel⟩, List.mem_of_getElem? (i := 1200) (by decide +kernel), List.mem_of_getElem? (i := 1599) (by decide +kernel), List.mem_of_getElem? (i := 1600) (by decide +kernel)⟩
theorem lw_p119 : lw_okq (⟨"SundialTreatyModel", "sorts", "(I)I"⟩, 51) := ⟨⟨by decide +kernel, by decide +kernel⟩, List.mem_of_getElem? (i := 1200) (by decide +kernel), List.mem_of_getElem? (i := 1611) (by decide +kernel), List.mem_of_getElem? (i := 1612) (by decide +kernel)⟩
theorem lw_p120 : lw_okq (⟨"SundialTreatyModel", "roomOf", "(IZ)I"⟩, 51) := ⟨⟨by decide +kernel, by decide +kernel⟩, List.mem_of_getElem? (i := 1200) (by decide +kernel), List.mem_of_getElem? (i := 1623) (by decide +kernel), List.mem_of_getElem? (i := 1624) (by decide +kernel)⟩
theorem lw_p121 : lw_okq (⟨"SundialTreatyModel", "tries", "()V"⟩, 51) := ⟨⟨by decide +kernel, by decide +kernel⟩, List.mem_of_getElem? (i := 1200) (by decide +kernel), List.mem_of_getElem? (i := 1638) (by decide +kernel), List.mem_of_getElem? (i := 1639) (by decide +kernel)⟩
theorem lw_p122 : lw_okq (⟨"SundialTreatyModel", "movesToDues", "()V"⟩, 51) := ⟨⟨by decide +kernel, by decide +kernel⟩, List.mem_of_getElem? (i := 1200) (by decide +kernel), List.mem_of_getElem? (i := 1642) (by decide +kernel), List.mem_of_getElem? (i := 1643) (by decide +kernel)⟩
theorem lw_p123 : lw_okq (⟨"SundialTreatyModel", "back", "()V"⟩, 51) := ⟨⟨by decide +kernel, by decide +kernel⟩, List.mem_of_getElem? (i := 1200) (by decide +kernel), List.mem_of_getElem? (i := 1649) (by decide +kernel), List.mem_of_getElem? (i := 1650) (by decide +kernel)⟩
theorem lw_p124 : lw_okq (⟨"SundialTreatyModel", "mayTake", "(III)Z"⟩, 51) := ⟨⟨by decide +kernel, by decide +kernel⟩, List.mem_of_getElem? (i := 1200) (by decide +kernel), List.mem_of_getElem? (i := 1666) (by decide +kernel), List.mem_of_getElem? (i := 1667) (by decide +kernel)⟩
theorem lw_p125 : lw_okq (⟨"SundialTreatyModel", "octet", "(I)I"⟩, 51) := ⟨⟨by decide +kernel, by decide +kernel⟩, List.mem_of_getElem? (i := 1200) (by decide +kernel), List.mem_of_getElem? (i := 1678) (by decide +kernel), List.mem_of_getElem? (i := 1679) (by decide +kernel)⟩
theorem lw_p126 : lw_okq (⟨"SundialTreatyModel", "comesNearer", "(I)Z"⟩, 51) := ⟨⟨by decide +kernel, by decide +kernel⟩, List.mem_of_getElem? (i := 1200) (by decide +kernel), List.mem_of_getElem? (i := 1690) (by decide +kernel), List.mem_of_getElem? (i := 1691) (by decide +kernel)⟩
theorem lw_p127 : lw_okq (⟨"SundialTreatyModel", "spells", "(J)V"⟩, 51) := ⟨⟨by decide +kernel, by decide +kernel⟩, List.mem_of_getElem? (i := 1200) (by decide +kernel), List.mem_of_getElem? (i := 1710) (by decide +kernel), List.mem_of_getElem? (i := 1711) (by decide +kernel)⟩
def lw_privs_8 : List (MethodName × Nat) := [(⟨"SundialTreatyModel", "sumOf", "(I)I"⟩, 51), (⟨"SundialTreatyModel", "breachSet", "()I"⟩, 51), (⟨"SundialTreatyModel", "whyBend", "(II)I"⟩, 51), (⟨"SundialTreatyModel", "keep", "()V"⟩, 51), (⟨"SundialTreatyModel", "bends", "(II)V"⟩, 51), (⟨"SundialTreatyModel", "freezes", "()I"⟩, 51), (⟨"SundialTreatyModel", "goesOn", "(I)I"⟩, 51), (⟨"SundialTreatyModel", "sorts", "(I)I"⟩, 51), (⟨"SundialTreatyModel", "roomOf", "(IZ)I"⟩, 51), (⟨"SundialTreatyModel", "tries", "()V"⟩, 51), (⟨"SundialTreatyModel", "movesToDues", "()V"⟩, 51), (⟨"SundialTreatyModel", "back", "()V"⟩, 51), (⟨"SundialTreatyModel", "mayTake", "(III)Z"⟩, 51), (⟨"SundialTreatyModel", "octet", "(I)I"⟩, 51), (⟨"SundialTreatyModel", "comesNearer", "(I)Z"⟩, 51), (⟨"SundialTreatyModel", "spells", "(J)V"⟩, 51)]
theorem lw_r8 : ∀ q ∈ lw_privs_8, lw_okq q := List.forall_mem_cons.mpr ⟨lw_p112, List.forall_mem_cons.mpr ⟨lw_p113, List.forall_mem_cons.mpr ⟨lw_p114, List.forall_mem_cons.mpr ⟨lw_p115, List.forall_mem_cons.mpr ⟨lw_p116, List.forall_mem_cons.mpr ⟨lw_p117, List.forall_mem_cons.mpr ⟨lw_p118, List.forall_mem_cons.mpr ⟨lw_p119, List.forall_mem_cons.mpr ⟨lw_p120, List.forall_mem_cons.mpr ⟨lw_p121, List.forall_mem_cons.mpr ⟨lw_p122, List.forall_mem_cons.mpr ⟨lw_p123, List.forall_mem_cons.mpr ⟨lw_p124, List.forall_mem_cons.mpr ⟨lw_p125, List.forall_mem_cons.mpr ⟨lw_p126, List.forall_mem_cons.mpr ⟨lw_p127, fun _ h => absurd h List.not_mem_nil⟩⟩⟩⟩⟩⟩⟩⟩⟩⟩⟩⟩⟩⟩⟩⟩
theorem lw_p128 : lw_okq (⟨"SundialTreatyModel", "lays", "(I)V"⟩, 51) := ⟨⟨by decide +kernel, by decide +kernel⟩, List.mem_of_getElem? (i := 1200) (by decide +kernel), List.mem_of_getElem? (i := 1715) (by decide +kernel), List.mem_of_getElem? (i := 1716) (by decide +kernel)⟩
theorem lw_p129 : lw_okq (⟨"SundialTreatyModel", "says", "(J)V"⟩, 51) := ⟨⟨by decide +kernel, by decide +kernel⟩, List.mem_of_getElem? (i := 1200) (by decide +kernel), List.mem_of_getElem? (i := 1720) (by decide +kernel), List.mem_of_getElem? (i := 1721) (by decide +kernel)⟩
theorem lw_p130 : lw_okq (⟨"SundialTreatyModel", "draws", "(II)I"⟩, 51) := ⟨⟨by decide +kernel, by decide +kernel⟩, List.mem_of_getElem? (i := 1200) (by decide +kernel), List.mem_of_getElem? (i := 1734) (by decide +kernel), List.mem_of_getElem? (i := 1735) (by decide +kernel)⟩
theorem lw_p131 : lw_okq (⟨"SundialTreatyModel", "draw", "(I)I"⟩, 51) := ⟨⟨by decide +kernel, by decide +kernel⟩, List.mem_of_getElem? (i := 1200) (by decide +kernel), List.mem_of_getElem? (i := 1738) (by decide +kernel), List.mem_of_getElem? (i := 1739) (by decide +kernel)⟩
theorem lw_p132 : lw_okq (⟨"SundialTreatyModel", "bookLine", "()Z"⟩, 51) := ⟨⟨by decide +kernel, by decide +kernel⟩, List.mem_of_getElem? (i := 1200) (by decide +kernel), List.mem_of_getElem? (i := 1751) (by decide +kernel), List.mem_of_getElem? (i := 1752) (by decide +kernel)⟩
theorem lw_p133 : lw_okq (⟨"SundialTreatyModel", "does", "(III)I"⟩, 51) := ⟨⟨by decide +kernel, by decide +kernel⟩, List.mem_of_getElem? (i := 1200) (by decide +kernel), List.mem_of_getElem? (i := 1755) (by decide +kernel), List.mem_of_getElem? (i := 1756) (by decide +kernel)⟩
theorem lw_p134 : lw_okq (⟨"SundialTreatyModel", "nots", "()V"⟩, 51) := ⟨⟨by decide +kernel, by decide +kernel⟩, List.mem_of_getElem? (i := 1200) (by decide +kernel), List.mem_of_getElem? (i := 1767) (by decide +kernel), List.mem_of_getElem? (i := 1768) (by decide +kernel)⟩
theorem lw_p135 : lw_okq (⟨"SundialTreatyModel", "code", "(III)V"⟩, 51) := ⟨⟨by decide +kernel, by decide +kernel⟩, List.mem_of_getElem? (i := 1200) (by decide +kernel), List.mem_of_getElem? (i := 1771) (by decide +kernel), List.mem_of_getElem? (i := 1772) (by decide +kernel)⟩
theorem lw_p136 : lw_okq (⟨"SundialTreatyModel", "joins", "(I)V"⟩, 51) := ⟨⟨by decide +kernel, by decide +kernel⟩, List.mem_of_getElem? (i := 1200) (by decide +kernel), List.mem_of_getElem? (i := 1775) (by decide +kernel), List.mem_of_getElem? (i := 1776) (by decide +kernel)⟩
theorem lw_p137 : lw_okq (⟨"SundialTreatyModel", "behind", "()Z"⟩, 51) := ⟨⟨by decide +kernel, by decide +kernel⟩, List.mem_of_getElem? (i := 1200) (by decide +kernel), List.mem_of_getElem? (i := 1779) (by decide +kernel), List.mem_of_getElem? (i := 1780) (by decide +kernel)⟩
theorem lw_p138 : lw_okq (⟨"SundialTreatyModel", "operand", "()Z"⟩, 51) := ⟨⟨by decide +kernel, by decide +kernel⟩, List.mem_of_getElem? (i := 1200) (by decide +kernel), List.mem_of_getElem? (i := 1783) (by decide +kernel), List.mem_of_getElem? (i := 1784) (by decide +kernel)⟩
theorem lw_p139 : lw_okq (⟨"SundialTreatyModel", "leafOf", "()I"⟩, 51) := ⟨⟨by decide +kernel, by decide +kernel⟩, List.mem_of_getElem? (i := 1200) (by decide +kernel), List.mem_of_getElem? (i := 1787) (by decide +kernel), List.mem_of_getElem? (i := 1788) (by decide +kernel)⟩
theorem lw_p140 : lw_okq (⟨"SundialTreatyModel", "isSaid", "(I)Z"⟩, 51) := ⟨⟨by decide +kernel, by decide +kernel⟩, List.mem_of_getElem? (i := 1200) (by decide +kernel), List.mem_of_getElem? (i := 1795) (by decide +kernel), List.mem_of_getElem? (i := 1796) (by decide +kernel)⟩
theorem lw_p141 : lw_okq (⟨"SundialTreatyModel", "isLeaf", "(IIII)Z"⟩, 51) := ⟨⟨by decide +kernel, by decide +kernel⟩, List.mem_of_getElem? (i := 1200) (by decide +kernel), List.mem_of_getElem? (i := 1799) (by decide +kernel), List.mem_of_getElem? (i := 1800) (by decide +kernel)⟩
def lw_privs_9 : List (MethodName × Nat) := [(⟨"SundialTreatyModel", "lays", "(I)V"⟩, 51), (⟨"SundialTreatyModel", "says", "(J)V"⟩, 51), (⟨"SundialTreatyModel", "draws", "(II)I"⟩, 51), (⟨"SundialTreatyModel", "draw", "(I)I"⟩, 51), (⟨"SundialTreatyModel", "bookLine", "()Z"⟩, 51), (⟨"SundialTreatyModel", "does", "(III)I"⟩, 51), (⟨"SundialTreatyModel", "nots", "()V"⟩, 51), (⟨"SundialTreatyModel", "code", "(III)V"⟩, 51), (⟨"SundialTreatyModel", "joins", "(I)V"⟩, 51), (⟨"SundialTreatyModel", "behind", "()Z"⟩, 51), (⟨"SundialTreatyModel", "operand", "()Z"⟩, 51), (⟨"SundialTreatyModel", "leafOf", "()I"⟩, 51), (⟨"SundialTreatyModel", "isSaid", "(I)Z"⟩, 51), (⟨"SundialTreatyModel", "isLeaf", "(IIII)Z"⟩, 51)]
theorem lw_r9 : ∀ q ∈ lw_privs_9, lw_okq q := List.forall_mem_cons.mpr ⟨lw_p128, List.forall_mem_cons.mpr ⟨lw_p129, List.forall_mem_cons.mpr ⟨lw_p130, List.forall_mem_cons.mpr ⟨lw_p131, List.forall_mem_cons.mpr ⟨lw_p132, List.forall_mem_cons.mpr ⟨lw_p133, List.forall_mem_cons.mpr ⟨lw_p134, List.forall_mem_cons.mpr ⟨lw_p135, List.forall_mem_cons.mpr ⟨lw_p136, List.forall_mem_cons.mpr ⟨lw_p137, List.forall_mem_cons.mpr ⟨lw_p138, List.forall_mem_cons.mpr ⟨lw_p139, List.forall_mem_cons.mpr ⟨lw_p140, List.forall_mem_cons.mpr ⟨lw_p141, fun _ h => absurd h List.not_mem_nil⟩⟩⟩⟩⟩⟩⟩⟩⟩⟩⟩⟩⟩⟩
def lw_privs : List (MethodName × Nat) := lw_privs_1 ++ (lw_privs_2 ++ (lw_privs_3 ++ (lw_privs_4 ++ (lw_privs_5 ++ (lw_privs_6 ++ (lw_privs_7 ++ (lw_privs_8 ++ (lw_privs_9))))))))
def lw_tbl : List Cond := k2_sels lw_privs ++ tables_1
theorem lw_privs_ok : ∀ q ∈ lw_privs, lw_okq q := by
  show ∀ q ∈ lw_privs_1 ++ (lw_privs_2 ++ (lw_privs_3 ++ (lw_privs_4 ++ (lw_privs_5 ++ (lw_privs_6 ++ (lw_privs_7 ++ (lw_privs_8 ++ (lw_privs_9)))))))), lw_okq q
  exact List.forall_mem_append.mpr ⟨lw_r1, List.forall_mem_append.mpr ⟨lw_r2, List.forall_mem_append.mpr ⟨lw_r3, List.forall_mem_append.mpr ⟨lw_r4, List.forall_mem_append.mpr ⟨lw_r5, List.forall_mem_append.mpr ⟨lw_r6, List.forall_mem_append.mpr ⟨lw_r7, List.forall_mem_append.mpr ⟨lw_r8, lw_r9⟩⟩⟩⟩⟩⟩⟩⟩
-- ===== end of PART A; then your names; then what follows =====
end
section
/-! ===== BEGIN words of one list among another's, by their places ===== -/
theorem goodIn_r {big : List Cond} (ws : List Cond) (ps : List Nat) (hp : ws = ps.filterMap (fun i => big[i]?)) (h : ws.all goodWord = true) : GoodIn big ws := by
  intro w hw
  have h1 := List.all_eq_true.mp h w hw
  rw [hp] at hw
  obtain ⟨i, -, hi⟩ := List.mem_filterMap.mp hw
  have hm : w ∈ big := by first | exact List.mem_of_getElem? hi | exact List.getElem?_mem hi
  exact ⟨hm, good_of_word h1⟩
theorem goodIn_app {big a b : List Cond} (ha : GoodIn big a) (hb : GoodIn big b) : GoodIn big (a ++ b) := fun w h => (List.mem_append.mp h).elim (ha w) (hb w)
theorem goodIn_ca {big a b : List Cond} {c : Cond} (ha : GoodIn big (c :: a)) (hb : GoodIn big b) : GoodIn big (c :: (a ++ b)) := fun w h => (List.mem_cons.mp h).elim (fun e => ha w (List.mem_cons.mpr (Or.inl e))) (fun h => (List.mem_append.mp h).elim (fun h => ha w (List.mem_cons.mpr (Or.inr h))) (hb w))
theorem goodIn_sub {big ws : List Cond} (hm : ∀ w ∈ ws, w ∈ big) (h : ws.all goodWord = true) : GoodIn big ws := fun w hw => ⟨hm w hw, good_of_word (List.all_eq_true.mp h w hw)⟩
/-! ===== END ===== -/

/-! ===== BEGIN exceptions that leave a method, and their catching by the caller (launches without stack traces) ===== -/
section VXA
/-! The laws vx_back, vx_callV, vx_callS, vx_callSW, vx_throw0, vx_throwS follow proofs of the library, with one case more: JvmDerived/Free/Laws.lean (Back.of_free), Shelf42/LK1.lean (callV, callS), Shelf/KitTraced.lean (throwNew0V, throwNewS). -/
/-- where a method has thrown q: the class by its name, the cell, what was written, the world -/
def vx_T (XC : String → State → State → Prop) (st : State) (q : Addr) (t : State) (mc ms : Nat) (free : Addr → Prop) : Prop :=
  ∃ (E : String) (ce : Cell) (L : List Loc), XC E st t ∧ t.heap[q]? = some ce ∧ ce.vm = .none ∧ st.vm.findClass E = some ce.cls ∧ st.WarmedH t.vm ∧ st.sameButNew ({ t with vm := st.vm } : State) L mc ms ∧ ∀ z ∈ L, free z.base
def vx_Q (Qc : Array Value → State → Outcome → State → Prop) (XC : String → State → State → Prop) (mc ms : Nat) (free : Addr → Prop) : Array Value → State → Outcome → State → Prop := fun a st o t =>
  (Qc a st o t ∧ ∃ L, FrameEnd st o t L mc ms ∧ ∀ q ∈ L, free q.base) ∨ ∃ q, o = .threw q ∧ vx_T XC st q t mc ms free
/-- a callee that returns or throws -/
def vx_Met (l : Launch) (y : MethodName) (ws : List Cond) (rm : Room) (Pc : Array Value → State → Prop) (Qc : Array Value → State → Outcome → State → Prop) (XC : String → State → State → Prop) (mc ms : Nat) (free : Addr → Prop) : Prop :=
  MetFree l y (headSpec ws rm) Pc (fun _ _ _ _ _ => True) (vx_Q Qc XC mc ms free)
def vx_Post (XC : String → State → State → Prop) (mc ms : Nat) (free : Addr → Prop) : Pt → Array Value → Addr → Pt → Prop := fun A a q B =>
  ∃ (g : JFrame) (mk : MethodId) (t : State) (L : List Loc) (E : String) (ce : Cell), B.U.heap = t.heap ∧ B.U.vm = t.vm ∧ XC E (A.U.calling g mk a) t ∧ t.heap[q]? = some ce ∧ ce.vm = .none ∧ A.U.vm.findClass E = some ce.cls ∧ B.locs = A.locs ++ L ∧ (∀ z ∈ L, free z.base) ∧ B.cells = A.cells + mc ∧ B.slots = A.slots + ms
def vx_Back (l : Launch) (R : Room) (p : Program) (e : Env) (below : List Frame) (s : State) (sargs : Array Value) (y : MethodName) (len W9 : Nat)
    (Pre : Pt → Array Value → Prop) (Post : Pt → Array Value → Option Value → Pt → Prop) (PostX : Pt → Array Value → Addr → Pt → Prop) : Prop :=
  ∀ (m : MethodId) (meth : Method) (c : Code) (A : Pt) (g : JFrame) (ig : Instr) (mk : MethodId) (a : Array Value),
    Stand p l e R s m sargs below meth c A.U A.locs A.cells A.slots → g.method = m → g.locals.size = c.maxLocals → decode c.code g.pc = .ok (ig, len) →
    2 * g.monitorRoom + (g.stack.map fun v => v.category).sum ≤ W9 → A.U.methodNamed? y = some mk → Pre A a →
    (∃ (v : Option Value) (B : Pt), Stand p l e R s m sargs below meth c B.U B.locs B.cells B.slots ∧ Post A a v B ∧
      Steps p.tables e below (doInvoke e (A.U.setTop g) [] mk a).1 (B.U.setTop { g with pc := g.pc + len, stack := v.toList ++ g.stack })) ∨
    (∃ (q : Addr) (B : Pt), Stand p l e R s m sargs below meth c B.U B.locs B.cells B.slots ∧ PostX A a q B ∧
      Steps p.tables e below (doInvoke e (A.U.setTop g) [] mk a).1 ((B.U.setTop g).pushFrame (.throwing q)))
section Payer
variable {l : Launch} {R : Room} {p : Program} {e : Env} {below : List Frame} {s : State} {sargs : Array Value} {y : MethodName} {len W9 : Nat}
theorem vx_back {ws : List Cond} {rm : Room} {Pc : Array Value → State → Prop} {Qc : Array Value → State → Outcome → State → Prop} {XC : String → State → State → Prop} {mc ms : Nat} {free : Addr → Prop} {bytes : ByteArray} {maxL : Nat} {ret : Option FieldType}
    (hM : vx_Met l y ws rm Pc Qc XC mc ms free) (hblind : FrameBlind Pc) (hrc : rm.cells = mc) (hrs : rm.slots = ms)
    (hframes : rm.frames + 1 ≤ R.frames) (hlocals : W9 + (maxL + 11) + rm.locals ≤ R.locals)
    (hws : ∀ w ∈ ws, ∀ a' U, s.WarmedH U.vm → w.before a' U = true) (hcode : Cond.code y bytes maxL ret ∈ ws) (hinit : ∀ a' U, s.WarmedH U.vm → (Cond.initialized y.cls).before a' U = true) :
    vx_Back l R p e below s sargs y len W9 (PreOf R mc ms Pc) (PostOf Qc mc ms free) (vx_Post XC mc ms free) := by
  intro m meth c A g ig mk a X hg hsize hdg hW hn hp
  have h1 : (headSpec ws rm).pre.before a A.U = true := atoms_intro fun w hw => hws w hw _ _ X.warmed
  have h2 : (Cond.code y bytes maxL ret).before a A.U = true := hws _ hcode _ _ X.warmed
  have h3 : (Cond.initialized y.cls).before a A.U = true := hinit _ _ X.warmed
  have h4 : A.cells + (headSpec ws rm).room.cells ≤ R.cells := by rw [show (headSpec ws rm).room.cells = mc from hrc]; exact hp.1
  have h5 : A.slots + (headSpec ws rm).room.slots ≤ R.slots := by rw [show (headSpec ws rm).room.slots = ms from hrs]; exact hp.2.1
  have hPc : Pc a (A.U.calling g mk a) := hblind _ _ _ _ hp.2.2
  obtain ⟨U, Ls, c0, s0⟩ := A
  dsimp only [Pt.U, Pt.locs, Pt.cells, Pt.slots] at h1 h2 h3 h4 h5 X hn hPc ⊢
  obtain ⟨methY, cY, hmY, hcY, -, hlY, -, -, -, -⟩ := Cond.code_spec hn h2
  obtain ⟨kY, hkY, -⟩ := className_of_methodNamed hn
  have hinitY : kY.init = .initialized := Cond.initialized_spec (findClass_of_methodNamed hn) hkY h3
  have h : At U g.method c below := by rw [hg]; exact X.here
  have hlocals9 : W9 + (maxL + 11) + (headSpec ws rm).room.locals ≤ R.locals := hlocals
  have happ : (headSpec ws rm).appliesLoose y e.platform (U.calling g mk a) = true :=
    Spec.appliesLoose_calling (g := g) h hdg hn hkY hinitY
      (X.room_calling (g := g) (R' := (headSpec ws rm).room) hsize hmY hcY hframes (by rw [hlY]; omega) h4 h5) h1
  obtain ⟨mid, hmid⟩ := h.above
  have hfr : (U.setTop g).frames = (.java g :: mid) ++ below := by rw [State.frames_setTop' g h.top, hmid]; rfl
  obtain ⟨o, s₂, hsteps, -, hend, hq⟩ := Steps.callFree hM p X.admits X.cas X.clock (acts := []) hfr happ hPc trivial
  have hq' : vx_Q Qc XC mc ms free a (U.calling g mk a) o s₂ := hq
  rw [State.frames_setTop' g h.top] at hend
  obtain ⟨g₀, hg0⟩ := Option.isSome_iff_exists.mp h.top
  obtain ⟨r, hr⟩ := State.topJava?_eq_some.mp hg0
  have hr' : (({ U with heap := s₂.heap, slotsUsed := s₂.slotsUsed } : State).setVm s₂.vm).frames = .java g₀ :: r := hr
  rcases hq' with ⟨hqc, L, hfe, hL⟩ | ⟨q, rfl, E, ce, L, hx, hce, hcv, hcl, hW₂, hsm, hL⟩
  · obtain ⟨⟨v, rfl⟩, hW₂, e2, q2, q3, q4, q5, q6⟩ := id hfe
    have e3 : s₂ = ({ (U.calling g mk a).setFrames s₂.frames with heap := s₂.heap, slotsUsed := s₂.slotsUsed } : State).setVm s₂.vm := by
      have : s₂ = ({ s₂ with vm := (U.calling g mk a).vm } : State).setVm s₂.vm := rfl
      rw [e2] at this
      exact this
    obtain ⟨c₂, i₂, len₂, hc₂, hd₂, hf₂⟩ := hend
    have hW' : U.WarmedH s₂.vm := hW₂
    have hcc : c₂ = c := by
      have h1 : s₂.code? g.method = U.code? g.method := by
        rw [State.code?_eq, State.code?_eq, hW'.alike.method?]
      exact Option.some.inj (hc₂.symm.trans (h1.trans h.code))
    subst hcc
    have hlen : len₂ = len := by rw [hdg] at hd₂; cases hd₂; rfl
    subst hlen
    have hs₂ : s₂ = (({ U with heap := s₂.heap, slotsUsed := s₂.slotsUsed } : State).setVm s₂.vm).setTop { g with pc := g.pc + len₂, stack := v.toList ++ g.stack } := by
      refine e3.trans ?_
      rw [hf₂, State.calling_eq h.top, State.setFrames_setFrames, State.setTop_of_frames _ hr', hr]
      rfl
    have hsame : U.sameButNew ({ U with heap := s₂.heap, slotsUsed := s₂.slotsUsed } : State) L mc ms := by
      refine ⟨?_, q2, q3, q4, q5, q6⟩
      obtain ⟨t, ht, -⟩ := State.frames_cons hr
      show ({ U with heap := s₂.heap, slotsUsed := s₂.slotsUsed } : State) = { U.setFrames U.frames with heap := s₂.heap, slotsUsed := s₂.slotsUsed }
      rw [State.setFrames_self ht]
    subst hg
    refine Or.inl ⟨v, ⟨(({ U with heap := s₂.heap, slotsUsed := s₂.slotsUsed } : State).setVm s₂.vm), Ls ++ L, c0 + mc, s0 + ms⟩,
      ⟨X.admits, X.cas, X.clock, X.frames, X.room, X.hears, X.method, X.code, (X.here.setHeapUsed s₂.heap s₂.slotsUsed).setVm hW'.alike, X.tail, State.WarmedH.trans X.warmed hW', X.limits, X.bytes, X.same.trans (hsame.setVm s.vm)⟩,
      ⟨g, mk, s₂, L, rfl, rfl, hqc, rfl, hL, rfl, rfl⟩, ?_⟩
    show Steps p.tables e below _ ((({ U with heap := s₂.heap, slotsUsed := s₂.slotsUsed } : State).setVm s₂.vm).setTop { g with pc := g.pc + len₂, stack := v.toList ++ g.stack })
    rw [← hs₂]
    exact hsteps
  · obtain ⟨e2, q2, q3, q4, q5, q6⟩ := id hsm
    have e3 : s₂ = ({ (U.calling g mk a).setFrames s₂.frames with heap := s₂.heap, slotsUsed := s₂.slotsUsed } : State).setVm s₂.vm := by
      have : s₂ = ({ s₂ with vm := (U.calling g mk a).vm } : State).setVm s₂.vm := rfl
      rw [e2] at this
      exact this
    have hf₂ : s₂.frames = .throwing q :: .java g :: U.frames.tail := hend
    have hW' : U.WarmedH s₂.vm := hW₂
    have hs₂ : s₂ = ((({ U with heap := s₂.heap, slotsUsed := s₂.slotsUsed } : State).setVm s₂.vm).setTop g).pushFrame (.throwing q) := by
      refine e3.trans ?_
      rw [hf₂, State.calling_eq h.top, State.setFrames_setFrames, State.pushFrame, State.frames_setTop _ hr', State.setTop_of_frames _ hr', State.setFrames_setFrames, hr]
      rfl
    have hsame : U.sameButNew ({ U with heap := s₂.heap, slotsUsed := s₂.slotsUsed } : State) L mc ms := by
      refine ⟨?_, q2, q3, q4, q5, q6⟩
      obtain ⟨t, ht, -⟩ := State.frames_cons hr
      show ({ U with heap := s₂.heap, slotsUsed := s₂.slotsUsed } : State) = { U.setFrames U.frames with heap := s₂.heap, slotsUsed := s₂.slotsUsed }
      rw [State.setFrames_self ht]
    subst hg
    refine Or.inr ⟨q, ⟨(({ U with heap := s₂.heap, slotsUsed := s₂.slotsUsed } : State).setVm s₂.vm), Ls ++ L, c0 + mc, s0 + ms⟩,
      ⟨X.admits, X.cas, X.clock, X.frames, X.room, X.hears, X.method, X.code, (X.here.setHeapUsed s₂.heap s₂.slotsUsed).setVm hW'.alike, X.tail, State.WarmedH.trans X.warmed hW', X.limits, X.bytes, X.same.trans (hsame.setVm s.vm)⟩,
      ⟨g, mk, s₂, L, E, ce, rfl, rfl, hx, hce, hcv, hcl, rfl, hL, rfl, rfl⟩, ?_⟩
    show Steps p.tables e below _ (((({ U with heap := s₂.heap, slotsUsed := s₂.slotsUsed } : State).setVm s₂.vm).setTop g).pushFrame (.throwing q))
    rw [← hs₂]
    exact hsteps
end Payer
section Calls
variable {p : Program} {l : Launch} {e : Env} {R : Room} {s : State} {m : MethodId} {args : Array Value} {below : List Frame} {meth : Method} {c : Code} {T : State} {locs : List Loc} {cells slots : Nat}
theorem vx_callV (X : Stand p l e R s m args below meth c T locs cells slots) (hexec : p.tables.exec = Jvm.exec) {own C : String} {index : Nat} {y : MethodName} {bytes : ByteArray} {maxL : Nat} {ret : Option FieldType}
    (hown : s.vm.findClass own = some m.cls) (hlink : (Cond.methodLink own index y).before args s = true) (hinst : (Cond.instanceMethod y).before args s = true) (hsel : (Cond.selects C y y).before args s = true)
    (hcode : (Cond.code y bytes maxL ret).before args s = true) (hy : y.cls ≠ "java/lang/invoke/MethodHandle" ∧ y.cls ≠ "java/lang/invoke/VarHandle")
    {W9 : Nat} {Pre : Pt → Array Value → Prop} {Post : Pt → Array Value → Option Value → Pt → Prop} {PostX : Pt → Array Value → Addr → Pt → Prop} (hK : vx_Back l R p e below s args y 3 W9 Pre Post PostX)
    {b : Addr} {cellB : Cell} (hcell : T.heap[b]? = some cellB) (hobj : cellB.vm.isStatics = false) (hcls : s.vm.findClass C = some cellB.cls)
    {g : JFrame} (hg : g.method = m) (hsize : g.locals.size = c.maxLocals) {argsL rest : List Value} (hlen : ∀ sig, parseMethodDescriptor y.desc = some sig → argsL.length = sig.parameters.length)
    (hstack : g.stack = argsL.reverse ++ .ref b :: rest) (hW : 2 * g.monitorRoom + (rest.map fun v => v.category).sum ≤ W9) (hdg : decode c.code g.pc = .ok (.invokevirtual index, 3))
    (hpre : ∀ vm₁, s.WarmedH vm₁ → Pre ⟨T.setVm vm₁, locs, cells, slots⟩ (Value.ref b :: argsL).toArray) :
    (∃ (v : Option Value) (vm₁ : Vm) (B : Pt), s.WarmedH vm₁ ∧ Stand p l e R s m args below meth c B.U B.locs B.cells B.slots ∧ Post ⟨T.setVm vm₁, locs, cells, slots⟩ (Value.ref b :: argsL).toArray v B ∧
      ∀ target, Steps p.tables e below (B.U.setTop { g with pc := g.pc + 3, stack := v.toList ++ rest }) target → Steps p.tables e below (T.setTop g) target) ∨
    (∃ (q : Addr) (vm₁ : Vm) (B : Pt), s.WarmedH vm₁ ∧ Stand p l e R s m args below meth c B.U B.locs B.cells B.slots ∧ PostX ⟨T.setVm vm₁, locs, cells, slots⟩ (Value.ref b :: argsL).toArray q B ∧
      Steps p.tables e below (T.setTop g) ((B.U.setTop { g with stack := rest }).pushFrame (.throwing q))) := by
  obtain ⟨mk, methM, hnamed, hmethM, hstM, habM⟩ := Cond.instanceMethod_spec hinst
  obtain ⟨methM', cM, hmethM', -, -, -, -, -, -, hsigM⟩ := Cond.code_spec hnamed hcode
  cases hmethM.symm.trans hmethM'
  obtain ⟨c2, r2, m2, q1, q2, q3, q4, kP, hkP, hkPi⟩ := Cond.selects_spec hsel
  cases hcls.symm.trans q1
  cases (State.methodFound?_of_named hnamed hy).symm.trans q2
  cases hnamed.symm.trans q3
  have hselP : selectMethod e.platform s.vm cellB.cls mk = .method mk := by rw [Launch.admits_selectMethod X.admits]; exact q4
  obtain ⟨vm₁, X₁, hstep₁⟩ := X.invokevirtual hexec hown hlink hnamed hmethM hstM hkP hkPi hy (a := b) (cell := cellB) hcell
    (fun z h => by rw [h] at hobj; cases hobj) hselP hmethM habM hkP hkPi (g := g) hg (argsL := argsL) (rest := rest) (hlen _ hsigM) hstack hdg
  rcases hK m meth c ⟨T.setVm vm₁, locs, cells, slots⟩ { g with stack := rest } (.invokevirtual index) mk (Value.ref b :: argsL).toArray X₁ hg hsize hdg hW (X₁.named hnamed) (hpre vm₁ X₁.warmed) with ⟨v, B, X', hpost, hsteps⟩ | ⟨q, B, X', hpost, hsteps⟩
  · exact Or.inl ⟨v, vm₁, B, X₁.warmed, X', hpost, fun target h => hstep₁ _ fun acts => by rw [doInvoke_state]; exact hsteps.trans h⟩
  · exact Or.inr ⟨q, vm₁, B, X₁.warmed, X', hpost, hstep₁ _ fun acts => by rw [doInvoke_state]; exact hsteps⟩
theorem vx_callS (X : Stand p l e R s m args below meth c T locs cells slots) (hexec : p.tables.exec = Jvm.exec) {own : String} {index : Nat} {y : MethodName} {bytes : ByteArray} {maxL : Nat} {ret : Option FieldType}
    (hown : s.vm.findClass own = some m.cls) (hlink : (Cond.methodLink own index y).before args s = true) (hstat : (Cond.static y).before args s = true) (hinit : (Cond.initialized y.cls).before args s = true)
    (hcode : (Cond.code y bytes maxL ret).before args s = true) (hy : y.cls ≠ "java/lang/invoke/MethodHandle" ∧ y.cls ≠ "java/lang/invoke/VarHandle")
    {W9 : Nat} {Pre : Pt → Array Value → Prop} {Post : Pt → Array Value → Option Value → Pt → Prop} {PostX : Pt → Array Value → Addr → Pt → Prop} (hK : vx_Back l R p e below s args y 3 W9 Pre Post PostX)
    {g : JFrame} (hg : g.method = m) (hsize : g.locals.size = c.maxLocals) {argsL rest : List Value} (hlen : ∀ sig, parseMethodDescriptor y.desc = some sig → argsL.length = sig.parameters.length)
    (hstack : g.stack = argsL.reverse ++ rest) (hW : 2 * g.monitorRoom + (rest.map fun v => v.category).sum ≤ W9) (hdg : decode c.code g.pc = .ok (.invokestatic index, 3))
    (hpre : ∀ vm₁, s.WarmedH vm₁ → Pre ⟨T.setVm vm₁, locs, cells, slots⟩ argsL.toArray) :
    (∃ (v : Option Value) (vm₁ : Vm) (B : Pt), s.WarmedH vm₁ ∧ Stand p l e R s m args below meth c B.U B.locs B.cells B.slots ∧ Post ⟨T.setVm vm₁, locs, cells, slots⟩ argsL.toArray v B ∧
      ∀ target, Steps p.tables e below (B.U.setTop { g with pc := g.pc + 3, stack := v.toList ++ rest }) target → Steps p.tables e below (T.setTop g) target) ∨
    (∃ (q : Addr) (vm₁ : Vm) (B : Pt), s.WarmedH vm₁ ∧ Stand p l e R s m args below meth c B.U B.locs B.cells B.slots ∧ PostX ⟨T.setVm vm₁, locs, cells, slots⟩ argsL.toArray q B ∧
      Steps p.tables e below (T.setTop g) ((B.U.setTop { g with stack := rest }).pushFrame (.throwing q))) := by
  obtain ⟨mk, hnamed⟩ := Cond.code_named hcode
  obtain ⟨methM, cM, hmethM, -, -, -, -, -, -, hsigM⟩ := Cond.code_spec hnamed hcode
  have hstatic : methM.isStatic = true := Cond.static_spec hnamed hmethM hstat
  obtain ⟨kP, hkP, -⟩ := className_of_methodNamed hnamed
  have hinitP : kP.init = .initialized := Cond.initialized_spec (findClass_of_methodNamed hnamed) hkP hinit
  obtain ⟨vm₁, X₁, hstep₁⟩ := X.invokestatic hexec hown hlink hnamed hmethM hstatic hkP hinitP hy (g := g) hg (argsL := argsL) (rest := rest) (hlen _ hsigM) hstack hdg
  rcases hK m meth c ⟨T.setVm vm₁, locs, cells, slots⟩ { g with stack := rest } (.invokestatic index) mk argsL.toArray X₁ hg hsize hdg hW (X₁.named hnamed) (hpre vm₁ X₁.warmed) with ⟨v, B, X', hpost, hsteps⟩ | ⟨q, B, X', hpost, hsteps⟩
  · exact Or.inl ⟨v, vm₁, B, X₁.warmed, X', hpost, fun target h => hstep₁ _ fun acts => by rw [doInvoke_state]; exact hsteps.trans h⟩
  · exact Or.inr ⟨q, vm₁, B, X₁.warmed, X', hpost, hstep₁ _ fun acts => by rw [doInvoke_state]; exact hsteps⟩
end Calls
theorem vx_cls {s : State} {T : State} {vm₁ : Vm} {E : String} {k : ClassId} (hW : s.WarmedH vm₁) (h : (T.setVm vm₁).vm.findClass E = some k) : s.vm.findClass E = some k := by
  have h1 : vm₁.findClass E = some k := h
  rw [hW.alike.findClass] at h1
  exact h1
/-- the method's frame g, with q thrown over it -/
def vx_W (p : Program) (l : Launch) (e : Env) (R : Room) (s : State) (m : MethodId) (args : Array Value) (below : List Frame) (meth : Method) (c : Code) (H : Heap) (locs : List Loc) (cells slots : Nat) (Q : State → Prop) (g : JFrame) (q : Addr) : Prop :=
  ∀ T : State, T.heap = H → Stand p l e R s m args below meth c T locs cells slots → ∃ t, Steps p.tables e below ((T.setTop g).pushFrame (.throwing q)) t ∧ Q t
def vx_Run (p : Program) (l : Launch) (e : Env) (R : Room) (s : State) (m : MethodId) (args : Array Value) (below : List Frame) (meth : Method) (c : Code) (H : Heap) (locs : List Loc) (cells slots mc ms : Nat) (g : JFrame) (rest : List Value) (Qa : State → Outcome → State → Prop) (XC : String → State → State → Prop) (free : Addr → Prop) : Prop :=
  ∀ T : State, T.heap = H → Stand p l e R s m args below meth c T locs cells slots →
    (∃ (v : Option Value) (st₀ t T' : State) (L : List Loc), st₀.heap = H ∧ Stand p l e R s m args below meth c T' (locs ++ L) (cells + mc) (slots + ms) ∧ (∀ q ∈ L, free q.base) ∧ T'.heap = t.heap ∧ T'.vm = t.vm ∧ Qa st₀ (.returned v) t ∧
      Goes p e below T g T' { g with pc := g.pc + 3, stack := v.toList ++ rest }) ∨
    (∃ (q : Addr) (st₀ t T' : State) (L : List Loc) (E : String) (ce : Cell), st₀.heap = H ∧ Stand p l e R s m args below meth c T' (locs ++ L) (cells + mc) (slots + ms) ∧ (∀ z ∈ L, free z.base) ∧ T'.heap = t.heap ∧ T'.vm = t.vm ∧ XC E st₀ t ∧ t.heap[q]? = some ce ∧ ce.vm = .none ∧ s.vm.findClass E = some ce.cls ∧
      Steps p.tables e below (T.setTop g) ((T'.setTop { g with stack := rest }).pushFrame (.throwing q)))
def vx_X {S : Type} (px : S → Prop) (B : String → S → State → Prop) (A : Nat → Prop) : String → State → State → Prop := fun E st t => ∃ u : S, px u ∧ B E u t ∧ va_F A st t
section Runs
variable {p : Program} {l : Launch} {e : Env} {R : Room} {s : State} {m : MethodId} {args : Array Value} {below : List Frame} {meth : Method} {c : Code} {H : Heap} {locs : List Loc} {cells slots : Nat}
variable {y : MethodName} {bytes cc : ByteArray} {maxL nL mc ms n index : Nat} {ret : Option FieldType} {ws : List Cond} {rm : Room} {Pc : Array Value → State → Prop} {Qc : Array Value → State → Outcome → State → Prop} {XC : String → State → State → Prop} {free : Addr → Prop} {Ts : List Cond} {own C : String} {b : Addr} {As rest : List Value} {g : JFrame}
theorem vx_callBack (cb : CallB R s args own index y bytes maxL ret ws rm mc ms n) (hM : vx_Met l y ws rm Pc Qc XC mc ms free) (hbl : FrameBlind Pc) : vx_Back l R p e below s args y 3 8 (PreOf R mc ms Pc) (PostOf Qc mc ms free) (vx_Post XC mc ms free) := by
  obtain ⟨hrc, hrs, hfr, hlo, hws, hcw, -, hini, -⟩ := cb
  exact vx_back (bytes := bytes) (maxL := maxL) (ret := ret) hM hbl hrc hrs hfr hlo hws hcw (fun a' U hW => word_at hW (Or.inl (by first | rfl | simp [Cond.onTables, Cond.keeps, Cond.steady])) hini)
theorem vx_runV (S : CallFix p m c cc nL s args Ts own) (hM : vx_Met l y ws rm Pc Qc XC mc ms free) (cw : CallW R s args own C index y bytes maxL ret ws rm mc ms n) (hp : PreV s H C b Pc As)
    (hg : g.method = m) (hn : As.length = n) (hsize : g.locals.size = nL) (hstack : g.stack = As.reverse ++ .ref b :: rest) (hW : 2 * g.monitorRoom + (rest.map fun v => v.category).sum ≤ 8) (hdg : decode cc g.pc = .ok (.invokevirtual index, 3)) (hf : cells + mc ≤ R.cells ∧ slots + ms ≤ R.slots) :
    vx_Run p l e R s m args below meth c H locs cells slots mc ms g rest (Qc (Value.ref b :: As).toArray) XC free := by
  have hK : vx_Back l R p e below s args y 3 8 (PreOf R mc ms Pc) (PostOf Qc mc ms free) (vx_Post XC mc ms free) := vx_callBack cw.1 hM hp.1
  obtain ⟨⟨-, -, -, -, -, -, hcode, -, hy, hlen, hl⟩, hin, hse⟩ := cw
  obtain ⟨hx, hb, hml, ho, -⟩ := S
  obtain ⟨-, ⟨cellB, hcB, hoB, hclB⟩, hPc⟩ := hp
  intro T hT X
  rcases vx_callV X hx (C := C) (bytes := bytes) (maxL := maxL) (ret := ret) ho hl hin hse hcode hy hK (by rw [hT]; exact hcB) hoB hclB hg (hsize.trans hml.symm) (argsL := As) (rest := rest) (fun sig h => hn.trans (hlen sig h)) hstack hW (by rw [hb]; exact hdg)
    (fun vm₁ hW₁ => ⟨hf.1, hf.2, hPc (T.setVm vm₁) hT hW₁⟩) with ⟨v, vm₁, ⟨U', l2, c2, s2⟩, hW₁, X', ⟨g', mk, t, L, e1, e2, hq, h1, hL, h2, h3⟩, st⟩ | ⟨q, vm₁, ⟨U', l2, c2, s2⟩, hW₁, X', ⟨g', mk, t, L, E, ce, e1, e2, hq, hce, hcv, hcl, h1, hL, h2, h3⟩, st⟩
  · dsimp only [Pt.U, Pt.locs, Pt.cells, Pt.slots] at X' e1 e2 h1 h2 h3 st
    subst h1; subst h2; subst h3
    exact Or.inl ⟨v, (T.setVm vm₁).calling g' mk (Value.ref b :: As).toArray, t, U', L, hT, X', hL, e1, e2, hq, st⟩
  · dsimp only [Pt.U, Pt.locs, Pt.cells, Pt.slots] at X' e1 e2 h1 h2 h3 st hcl
    subst h1; subst h2; subst h3
    exact Or.inr ⟨q, (T.setVm vm₁).calling g' mk (Value.ref b :: As).toArray, t, U', L, E, ce, hT, X', hL, e1, e2, hq, hce, hcv, vx_cls hW₁ hcl, st⟩
theorem vx_runS (S : CallFix p m c cc nL s args Ts own) (hM : vx_Met l y ws rm Pc Qc XC mc ms free) (cw : CallB R s args own index y bytes maxL ret ws rm mc ms n ∧ (Cond.static y).before args s = true) (hp : PreS s H Pc As)
    (hg : g.method = m) (hn : As.length = n) (hsize : g.locals.size = nL) (hstack : g.stack = As.reverse ++ rest) (hW : 2 * g.monitorRoom + (rest.map fun v => v.category).sum ≤ 8) (hdg : decode cc g.pc = .ok (.invokestatic index, 3)) (hf : cells + mc ≤ R.cells ∧ slots + ms ≤ R.slots) :
    vx_Run p l e R s m args below meth c H locs cells slots mc ms g rest (Qc As.toArray) XC free := by
  have hK : vx_Back l R p e below s args y 3 8 (PreOf R mc ms Pc) (PostOf Qc mc ms free) (vx_Post XC mc ms free) := vx_callBack cw.1 hM hp.1
  obtain ⟨⟨-, -, -, -, -, -, hcode, hini, hy, hlen, hl⟩, hstt⟩ := cw
  obtain ⟨hx, hb, hml, ho, -⟩ := S
  intro T hT X
  rcases vx_callS X hx (bytes := bytes) (maxL := maxL) (ret := ret) ho hl hstt hini hcode hy hK hg (hsize.trans hml.symm) (argsL := As) (rest := rest) (fun sig h => hn.trans (hlen sig h)) hstack hW (by rw [hb]; exact hdg)
    (fun vm₁ hW₁ => ⟨hf.1, hf.2, hp.2 (T.setVm vm₁) hT hW₁⟩) with ⟨v, vm₁, ⟨U', l2, c2, s2⟩, hW₁, X', ⟨g', mk, t, L, e1, e2, hq, h1, hL, h2, h3⟩, st⟩ | ⟨q, vm₁, ⟨U', l2, c2, s2⟩, hW₁, X', ⟨g', mk, t, L, E, ce, e1, e2, hq, hce, hcv, hcl, h1, hL, h2, h3⟩, st⟩
  · dsimp only [Pt.U, Pt.locs, Pt.cells, Pt.slots] at X' e1 e2 h1 h2 h3 st
    subst h1; subst h2; subst h3
    exact Or.inl ⟨v, (T.setVm vm₁).calling g' mk As.toArray, t, U', L, hT, X', hL, e1, e2, hq, st⟩
  · dsimp only [Pt.U, Pt.locs, Pt.cells, Pt.slots] at X' e1 e2 h1 h2 h3 st hcl
    subst h1; subst h2; subst h3
    exact Or.inr ⟨q, (T.setVm vm₁).calling g' mk As.toArray, t, U', L, E, ce, hT, X', hL, e1, e2, hq, hce, hcv, vx_cls hW₁ hcl, st⟩
end Runs
section Rows
variable {p : Program} {l : Launch} {e : Env} {R : Room} {s : State} {m : MethodId} {args : Array Value} {below : List Frame} {meth : Method} {c : Code} {H : Heap} {locs : List Loc} {cells slots : Nat} {Q : State → Prop}
variable {mc ms : Nat} {free : Addr → Prop} {A0 A1 : Nat → Prop} {H0 : Heap} {a : Array Value} {pc : Nat} {ls : Array Slot} {st0 rest : List Value}
theorem vx_keep {st₀ t T' : State} {L : List Loc} (h0 : st₀.heap = H) (e1 : T'.heap = t.heap) (hS : va_S A0 H0 H locs) (hA : ∀ q, q < H.size → A1 q → A0 q) (hf : ∀ q, free q → A0 q) (hL : ∀ q ∈ L, free q.base) (hF : va_F A1 st₀ t) :
    H.size ≤ T'.heap.size ∧ (∀ q : Nat, q < H.size → ¬ A1 q → T'.heap[q]? = H[q]?) ∧ va_S A0 H0 T'.heap (locs ++ L) := by
  obtain ⟨hz, hk⟩ := hF
  rw [h0] at hz hk
  exact ⟨by rw [e1]; exact hz, fun q h1 h2 => by rw [e1]; exact hk q h1 h2,
    ⟨Nat.le_trans hS.1 (by rw [e1]; exact hz), fun q h1 h2 => by rw [e1, hk q (Nat.lt_of_lt_of_le h1 hS.1) (fun z => h2 (hA q (Nat.lt_of_lt_of_le h1 hS.1) z))]; exact hS.2.1 q h1 h2, fun q hq => by
      rcases List.mem_append.mp hq with h | h
      · exact hS.2.2 q h
      · exact hf _ (hL q h)⟩⟩
theorem vx_calli {S SX : Type} {post : Int32 → S → Prop} {px : SX → Prop} {B : S → State → Prop} {BX : String → SX → State → Prop} {AX : Nat → Prop} (hr : vx_Run p l e R s m args below meth c H locs cells slots mc ms (F0 m pc ls st0) rest (va_Qi post B A1 a) (vx_X px BX AX) free) (hS : va_S A0 H0 H locs) (hA : ∀ q, q < H.size → A1 q → A0 q) (hf : ∀ q, free q → A0 q) (hAX : ∀ q, q < H.size → AX q → A0 q)
    (kx : ∀ (E : String) (ce : Cell) (q9 : Addr) (u : SX) (t : State) (H1 : Heap) (locs1 : List Loc), t.heap = H1 → s.vm.Alike t.vm → px u → BX E u t → H.size ≤ H1.size → (∀ q : Nat, q < H.size → ¬ AX q → H1[q]? = H[q]?) → va_S A0 H0 H1 locs1 → H1[q9]? = some ce → ce.vm = .none → s.vm.findClass E = some ce.cls → vx_W p l e R s m args below meth c H1 locs1 (cells + mc) (slots + ms) Q (F0 m pc ls rest) q9)
    (kk : ∀ (r : Int32) (u : S) (t : State) (H1 : Heap) (locs1 : List Loc), t.heap = H1 → s.vm.Alike t.vm → post r u → B u t → H.size ≤ H1.size → (∀ q : Nat, q < H.size → ¬ A1 q → H1[q]? = H[q]?) → va_S A0 H0 H1 locs1 → W p l e R s m args below meth c H1 locs1 (cells + mc) (slots + ms) Q (F0 m (pc + 3) ls (.int r :: rest))) : W p l e R s m args below meth c H locs cells slots Q (F0 m pc ls st0) := by
  intro T hT X
  rcases hr T hT X with ⟨v, st₀, t, T', L, h0, X', hL, e1, e2, ⟨⟨r, u, hv, hp, hb⟩, hF⟩, st⟩ | ⟨q, st₀, t, T', L, E, ce, h0, X', hL, e1, e2, ⟨u, hp, hb, hF⟩, hce, hcv, hcl, st⟩
  · cases hv
    obtain ⟨k1, k2, k3⟩ := vx_keep h0 e1 hS hA hf hL hF
    obtain ⟨t2, a1, b1⟩ := kk r u t T'.heap (locs ++ L) e1.symm (by rw [← e2]; exact X'.warmed.alike) hp hb k1 k2 k3 T' rfl X'
    exact ⟨t2, st t2 a1, b1⟩
  · obtain ⟨k1, k2, k3⟩ := vx_keep h0 e1 hS hAX hf hL hF
    obtain ⟨t2, a1, b1⟩ := kx E ce q u t T'.heap (locs ++ L) e1.symm (by rw [← e2]; exact X'.warmed.alike) hp hb k1 k2 k3 (by rw [e1]; exact hce) hcv hcl T' rfl X'
    exact ⟨t2, st.trans a1, b1⟩
theorem vx_calll {S SX : Type} {post : Int64 → S → Prop} {px : SX → Prop} {B : S → State → Prop} {BX : String → SX → State → Prop} {AX : Nat → Prop} (hr : vx_Run p l e R s m args below meth c H locs cells slots mc ms (F0 m pc ls st0) rest (va_Ql post B A1 a) (vx_X px BX AX) free) (hS : va_S A0 H0 H locs) (hA : ∀ q, q < H.size → A1 q → A0 q) (hf : ∀ q, free q → A0 q) (hAX : ∀ q, q < H.size → AX q → A0 q)
    (kx : ∀ (E : String) (ce : Cell) (q9 : Addr) (u : SX) (t : State) (H1 : Heap) (locs1 : List Loc), t.heap = H1 → s.vm.Alike t.vm → px u → BX E u t → H.size ≤ H1.size → (∀ q : Nat, q < H.size → ¬ AX q → H1[q]? = H[q]?) → va_S A0 H0 H1 locs1 → H1[q9]? = some ce → ce.vm = .none → s.vm.findClass E = some ce.cls → vx_W p l e R s m args below meth c H1 locs1 (cells + mc) (slots + ms) Q (F0 m pc ls rest) q9)
    (kk : ∀ (r : Int64) (u : S) (t : State) (H1 : Heap) (locs1 : List Loc), t.heap = H1 → s.vm.Alike t.vm → post r u → B u t → H.size ≤ H1.size → (∀ q : Nat, q < H.size → ¬ A1 q → H1[q]? = H[q]?) → va_S A0 H0 H1 locs1 → W p l e R s m args below meth c H1 locs1 (cells + mc) (slots + ms) Q (F0 m (pc + 3) ls (.long r :: rest))) : W p l e R s m args below meth c H locs cells slots Q (F0 m pc ls st0) := by
  intro T hT X
  rcases hr T hT X with ⟨v, st₀, t, T', L, h0, X', hL, e1, e2, ⟨⟨r, u, hv, hp, hb⟩, hF⟩, st⟩ | ⟨q, st₀, t, T', L, E, ce, h0, X', hL, e1, e2, ⟨u, hp, hb, hF⟩, hce, hcv, hcl, st⟩
  · cases hv
    obtain ⟨k1, k2, k3⟩ := vx_keep h0 e1 hS hA hf hL hF
    obtain ⟨t2, a1, b1⟩ := kk r u t T'.heap (locs ++ L) e1.symm (by rw [← e2]; exact X'.warmed.alike) hp hb k1 k2 k3 T' rfl X'
    exact ⟨t2, st t2 a1, b1⟩
  · obtain ⟨k1, k2, k3⟩ := vx_keep h0 e1 hS hAX hf hL hF
    obtain ⟨t2, a1, b1⟩ := kx E ce q u t T'.heap (locs ++ L) e1.symm (by rw [← e2]; exact X'.warmed.alike) hp hb k1 k2 k3 (by rw [e1]; exact hce) hcv hcl T' rfl X'
    exact ⟨t2, st.trans a1, b1⟩
theorem vx_callf {S SX : Type} {post : UInt32 → S → Prop} {px : SX → Prop} {B : S → State → Prop} {BX : String → SX → State → Prop} {AX : Nat → Prop} (hr : vx_Run p l e R s m args below meth c H locs cells slots mc ms (F0 m pc ls st0) rest (va_Qf post B A1 a) (vx_X px BX AX) free) (hS : va_S A0 H0 H locs) (hA : ∀ q, q < H.size → A1 q → A0 q) (hf : ∀ q, free q → A0 q) (hAX : ∀ q, q < H.size → AX q → A0 q)
    (kx : ∀ (E : String) (ce : Cell) (q9 : Addr) (u : SX) (t : State) (H1 : Heap) (locs1 : List Loc), t.heap = H1 → s.vm.Alike t.vm → px u → BX E u t → H.size ≤ H1.size → (∀ q : Nat, q < H.size → ¬ AX q → H1[q]? = H[q]?) → va_S A0 H0 H1 locs1 → H1[q9]? = some ce → ce.vm = .none → s.vm.findClass E = some ce.cls → vx_W p l e R s m args below meth c H1 locs1 (cells + mc) (slots + ms) Q (F0 m pc ls rest) q9)
    (kk : ∀ (r : UInt32) (u : S) (t : State) (H1 : Heap) (locs1 : List Loc), t.heap = H1 → s.vm.Alike t.vm → post r u → B u t → H.size ≤ H1.size → (∀ q : Nat, q < H.size → ¬ A1 q → H1[q]? = H[q]?) → va_S A0 H0 H1 locs1 → W p l e R s m args below meth c H1 locs1 (cells + mc) (slots + ms) Q (F0 m (pc + 3) ls (.float r :: rest))) : W p l e R s m args below meth c H locs cells slots Q (F0 m pc ls st0) := by
  intro T hT X
  rcases hr T hT X with ⟨v, st₀, t, T', L, h0, X', hL, e1, e2, ⟨⟨r, u, hv, hp, hb⟩, hF⟩, st⟩ | ⟨q, st₀, t, T', L, E, ce, h0, X', hL, e1, e2, ⟨u, hp, hb, hF⟩, hce, hcv, hcl, st⟩
  · cases hv
    obtain ⟨k1, k2, k3⟩ := vx_keep h0 e1 hS hA hf hL hF
    obtain ⟨t2, a1, b1⟩ := kk r u t T'.heap (locs ++ L) e1.symm (by rw [← e2]; exact X'.warmed.alike) hp hb k1 k2 k3 T' rfl X'
    exact ⟨t2, st t2 a1, b1⟩
  · obtain ⟨k1, k2, k3⟩ := vx_keep h0 e1 hS hAX hf hL hF
    obtain ⟨t2, a1, b1⟩ := kx E ce q u t T'.heap (locs ++ L) e1.symm (by rw [← e2]; exact X'.warmed.alike) hp hb k1 k2 k3 (by rw [e1]; exact hce) hcv hcl T' rfl X'
    exact ⟨t2, st.trans a1, b1⟩
theorem vx_calld {S SX : Type} {post : UInt64 → S → Prop} {px : SX → Prop} {B : S → State → Prop} {BX : String → SX → State → Prop} {AX : Nat → Prop} (hr : vx_Run p l e R s m args below meth c H locs cells slots mc ms (F0 m pc ls st0) rest (va_Qd post B A1 a) (vx_X px BX AX) free) (hS : va_S A0 H0 H locs) (hA : ∀ q, q < H.size → A1 q → A0 q) (hf : ∀ q, free q → A0 q) (hAX : ∀ q, q < H.size → AX q → A0 q)
    (kx : ∀ (E : String) (ce : Cell) (q9 : Addr) (u : SX) (t : State) (H1 : Heap) (locs1 : List Loc), t.heap = H1 → s.vm.Alike t.vm → px u → BX E u t → H.size ≤ H1.size → (∀ q : Nat, q < H.size → ¬ AX q → H1[q]? = H[q]?) → va_S A0 H0 H1 locs1 → H1[q9]? = some ce → ce.vm = .none → s.vm.findClass E = some ce.cls → vx_W p l e R s m args below meth c H1 locs1 (cells + mc) (slots + ms) Q (F0 m pc ls rest) q9)
    (kk : ∀ (r : UInt64) (u : S) (t : State) (H1 : Heap) (locs1 : List Loc), t.heap = H1 → s.vm.Alike t.vm → post r u → B u t → H.size ≤ H1.size → (∀ q : Nat, q < H.size → ¬ A1 q → H1[q]? = H[q]?) → va_S A0 H0 H1 locs1 → W p l e R s m args below meth c H1 locs1 (cells + mc) (slots + ms) Q (F0 m (pc + 3) ls (.double r :: rest))) : W p l e R s m args below meth c H locs cells slots Q (F0 m pc ls st0) := by
  intro T hT X
  rcases hr T hT X with ⟨v, st₀, t, T', L, h0, X', hL, e1, e2, ⟨⟨r, u, hv, hp, hb⟩, hF⟩, st⟩ | ⟨q, st₀, t, T', L, E, ce, h0, X', hL, e1, e2, ⟨u, hp, hb, hF⟩, hce, hcv, hcl, st⟩
  · cases hv
    obtain ⟨k1, k2, k3⟩ := vx_keep h0 e1 hS hA hf hL hF
    obtain ⟨t2, a1, b1⟩ := kk r u t T'.heap (locs ++ L) e1.symm (by rw [← e2]; exact X'.warmed.alike) hp hb k1 k2 k3 T' rfl X'
    exact ⟨t2, st t2 a1, b1⟩
  · obtain ⟨k1, k2, k3⟩ := vx_keep h0 e1 hS hAX hf hL hF
    obtain ⟨t2, a1, b1⟩ := kx E ce q u t T'.heap (locs ++ L) e1.symm (by rw [← e2]; exact X'.warmed.alike) hp hb k1 k2 k3 (by rw [e1]; exact hce) hcv hcl T' rfl X'
    exact ⟨t2, st.trans a1, b1⟩
theorem vx_callv {S SX : Type} {post : S → Prop} {px : SX → Prop} {B : S → State → Prop} {BX : String → SX → State → Prop} {AX : Nat → Prop} (hr : vx_Run p l e R s m args below meth c H locs cells slots mc ms (F0 m pc ls st0) rest (va_Qv post B A1 a) (vx_X px BX AX) free) (hS : va_S A0 H0 H locs) (hA : ∀ q, q < H.size → A1 q → A0 q) (hf : ∀ q, free q → A0 q) (hAX : ∀ q, q < H.size → AX q → A0 q)
    (kx : ∀ (E : String) (ce : Cell) (q9 : Addr) (u : SX) (t : State) (H1 : Heap) (locs1 : List Loc), t.heap = H1 → s.vm.Alike t.vm → px u → BX E u t → H.size ≤ H1.size → (∀ q : Nat, q < H.size → ¬ AX q → H1[q]? = H[q]?) → va_S A0 H0 H1 locs1 → H1[q9]? = some ce → ce.vm = .none → s.vm.findClass E = some ce.cls → vx_W p l e R s m args below meth c H1 locs1 (cells + mc) (slots + ms) Q (F0 m pc ls rest) q9)
    (kk : ∀ (u : S) (t : State) (H1 : Heap) (locs1 : List Loc), t.heap = H1 → s.vm.Alike t.vm → post u → B u t → H.size ≤ H1.size → (∀ q : Nat, q < H.size → ¬ A1 q → H1[q]? = H[q]?) → va_S A0 H0 H1 locs1 → W p l e R s m args below meth c H1 locs1 (cells + mc) (slots + ms) Q (F0 m (pc + 3) ls (rest))) : W p l e R s m args below meth c H locs cells slots Q (F0 m pc ls st0) := by
  intro T hT X
  rcases hr T hT X with ⟨v, st₀, t, T', L, h0, X', hL, e1, e2, ⟨⟨u, hv, hp, hb⟩, hF⟩, st⟩ | ⟨q, st₀, t, T', L, E, ce, h0, X', hL, e1, e2, ⟨u, hp, hb, hF⟩, hce, hcv, hcl, st⟩
  · cases hv
    obtain ⟨k1, k2, k3⟩ := vx_keep h0 e1 hS hA hf hL hF
    obtain ⟨t2, a1, b1⟩ := kk u t T'.heap (locs ++ L) e1.symm (by rw [← e2]; exact X'.warmed.alike) hp hb k1 k2 k3 T' rfl X'
    exact ⟨t2, st t2 a1, b1⟩
  · obtain ⟨k1, k2, k3⟩ := vx_keep h0 e1 hS hAX hf hL hF
    obtain ⟨t2, a1, b1⟩ := kx E ce q u t T'.heap (locs ++ L) e1.symm (by rw [← e2]; exact X'.warmed.alike) hp hb k1 k2 k3 (by rw [e1]; exact hce) hcv hcl T' rfl X'
    exact ⟨t2, st.trans a1, b1⟩
/-- caught by the row x of this method's table; the rows ahead don't take it -/
theorem vx_catch {own name : String} {E : String} {ce : Cell} {q : Addr} (hown : s.vm.findClass own = some m.cls) (pre : List ExceptionTableEntry) (x : ExceptionTableEntry) (suf : List ExceptionTableEntry) (hsplit : c.exceptionTable.toList = pre ++ x :: suf)
    (hpass : ∀ z ∈ pre, covers z pc = false ∨ (z.catchType ≠ 0 ∧ ∃ nm : String, (Cond.classLink own z.catchType nm).before args s = true ∧ va_Nc E nm s)) (hx : covers x pc = true) (h0 : x.catchType ≠ 0)
    (hlink : (Cond.classLink own x.catchType name).before args s = true) (hcast : (Cond.castable E name).before args s = true) (hcell : H[q]? = some ce) (hv : ce.vm = .none) (hcl : s.vm.findClass E = some ce.cls)
    (kk : W p l e R s m args below meth c H locs cells slots Q (F0 m x.handlerPc ls [.ref q])) : vx_W p l e R s m args below meth c H locs cells slots Q (F0 m pc ls rest) q := by
  intro T hT X
  have hpl : e.platform.magicAccessors = ({} : Platform).magicAccessors := by rw [X.admits.platform]
  obtain ⟨c3, c4, hc3, hc4, hasg⟩ := Cond.castable_spec hcast
  cases Option.some.inj (hc3.symm.trans hcl)
  obtain ⟨c5, hc5, hcl5⟩ := Cond.classLink_spec hown hlink e.platform hpl
  cases Option.some.inj (hc4.symm.trans hc5)
  obtain ⟨vm', X', st⟩ := Stand.thenCaughtThrough X q (g := F0 m pc ls rest) rfl (Steps.refl _) (by rw [hT]; exact hcell) (by rw [hv]; rfl) (by obtain ⟨k9, h9, -⟩ := Vm.findClass_spec hcl; exact ⟨k9, h9⟩) pre x suf hsplit
    (fun z hz => by
      rcases hpass z hz with h | ⟨hz0, nm, hl1, hn1⟩
      · exact Or.inl h
      · obtain ⟨c6, hc6, hcl6⟩ := Cond.classLink_spec hown hl1 e.platform hpl
        obtain ⟨a8, b8, h1, h2, h3⟩ := hn1
        cases Option.some.inj (h1.symm.trans hcl)
        cases Option.some.inj (h2.symm.trans hc6)
        exact Or.inr ⟨hz0, _, hcl6, h3⟩) hx (Or.inr ⟨h0, c4, hcl5, hasg⟩)
  obtain ⟨t, a1, b1⟩ := kk (T.setVm vm') hT X'
  exact ⟨t, st.trans a1, b1⟩
end Rows
section Ends
variable {p : Program} {l : Launch} {e : Env} {R : Room} {s : State} {m : MethodId} {args : Array Value} {below : List Frame} {meth : Method} {c : Code} {H : Heap} {locs : List Loc} {cells slots : Nat} {Q : State → Prop}
variable {mc ms : Nat} {free : Addr → Prop} {A0 A1 : Nat → Prop} {H0 : Heap} {a : Array Value} {ls : Array Slot} {st0 rest : List Value}
variable {Qc : Array Value → State → Outcome → State → Prop} {XC : String → State → State → Prop}
/-- what a body that may throw owes at its end -/
def vx_MQ (below : List Frame) (Qc : Array Value → State → Outcome → State → Prop) (XC : String → State → State → Prop) (a : Array Value) (s : State) (mc ms : Nat) (free : Addr → Prop) : State → Prop := fun t =>
  ∃ o, t.status = .running ∧ Ended t below o ∧ vx_Q Qc XC mc ms free a s o t
theorem vx_ret {g : JFrame} {mc ms : Nat} (k : W p l e R s m args below meth c H locs cells slots (MQ below Qc args s mc ms free) g) : W p l e R s m args below meth c H locs cells slots (vx_MQ below Qc XC args s mc ms free) g := by
  intro T hT X
  obtain ⟨t, a1, o, b1, b2, b3, b4⟩ := k T hT X
  exact ⟨t, a1, o, b1, b2, Or.inl ⟨b3, b4⟩⟩
/-- not caught here: it goes on to the caller -/
theorem vx_widen {g : JFrame} {q : Addr} {k n : Nat} (h1 : cells ≤ k) (h2 : slots ≤ n) (kk : vx_W p l e R s m args below meth c H locs k n Q g q) : vx_W p l e R s m args below meth c H locs cells slots Q g q := fun T hT X => kk T hT (stand_widen X h1 h2)
theorem vx_out {pc : Nat} {E : String} {ce : Cell} {q : Addr} {mc ms : Nat} (hout : ∀ x ∈ c.exceptionTable.toList, covers x pc = false) (hlocks : meth.locks = false) (hcell : H[q]? = some ce) (hv : ce.vm = .none) (hcl : s.vm.findClass E = some ce.cls)
    (hx : ∀ t : State, t.heap = H → s.vm.Alike t.vm → XC E s t) (hf : ∀ z ∈ locs, free z.base) (hc : cells ≤ mc) (hs : slots ≤ ms) :
    vx_W p l e R s m args below meth c H locs cells slots (vx_MQ below Qc XC args s mc ms free) (F0 m pc ls rest) q := by
  intro T hT X
  obtain ⟨st1, hrun, hend, hW, hsm⟩ := X.leaveThrown q (g := F0 m pc ls rest) rfl rfl rfl hout hlocks
  have hcell9 : (T.setFrames (.throwing q :: below)).heap[q]? = some ce := by
    show T.heap[q]? = some ce
    rw [hT]; exact hcell
  exact ⟨_, st1, .threw q, hrun, hend, Or.inr ⟨q, rfl, E, ce, locs, hx _ hT hW.alike, hcell9, hv, hcl, hW, hsm.mono hc hs, hf⟩⟩
theorem vx_frame {U : State} {k n : Nat} (h : s.sameButNew ({ U with vm := s.vm } : State) locs k n) : s.heap.size ≤ U.heap.size ∧ ∀ q : Nat, q < s.heap.size → (∀ z ∈ locs, z.base ≠ q) → U.heap[q]? = s.heap[q]? := by
  obtain ⟨-, h2, -, -, -, h6⟩ := h
  refine ⟨h2, fun q hq hz => ?_⟩
  obtain ⟨c9, e1, e2, e3, e4⟩ := h6 q _ (Array.getElem?_eq_getElem hq)
  have hs : c9.slots = (s.heap[q]).slots := Array.ext_getElem? fun i => e4 i fun hm => hz _ hm rfl
  have h9 : c9 = s.heap[q] := by
    rw [hs] at e2
    exact e2
  have e5 : U.heap[q]? = some c9 := e1
  rw [e5, h9, Array.getElem?_eq_getElem hq]
/-- the words of a throw but the four that speak of the heap -/
def vx_no (w : Cond) : Bool := decide (w ≠ .isRef (.static Bundle.tN "UNASSIGNED_STACK" Bundle.steD)) && decide (w ≠ .isRef (.static Bundle.tN "SUPPRESSED_SENTINEL" Bundle.listD)) && decide (w ≠ .laysStatic Bundle.tN "UNASSIGNED_STACK" Bundle.steD) && decide (w ≠ .laysStatic Bundle.tN "SUPPRESSED_SENTINEL" Bundle.listD)
def vx_at0 (own : String) (ic : Nat) (X : String) (names : List String) : List Cond := (Bundle.ownAtoms0 own ic X names).filter vx_no
def vx_atS (own : String) (ic : Nat) (X : String) (names : List String) : List Cond := (Bundle.ownAtoms own ic X names).filter vx_no
/-- a word that the tables alone decide, or a good one -/
def vx_ot (w : Cond) : Bool := w.onTables || goodWord w
theorem vx_ot_at {args a' : Array Value} {s U : State} {w : Cond} (hW : s.WarmedH U.vm) (hvm : s.vm = U.vm) (hg : vx_ot w = true) (h : w.before args s = true) : w.before a' U = true := by
  simp only [vx_ot, Bool.or_eq_true] at hg
  rcases hg with hg | hg
  · exact va_tabs hg hvm h
  · exact word_at hW (good_of_word hg) h
/-- a list's words: the good ones out of the method's own list, the others by premises of their own -/
theorem vx_hat {args : Array Value} {s : State} {L B : List Cond} (h1 : ∀ w ∈ L.filter goodWord, w.before args s = true) (h2 : ∀ w ∈ L.filter (fun w => !goodWord w), w ∈ B) (h3 : ∀ w ∈ B, w.before args s = true) : ∀ w ∈ L, w.before args s = true := by
  intro w hw
  by_cases g : goodWord w = true
  · exact h1 w (List.mem_filter.mpr ⟨hw, g⟩)
  · refine h3 w (h2 w (List.mem_filter.mpr ⟨hw, ?_⟩))
    show (!goodWord w) = true
    cases hgw : goodWord w
    · rfl
    · exact absurd hgw g
theorem vx_c {args : Array Value} {s : State} {w : Cond} {B : List Cond} (h : w.before args s = true) (t : ∀ w ∈ B, w.before args s = true) : ∀ w' ∈ w :: B, w'.before args s = true := fun w' h' => (List.mem_cons.mp h').elim (fun e => by rw [e]; exact h) (t w')
theorem vx_n {args : Array Value} {s : State} : ∀ w ∈ ([] : List Cond), w.before args s = true := fun _ h => nomatch h
theorem vx_own {args : Array Value} {s : State} {L : List Cond} (h1 : ∀ w ∈ L.filter vx_no, w.before args s = true)
    (hU : (Cond.isRef (.static Bundle.tN "UNASSIGNED_STACK" Bundle.steD)).before args s = true) (hN : (Cond.isRef (.static Bundle.tN "SUPPRESSED_SENTINEL" Bundle.listD)).before args s = true)
    (lU : (Cond.laysStatic Bundle.tN "UNASSIGNED_STACK" Bundle.steD).before args s = true) (lN : (Cond.laysStatic Bundle.tN "SUPPRESSED_SENTINEL" Bundle.listD).before args s = true) : ∀ w ∈ L, w.before args s = true := by
  intro w hw
  by_cases e1 : w = .isRef (.static Bundle.tN "UNASSIGNED_STACK" Bundle.steD)
  · rw [e1]; exact hU
  · by_cases e2 : w = .isRef (.static Bundle.tN "SUPPRESSED_SENTINEL" Bundle.listD)
    · rw [e2]; exact hN
    · by_cases e3 : w = .laysStatic Bundle.tN "UNASSIGNED_STACK" Bundle.steD
      · rw [e3]; exact lU
      · by_cases e4 : w = .laysStatic Bundle.tN "SUPPRESSED_SENTINEL" Bundle.listD
        · rw [e4]; exact lN
        · exact h1 w (List.mem_filter.mpr ⟨hw, by unfold vx_no; rw [decide_eq_true e1, decide_eq_true e2, decide_eq_true e3, decide_eq_true e4]; rfl⟩)
/-- where a static field lies, its class's statics cell in H -/
def vx_L (C n d : String) (A : Nat → Prop) (U : State) (H : Heap) : Prop := ∃ (c : ClassId) (k : Class) (i : Nat) (f : Field) (a : Nat) (cell : Cell), U.vm.findClass C = some c ∧ U.fieldFound? C n d = some (c, k, i, f) ∧ f.isStatic = true ∧ k.statics = some a ∧ H[a]? = some cell ∧ cell.vm.isStatics = true ∧ cell.cls = c ∧ f.slot < cell.slots.size ∧ k.staticTypes[f.slot]? = some f.type ∧ ¬ A a
theorem vx_L.moved {C n d : String} {A : Nat → Prop} {u U : State} {H : Heap} (hvm : u.vm.Alike U.vm) (h : vx_L C n d A u H) : vx_L C n d A U H := by
  obtain ⟨c, k, i, f, a, cell, h1, h2, h3, h4, h5, h6, h7, h8, h9, h10⟩ := h
  obtain ⟨k', hi', he⟩ := State.fieldFound?_setVm hvm h2
  exact ⟨c, k', i, f, a, cell, by rw [hvm.findClass]; exact h1, hi', h3, by rw [he]; exact h4, h5, h6, h7, h8, by rw [he]; exact h9, h10⟩
theorem vx_L.kept {C n d : String} {A : Nat → Prop} {U : State} {H H1 : Heap} (h : vx_L C n d A U H) (hq : ∀ a : Nat, a < H.size → ¬ A a → H1[a]? = H[a]?) : vx_L C n d A U H1 := by
  obtain ⟨c, k, i, f, a, cell, h1, h2, h3, h4, h5, h6, h7, h8, h9, h10⟩ := h
  exact ⟨c, k, i, f, a, cell, h1, h2, h3, h4, by rw [hq a (Array.getElem?_eq_some_iff.mp h5).1 h10]; exact h5, h6, h7, h8, h9, h10⟩
theorem vx_L.narrow {C n d : String} {A B : Nat → Prop} {U : State} {H : Heap} (h : vx_L C n d A U H) (hAB : ∀ q, B q → A q) : vx_L C n d B U H := by
  obtain ⟨c, k, i, f, a, cell, h1, h2, h3, h4, h5, h6, h7, h8, h9, h10⟩ := h
  exact ⟨c, k, i, f, a, cell, h1, h2, h3, h4, h5, h6, h7, h8, h9, fun z => h10 (hAB _ z)⟩
theorem vx_L.word {C n d : String} {A : Nat → Prop} {s : State} {args : Array Value} (h : vx_L C n d A s s.heap) : (Cond.laysStatic C n d).before args s = true := by
  obtain ⟨c, k, i, f, a, cell, h1, h2, h3, h4, h5, h6, h7, h8, h9, -⟩ := h
  show (Cond.laysStatic C n d).holds args s none s [] = true
  exact Cond.laysStatic_of h1 h2 h3 h4 h5 h6 h7 h8 h9
/-- .. and what it holds: null or some reference -/
def vx_Zq (C n d : String) (A : Nat → Prop) (U : State) (H : Heap) : Prop := va_Zq C n d A U H ∧ vx_L C n d A U H
theorem vx_Zq.moved {C n d : String} {A : Nat → Prop} {u U : State} {H : Heap} (hvm : u.vm.Alike U.vm) (h : vx_Zq C n d A u H) : vx_Zq C n d A U H := ⟨va_Zq.moved hvm h.1, vx_L.moved hvm h.2⟩
theorem vx_Zq.kept {C n d : String} {A : Nat → Prop} {U : State} {H H1 : Heap} (h : vx_Zq C n d A U H) (hq : ∀ a : Nat, a < H.size → ¬ A a → H1[a]? = H[a]?) : vx_Zq C n d A U H1 := ⟨va_Zq.kept h.1 hq, vx_L.kept h.2 hq⟩
theorem vx_Zq.narrow {C n d : String} {A B : Nat → Prop} {U : State} {H : Heap} (h : vx_Zq C n d A U H) (hAB : ∀ q, B q → A q) : vx_Zq C n d B U H := ⟨va_Zq.narrow h.1 hAB, vx_L.narrow h.2 hAB⟩
theorem vx_Zqof {args : Array Value} {s : State} {C n d : String} {A : Nat → Prop} (hl : (Cond.laysStatic C n d).before args s = true) (hini : (Cond.initialized C).before args s = true) (h : (Cond.isRef (.static C n d)).before args s = true) (hA : ∀ a : Nat, a < s.heap.size → ¬ A a) : vx_Zq C n d A s s.heap := by
  refine ⟨va_Zqof hl hini h hA, ?_⟩
  obtain ⟨c, k, i, f, a, cell, h1, h2, h3, h4, h5, h6, h7, h8, h9⟩ := Cond.laysStatic_spec hl
  exact ⟨c, k, i, f, a, cell, h1, h2, h3, h4, h5, h6, h7, h8, h9, hA a (Array.getElem?_eq_some_iff.mp h5).1⟩
theorem vx_isRef {C n d : String} {v : Value} {A : Nat → Prop} {s : State} {args : Array Value} (h : va_Z C n d v A s s.heap) (hv : v.isRef = true) : (Cond.isRef (.static C n d)).before args s = true := by
  obtain ⟨cf, kf, fi, f, a, cell, h1, h2, h3, h4, h5, h6, h7, -⟩ := h
  have he : (Term.static C n d).eval args s none [] s = some v := by
    simp [Term.eval, State.fieldNamed?, h1, h2, h4, h5, h6, h7]
  simp only [Cond.before, Cond.holds, Cond.value, he]
  cases v <;> simp_all [Value.isRef]
theorem vx_isRefq {C n d : String} {A : Nat → Prop} {s : State} {args : Array Value} (h : va_Zq C n d A s s.heap) : (Cond.isRef (.static C n d)).before args s = true := by
  rcases h with h | ⟨t, h⟩
  · exact vx_isRef h rfl
  · exact vx_isRef h rfl
/-- the same frame, seen from here: as if the method were called anew in this heap -/
theorem vx_rebase {T : State} (X : Stand p l e R s m args below meth c T locs cells slots) {R' : Room} (hf : R'.frames ≤ R.frames) (hl : R'.locals ≤ R.locals) (hc : cells + R'.cells ≤ R.cells) (hs : slots + R'.slots ≤ R.slots) :
    Stand p l e R' ((T.setVm s.vm).setFrames (.invoking m args :: below)) m args below meth c T [] 0 0 := by
  have htop : (T.setVm s.vm).topJava?.isSome := X.here.top
  have hF : ((T.setVm s.vm).setFrames (.invoking m args :: below)).frames = .invoking m args :: below := State.frames_setFrames _ (State.cur_lt_of_top htop)
  obtain ⟨g₀, hg0⟩ := Option.isSome_iff_exists.mp htop
  obtain ⟨r, hr⟩ := State.topJava?_eq_some.mp hg0
  have hl9 : e.platform.stackLimits (T.setVm s.vm).me = e.platform.stackLimits s.me := X.limits
  have hb9 : (T.setVm s.vm).me.stackBytes = s.me.stackBytes := X.bytes
  refine ⟨X.admits, X.cas, X.clock, hF, ?_, X.hears, X.method, X.code, X.here, X.tail, X.warmed, ?_, ?_, ?_⟩
  · have h := X.room
    have hU : ((T.setVm s.vm).setFrames (.invoking m args :: below)).localsInUse = s.localsInUse := by
      rw [State.localsInUse_invoking hF (meth := meth) (c := c) X.method X.code, State.localsInUse_invoking X.frames X.method X.code]
    simp only [State.hasRoom, Bool.and_eq_true, decide_eq_true_eq] at h ⊢
    obtain ⟨⟨⟨⟨h1, h2, h3, h4, h5, h6⟩, h7⟩, h8⟩, h9⟩ := h
    rw [X.frames, List.length_cons] at h2 h3
    have q1 := X.heapSize
    have q2 := X.used
    simp only [hF, hU, List.length_cons, State.stackLimits_setFrames, State.stackBytes_setFrames, hl9, hb9]
    refine ⟨⟨⟨⟨by omega, by omega, by omega, by omega, by omega, h6⟩, ?_⟩, ?_⟩, X.book⟩
    · show T.heap.size + R'.cells ≤ e.platform.maxCells
      omega
    · show T.slotsUsed + R'.slots ≤ e.platform.maxSlots
      omega
  · rw [State.stackLimits_setFrames]; rfl
  · rw [State.stackBytes_setFrames]; rfl
  · refine ⟨?_, Nat.le_refl _, Nat.le_refl _, ?_, ?_, fun a c9 h9 => ⟨c9, h9, rfl, rfl, fun _ _ => rfl⟩⟩
    · obtain ⟨t, ht, -⟩ := State.frames_cons hr
      show T.setVm s.vm = { ((T.setVm s.vm).setFrames (.invoking m args :: below)).setFrames (T.setVm s.vm).frames with heap := T.heap, slotsUsed := T.slotsUsed }
      rw [State.setFrames_setFrames, State.setFrames_self ht]
      rfl
    · show T.slotsUsed = T.slotsUsed + ((T.heap.toList.drop T.heap.size).map (·.slots.size)).sum
      rw [List.drop_eq_nil_of_le (Nat.le_of_eq Array.length_toList)]
      rfl
    · show ((T.heap.toList.drop T.heap.size).map (·.slots.size)).sum ≤ 0
      rw [List.drop_eq_nil_of_le (Nat.le_of_eq Array.length_toList)]
      exact Nat.le_refl _
/-- 'throw new E()': new; dup; invokespecial; athrow -/
theorem vx_throw0 {cc : ByteArray} {pc : Nat} (hexec : p.tables.exec = Jvm.exec) (hb : c.code = cc) (hl : l.stackTraces = false) {own cls : String} {names : List String} {ik ic mc ms : Nat} {A : Nat → Prop}
    (hown : s.vm.findClass own = some m.cls) (hcls : Bundle.fit cls = true) (hnames : ∀ n ∈ names, Bundle.fit n = true)
    (hk : (Cond.classLink own ik cls).before args s = true) (hini : (Cond.initialized cls).before args s = true) (hat : ∀ w ∈ vx_at0 own ic cls names, w.before args s = true)
    (hgood : ∀ w ∈ Cond.classLink own ik cls :: Cond.initialized cls :: vx_at0 own ic cls names, vx_ot w = true)
    (hU : vx_Zq Bundle.tN "UNASSIGNED_STACK" Bundle.steD A s s.heap) (hN : vx_Zq Bundle.tN "SUPPRESSED_SENTINEL" Bundle.listD A s s.heap) (hS : va_S A s.heap H locs) (hsize : ls.size = c.maxLocals)
    (d0 : decode cc pc = .ok (.new ik, 3)) (d3 : decode cc (pc + 3) = .ok (.dup, 1)) (d4 : decode cc (pc + 4) = .ok (.invokespecial ic, 3)) (d7 : decode cc (pc + 7) = .ok (.athrow, 1))
    (hout : ∀ x ∈ c.exceptionTable.toList, covers x (pc + 7) = false)
    (hRframes : names.length + 3 < R.frames) (hRlocals : (rest.map fun v => v.category).sum + (13 * (names.length + 1) + 42) ≤ R.locals) (hRcells : cells + 1 ≤ R.cells) (hRslots : slots + 6 ≤ R.slots) (hlocks : meth.locks = false)
    (hx : ∀ t : State, s.vm.Alike t.vm → H.size ≤ t.heap.size → (∀ q : Nat, q < H.size → t.heap[q]? = H[q]?) → XC cls s t)
    (hf : ∀ z ∈ locs, free z.base) (hc : cells + 1 ≤ mc) (hs : slots + 6 ≤ ms) :
    W p l e R s m args below meth c H locs cells slots (vx_MQ below Qc XC args s mc ms free) (F0 m pc ls rest) := by
  intro T hT X
  have htr : e.platform.stackTraces = false := (show e.platform.stackTraces = l.stackTraces by rw [X.admits.platform]).trans hl
  have Y := vx_rebase X (R' := { frames := R.frames, locals := R.locals, cells := 1, slots := 6 }) (Nat.le_refl _) (Nat.le_refl _) hRcells hRslots
  obtain ⟨s', hA⟩ : ∃ z, z = (T.setVm s.vm).setFrames (.invoking m args :: below) := ⟨_, rfl⟩
  rw [← hA] at Y
  have hvm : s'.vm = s.vm := by rw [hA]; rfl
  have hhp : s'.heap = H := by rw [hA]; exact hT
  have hW0 : s.WarmedH s'.vm := by rw [hvm]; exact State.WarmedH.refl s
  have hat' : ∀ w ∈ vx_at0 own ic cls names, w.before args s' = true := fun w hw => vx_ot_at hW0 hvm.symm (hgood w (List.mem_cons_of_mem _ (List.mem_cons_of_mem _ hw))) (hat w hw)
  have hk' : (Cond.classLink own ik cls).before args s' = true := vx_ot_at hW0 hvm.symm (hgood _ List.mem_cons_self) hk
  have hini' : (Cond.initialized cls).before args s' = true := vx_ot_at hW0 hvm.symm (hgood _ (List.mem_cons_of_mem _ List.mem_cons_self)) hini
  have hU' : vx_Zq Bundle.tN "UNASSIGNED_STACK" Bundle.steD A s' s'.heap := by rw [hhp]; exact vx_Zq.moved hW0.alike (hU.kept hS.2.1)
  have hN' : vx_Zq Bundle.tN "SUPPRESSED_SENTINEL" Bundle.listD A s' s'.heap := by rw [hhp]; exact vx_Zq.moved hW0.alike (hN.kept hS.2.1)
  have h : ∀ w ∈ Bundle.ownAtoms0 own ic cls names, w.before args s' = true := vx_own hat' (vx_isRefq hU'.1) (vx_isRefq hN'.1) hU'.2.word hN'.2.word
  have hown' : s'.vm.findClass own = some m.cls := by rw [hvm]; exact hown
  have hins : (Cond.instantiable cls 6).before args s' = true := h _ (by simp [Bundle.ownAtoms0])
  obtain ⟨vm₁, cX, kX, hfX, hkX, -, -, X₁, st1⟩ := Y.newCold hexec (own := own) (C := cls) (index := ik) (n := 6) hown' hk' hins hini'
    (g := F0 m pc ls rest) rfl (by rw [hb]; exact d0) (Nat.le_refl _) (Nat.le_refl _)
  generalize hT1 : (T.setVm vm₁).pushCell { cls := cX, slots := kX.instanceTypes.map defaultValue, vm := .none } = T1 at X₁ st1
  have hcat : (Value.ref T.heap.size).category = 1 := rfl
  have hcellA : T1.heap[T.heap.size]? = some (freshCell cX kX) := by rw [← hT1]; exact State.heap_pushCell_size _ _
  have d3' : decode c.code (pc + 3) = .ok (.dup, 1) := by rw [hb]; exact d3
  obtain ⟨U, hsteps, hrun, hend, hW, hsame, ce, hce, hO⟩ := X₁.ctorThrow0 hexec htr (own := own) (cls := cls) (names := names) (ic := ic) hown' hcls hnames h (fun x hx => nomatch hx) hfX hkX hcellA (by rw [hhp, hT]; exact Nat.le_refl _)
    (g := { method := m, pc := pc + 4, locals := ls, stack := .ref T.heap.size :: .ref T.heap.size :: rest, locked := none }) rfl hsize rfl rfl (rest := rest) rfl
    (by rw [hb]; exact d4) (by rw [hb]; exact d7) hout hRframes (by simp only [List.map_cons, List.sum_cons, hcat]; omega) hlocks
  obtain ⟨f1, f2⟩ := vx_frame hsame
  rw [hhp] at f1 f2
  have hWs : s.WarmedH U.vm := State.WarmedH.trans hW0 hW
  have hcl : s.vm.findClass cls = some ce.cls := by
    have h9 := hO.cls
    rw [hvm] at h9
    exact h9
  have hall : s.sameButNew ({ U with vm := s.vm } : State) locs mc ms := by
    subst hA
    obtain ⟨e1, e2⟩ := hsame
    rw [State.setFrames_setFrames] at e1
    have h2 : (T.setVm s.vm).sameButNew ({ U with vm := s.vm } : State) [] (0 + 1) (0 + 6) := ⟨e1, e2⟩
    have h3 := X.same.trans h2
    rw [List.append_nil] at h3
    exact h3.mono hc hs
  refine ⟨U, ?_, .threw T.heap.size, hrun, hend, Or.inr ⟨T.heap.size, rfl, cls, ce, locs, hx U hWs.alike f1 (fun q hq => f2 q hq (fun z hz => nomatch hz)), hce, hO.vm, hcl, hWs, hall, hf⟩⟩
  refine st1 _ ?_
  show Steps p.tables e below (T1.setTop { method := m, pc := pc + 3, locals := ls, stack := .ref T.heap.size :: rest, locked := none }) _
  jvm_step X₁.here [X₁.here.top, hexec, d3', Value.category]
  exact hsteps
/-- 'throw new E("text")': new; dup; ldc; invokespecial; athrow -/
theorem vx_throwS {cc : ByteArray} {pc : Nat} (hexec : p.tables.exec = Jvm.exec) (hb : c.code = cc) (hl : l.stackTraces = false) {own cls text : String} {names : List String} {ik is ic mc ms sa : Nat} {A : Nat → Prop}
    (hown : s.vm.findClass own = some m.cls) (hcls : Bundle.fit cls = true) (hnames : ∀ n ∈ names, Bundle.fit n = true)
    (hk : (Cond.classLink own ik cls).before args s = true) (hini : (Cond.initialized cls).before args s = true) (hstr : vk_R own is text sa s) (hat : ∀ w ∈ vx_atS own ic cls names, w.before args s = true)
    (hgood : ∀ w ∈ Cond.classLink own ik cls :: Cond.initialized cls :: vx_atS own ic cls names, vx_ot w = true)
    (hU : vx_Zq Bundle.tN "UNASSIGNED_STACK" Bundle.steD A s s.heap) (hN : vx_Zq Bundle.tN "SUPPRESSED_SENTINEL" Bundle.listD A s s.heap) (hS : va_S A s.heap H locs) (hsize : ls.size = c.maxLocals)
    (d0 : decode cc pc = .ok (.new ik, 3)) (d3 : decode cc (pc + 3) = .ok (.dup, 1)) (d4 : decode cc (pc + 4) = .ok (.ldc is, 2)) (d6 : decode cc (pc + 6) = .ok (.invokespecial ic, 3)) (d9 : decode cc (pc + 9) = .ok (.athrow, 1))
    (hout : ∀ x ∈ c.exceptionTable.toList, covers x (pc + 9) = false)
    (hRframes : names.length + 3 < R.frames) (hRlocals : (rest.map fun v => v.category).sum + (13 * (names.length + 1) + 43) ≤ R.locals) (hRcells : cells + 1 ≤ R.cells) (hRslots : slots + 6 ≤ R.slots) (hlocks : meth.locks = false)
    (hx : ∀ t : State, s.vm.Alike t.vm → H.size ≤ t.heap.size → (∀ q : Nat, q < H.size → t.heap[q]? = H[q]?) → XC cls s t)
    (hf : ∀ z ∈ locs, free z.base) (hc : cells + 1 ≤ mc) (hs : slots + 6 ≤ ms) :
    W p l e R s m args below meth c H locs cells slots (vx_MQ below Qc XC args s mc ms free) (F0 m pc ls rest) := by
  intro T hT X
  have htr : e.platform.stackTraces = false := (show e.platform.stackTraces = l.stackTraces by rw [X.admits.platform]).trans hl
  have Y := vx_rebase X (R' := { frames := R.frames, locals := R.locals, cells := 1, slots := 6 }) (Nat.le_refl _) (Nat.le_refl _) hRcells hRslots
  obtain ⟨s', hA⟩ : ∃ z, z = (T.setVm s.vm).setFrames (.invoking m args :: below) := ⟨_, rfl⟩
  rw [← hA] at Y
  have hvm : s'.vm = s.vm := by rw [hA]; rfl
  have hhp : s'.heap = H := by rw [hA]; exact hT
  have hW0 : s.WarmedH s'.vm := by rw [hvm]; exact State.WarmedH.refl s
  have hat' : ∀ w ∈ vx_atS own ic cls names, w.before args s' = true := fun w hw => vx_ot_at hW0 hvm.symm (hgood w (List.mem_cons_of_mem _ (List.mem_cons_of_mem _ hw))) (hat w hw)
  have hk' : (Cond.classLink own ik cls).before args s' = true := vx_ot_at hW0 hvm.symm (hgood _ List.mem_cons_self) hk
  have hini' : (Cond.initialized cls).before args s' = true := vx_ot_at hW0 hvm.symm (hgood _ (List.mem_cons_of_mem _ List.mem_cons_self)) hini
  have hU' : vx_Zq Bundle.tN "UNASSIGNED_STACK" Bundle.steD A s' s'.heap := by rw [hhp]; exact vx_Zq.moved hW0.alike (hU.kept hS.2.1)
  have hN' : vx_Zq Bundle.tN "SUPPRESSED_SENTINEL" Bundle.listD A s' s'.heap := by rw [hhp]; exact vx_Zq.moved hW0.alike (hN.kept hS.2.1)
  have h : ∀ w ∈ Bundle.ownAtoms own ic cls names, w.before args s' = true := vx_own hat' (vx_isRefq hU'.1) (vx_isRefq hN'.1) hU'.2.word hN'.2.word
  have hown' : s'.vm.findClass own = some m.cls := by rw [hvm]; exact hown
  have hins : (Cond.instantiable cls 6).before args s' = true := h _ (by simp [Bundle.ownAtoms])
  obtain ⟨vm₁, cX, kX, hfX, hkX, -, -, X₁, st1⟩ := Y.newCold hexec (own := own) (C := cls) (index := ik) (n := 6) hown' hk' hins hini'
    (g := F0 m pc ls rest) rfl (by rw [hb]; exact d0) (Nat.le_refl _) (Nat.le_refl _)
  generalize hT1 : (T.setVm vm₁).pushCell { cls := cX, slots := kX.instanceTypes.map defaultValue, vm := .none } = T1 at X₁ st1
  have hcat : (Value.ref T.heap.size).category = 1 := rfl
  have hcellA : T1.heap[T.heap.size]? = some (freshCell cX kX) := by rw [← hT1]; exact State.heap_pushCell_size _ _
  have d3' : decode c.code (pc + 3) = .ok (.dup, 1) := by rw [hb]; exact d3
  have d4' : decode c.code (pc + 4) = .ok (.ldc is, 2) := by rw [hb]; exact d4
  have hstr' : vk_R own is text sa s' := vk_R.warm hW0 hstr
  obtain ⟨U, hsteps, hrun, hend, hW, hsame, ce, hce, hO⟩ := X₁.ctorThrowS hexec htr (own := own) (cls := cls) (names := names) (ic := ic) hown' hcls hnames h (fun x hx => nomatch hx) hfX hkX hcellA (by rw [hhp, hT]; exact Nat.le_refl _) (msg := .ref sa) rfl
    (g := { method := m, pc := pc + 6, locals := ls, stack := .ref sa :: .ref T.heap.size :: .ref T.heap.size :: rest, locked := none }) rfl hsize rfl rfl (rest := rest) rfl
    (by rw [hb]; exact d6) (by rw [hb]; exact d9) hout hRframes (by simp only [List.map_cons, List.sum_cons, hcat]; omega) hlocks
  obtain ⟨f1, f2⟩ := vx_frame hsame
  rw [hhp] at f1 f2
  have hWs : s.WarmedH U.vm := State.WarmedH.trans hW0 hW
  have hcl : s.vm.findClass cls = some ce.cls := by
    have h9 := hO.cls
    rw [hvm] at h9
    exact h9
  have hall : s.sameButNew ({ U with vm := s.vm } : State) locs mc ms := by
    subst hA
    obtain ⟨e1, e2⟩ := hsame
    rw [State.setFrames_setFrames] at e1
    have h2 : (T.setVm s.vm).sameButNew ({ U with vm := s.vm } : State) [] (0 + 1) (0 + 6) := ⟨e1, e2⟩
    have h3 := X.same.trans h2
    rw [List.append_nil] at h3
    exact h3.mono hc hs
  refine ⟨U, ?_, .threw T.heap.size, hrun, hend, Or.inr ⟨T.heap.size, rfl, cls, ce, locs, hx U hWs.alike f1 (fun q hq => f2 q hq (fun z hz => nomatch hz)), hce, hO.vm, hcl, hWs, hall, hf⟩⟩
  refine st1 _ ?_
  show Steps p.tables e below (T1.setTop { method := m, pc := pc + 3, locals := ls, stack := .ref T.heap.size :: rest, locked := none }) _
  jvm_step X₁.here [X₁.here.top, hexec, d3', Value.category]
  exact X₁.ldcString hexec (own := own) (text := text) (index := is) (a := sa) hown' hstr'.1 hstr'.2
    (g := { method := m, pc := pc + 4, locals := ls, stack := .ref T.heap.size :: .ref T.heap.size :: rest, locked := none }) rfl d4' _ hsteps
/-- 'throw new E("text")', the text by a wide index -/
theorem vx_throwSW {cc : ByteArray} {pc : Nat} (hexec : p.tables.exec = Jvm.exec) (hb : c.code = cc) (hl : l.stackTraces = false) {own cls text : String} {names : List String} {ik is ic mc ms sa : Nat} {A : Nat → Prop}
    (hown : s.vm.findClass own = some m.cls) (hcls : Bundle.fit cls = true) (hnames : ∀ n ∈ names, Bundle.fit n = true)
    (hk : (Cond.classLink own ik cls).before args s = true) (hini : (Cond.initialized cls).before args s = true) (hstr : vk_R own is text sa s) (hat : ∀ w ∈ vx_atS own ic cls names, w.before args s = true)
    (hgood : ∀ w ∈ Cond.classLink own ik cls :: Cond.initialized cls :: vx_atS own ic cls names, vx_ot w = true)
    (hU : vx_Zq Bundle.tN "UNASSIGNED_STACK" Bundle.steD A s s.heap) (hN : vx_Zq Bundle.tN "SUPPRESSED_SENTINEL" Bundle.listD A s s.heap) (hS : va_S A s.heap H locs) (hsize : ls.size = c.maxLocals)
    (d0 : decode cc pc = .ok (.new ik, 3)) (d3 : decode cc (pc + 3) = .ok (.dup, 1)) (d4 : decode cc (pc + 4) = .ok (.ldc_w is, 3)) (d7 : decode cc (pc + 7) = .ok (.invokespecial ic, 3)) (d10 : decode cc (pc + 10) = .ok (.athrow, 1))
    (hout : ∀ x ∈ c.exceptionTable.toList, covers x (pc + 10) = false)
    (hRframes : names.length + 3 < R.frames) (hRlocals : (rest.map fun v => v.category).sum + (13 * (names.length + 1) + 43) ≤ R.locals) (hRcells : cells + 1 ≤ R.cells) (hRslots : slots + 6 ≤ R.slots) (hlocks : meth.locks = false)
    (hx : ∀ t : State, s.vm.Alike t.vm → H.size ≤ t.heap.size → (∀ q : Nat, q < H.size → t.heap[q]? = H[q]?) → XC cls s t)
    (hf : ∀ z ∈ locs, free z.base) (hc : cells + 1 ≤ mc) (hs : slots + 6 ≤ ms) :
    W p l e R s m args below meth c H locs cells slots (vx_MQ below Qc XC args s mc ms free) (F0 m pc ls rest) := by
  intro T hT X
  have htr : e.platform.stackTraces = false := (show e.platform.stackTraces = l.stackTraces by rw [X.admits.platform]).trans hl
  have Y := vx_rebase X (R' := { frames := R.frames, locals := R.locals, cells := 1, slots := 6 }) (Nat.le_refl _) (Nat.le_refl _) hRcells hRslots
  obtain ⟨s', hA⟩ : ∃ z, z = (T.setVm s.vm).setFrames (.invoking m args :: below) := ⟨_, rfl⟩
  rw [← hA] at Y
  have hvm : s'.vm = s.vm := by rw [hA]; rfl
  have hhp : s'.heap = H := by rw [hA]; exact hT
  have hW0 : s.WarmedH s'.vm := by rw [hvm]; exact State.WarmedH.refl s
  have hat' : ∀ w ∈ vx_atS own ic cls names, w.before args s' = true := fun w hw => vx_ot_at hW0 hvm.symm (hgood w (List.mem_cons_of_mem _ (List.mem_cons_of_mem _ hw))) (hat w hw)
  have hk' : (Cond.classLink own ik cls).before args s' = true := vx_ot_at hW0 hvm.symm (hgood _ List.mem_cons_self) hk
  have hini' : (Cond.initialized cls).before args s' = true := vx_ot_at hW0 hvm.symm (hgood _ (List.mem_cons_of_mem _ List.mem_cons_self)) hini
  have hU' : vx_Zq Bundle.tN "UNASSIGNED_STACK" Bundle.steD A s' s'.heap := by rw [hhp]; exact vx_Zq.moved hW0.alike (hU.kept hS.2.1)
  have hN' : vx_Zq Bundle.tN "SUPPRESSED_SENTINEL" Bundle.listD A s' s'.heap := by rw [hhp]; exact vx_Zq.moved hW0.alike (hN.kept hS.2.1)
  have h : ∀ w ∈ Bundle.ownAtoms own ic cls names, w.before args s' = true := vx_own hat' (vx_isRefq hU'.1) (vx_isRefq hN'.1) hU'.2.word hN'.2.word
  have hown' : s'.vm.findClass own = some m.cls := by rw [hvm]; exact hown
  have hins : (Cond.instantiable cls 6).before args s' = true := h _ (by simp [Bundle.ownAtoms])
  obtain ⟨vm₁, cX, kX, hfX, hkX, -, -, X₁, st1⟩ := Y.newCold hexec (own := own) (C := cls) (index := ik) (n := 6) hown' hk' hins hini'
    (g := F0 m pc ls rest) rfl (by rw [hb]; exact d0) (Nat.le_refl _) (Nat.le_refl _)
  generalize hT1 : (T.setVm vm₁).pushCell { cls := cX, slots := kX.instanceTypes.map defaultValue, vm := .none } = T1 at X₁ st1
  have hcat : (Value.ref T.heap.size).category = 1 := rfl
  have hcellA : T1.heap[T.heap.size]? = some (freshCell cX kX) := by rw [← hT1]; exact State.heap_pushCell_size _ _
  have d3' : decode c.code (pc + 3) = .ok (.dup, 1) := by rw [hb]; exact d3
  have d4' : decode c.code (pc + 4) = .ok (.ldc_w is, 3) := by rw [hb]; exact d4
  have hstr' : vk_R own is text sa s' := vk_R.warm hW0 hstr
  obtain ⟨U, hsteps, hrun, hend, hW, hsame, ce, hce, hO⟩ := X₁.ctorThrowS hexec htr (own := own) (cls := cls) (names := names) (ic := ic) hown' hcls hnames h (fun x hx => nomatch hx) hfX hkX hcellA (by rw [hhp, hT]; exact Nat.le_refl _) (msg := .ref sa) rfl
    (g := { method := m, pc := pc + 7, locals := ls, stack := .ref sa :: .ref T.heap.size :: .ref T.heap.size :: rest, locked := none }) rfl hsize rfl rfl (rest := rest) rfl
    (by rw [hb]; exact d7) (by rw [hb]; exact d10) hout hRframes (by simp only [List.map_cons, List.sum_cons, hcat]; omega) hlocks
  obtain ⟨f1, f2⟩ := vx_frame hsame
  rw [hhp] at f1 f2
  have hWs : s.WarmedH U.vm := State.WarmedH.trans hW0 hW
  have hcl : s.vm.findClass cls = some ce.cls := by
    have h9 := hO.cls
    rw [hvm] at h9
    exact h9
  have hall : s.sameButNew ({ U with vm := s.vm } : State) locs mc ms := by
    subst hA
    obtain ⟨e1, e2⟩ := hsame
    rw [State.setFrames_setFrames] at e1
    have h2 : (T.setVm s.vm).sameButNew ({ U with vm := s.vm } : State) [] (0 + 1) (0 + 6) := ⟨e1, e2⟩
    have h3 := X.same.trans h2
    rw [List.append_nil] at h3
    exact h3.mono hc hs
  refine ⟨U, ?_, .threw T.heap.size, hrun, hend, Or.inr ⟨T.heap.size, rfl, cls, ce, locs, hx U hWs.alike f1 (fun q hq => f2 q hq (fun z hz => nomatch hz)), hce, hO.vm, hcl, hWs, hall, hf⟩⟩
  refine st1 _ ?_
  show Steps p.tables e below (T1.setTop { method := m, pc := pc + 3, locals := ls, stack := .ref T.heap.size :: rest, locked := none }) _
  jvm_step X₁.here [X₁.here.top, hexec, d3', Value.category]
  exact X₁.ldcStringW hexec (own := own) (text := text) (index := is) (a := sa) hown' hstr'.1 hstr'.2
    (g := { method := m, pc := pc + 4, locals := ls, stack := .ref T.heap.size :: .ref T.heap.size :: rest, locked := none }) rfl d4' _ hsteps
end Ends
section Bodies
variable {l : Launch}
theorem vx_ofW {y : MethodName} {ws ws' : List Cond} {rm : Room} {Pc : Array Value → State → Prop} {Qc : Array Value → State → Outcome → State → Prop} {XC : String → State → State → Prop} {mc ms : Nat} {free : Addr → Prop} {cc : ByteArray} {maxL : Nat} {ret : Option FieldType}
    (hy : plainName y.cls = true) (hw : ws = Cond.code y cc maxL ret :: ws')
    (body : ∀ p e s m args below meth c s₁, BodyLoose p l y (headSpec ws rm) cc maxL ret e s m args below meth c s₁ → c.maxLocals = maxL → (∀ x ∈ c.exceptionTable.toList, False) → Pc args s →
      W p l e (headSpec ws rm).room s m args below meth c s.heap [] 0 0 (vx_MQ below Qc XC args s mc ms free) (entryFrame m args maxL)) : vx_Met l y ws rm Pc Qc XC mc ms free := by
  refine MetFree.of_bodyS (code := cc) (maxLocals := maxL) (ret := ret) hy ?_ ?_
  · intro args s m h hn
    obtain ⟨meth, c, h1, h2, h3, h4, h5, h6, -, -⟩ := Cond.code_spec hn (atoms_spec (ws := ws) h _ (by rw [hw]; exact List.mem_cons_self))
    exact ⟨meth, c, h1, h2, h3, h4, h5, h6⟩
  · intro p e s m args below meth c s₁ B hml hP _
    have hh0 : s₁.heap = s.heap := by rw [B.state]; rfl
    have ht : ∀ x ∈ c.exceptionTable.toList, False := by
      obtain ⟨meth9, c9, h1, h2, -, -, -, -, h7, -⟩ := Cond.code_spec B.named (atoms_spec (ws := ws) B.pre _ (by rw [hw]; exact List.mem_cons_self))
      cases Option.some.inj (h1.symm.trans B.method)
      cases Option.some.inj (h2.symm.trans (Stand.of_body B).code)
      intro x hx
      rw [Array.isEmpty_iff.mp h7] at hx
      cases hx
    obtain ⟨t, a1, o, b1, b2, b3⟩ := body p e s m args below meth c s₁ B hml ht hP s₁ hh0 (Stand.of_body B)
    exact ⟨t, o, a1, b1, b2, b3⟩
/-- the table of a body with handlers -/
theorem vx_table {p : Program} {x y : MethodName} {S : Spec} {cc bytes : ByteArray} {maxL maxL' : Nat} {ret ret' : Option FieldType} {e : Env} {s s₁ : State} {m : MethodId} {args : Array Value} {below : List Frame} {meth : Method} {c : Code} {hh : List (Nat × Nat × Nat × Nat)}
    (B : BodyLoose p l y S cc maxL ret e s m args below meth c s₁) (h : (Cond.codeWith y bytes maxL' ret' hh).before args s = true) : c.exceptionTable.toList = tableOf hh := by
  obtain ⟨m9, meth9, c9, hn9, h1, h2, -, -, h6, -⟩ := Cond.codeWith_spec h
  cases Option.some.inj (hn9.symm.trans B.named)
  cases Option.some.inj (h1.symm.trans B.method)
  cases Option.some.inj (h2.symm.trans (Stand.of_body B).code)
  rw [← h6, table_eq]
end Bodies
end VXA
/-! ===== END ===== -/
/-! ===== BEGIN a static call of a method with an exception table ===== -/
section VXS
variable {p : Program} {l : Launch} {e : Env} {R : Room} {s : State} {m : MethodId} {args : Array Value} {below : List Frame} {meth : Method} {c : Code} {T : State} {H : Heap} {locs : List Loc} {cells slots : Nat}
abbrev vx_CSW (R : Room) (s : State) (args : Array Value) (own : String) (index : Nat) (y : MethodName) (bytes : ByteArray) (maxL : Nat) (ret : Option FieldType) (hh : List (Nat × Nat × Nat × Nat)) (ws : List Cond) (rm : Room) (mc ms n : Nat) : Prop :=
  (rm.cells = mc ∧ rm.slots = ms ∧ rm.frames + 1 ≤ R.frames ∧ 8 + (maxL + 11) + rm.locals ≤ R.locals ∧ (∀ w ∈ ws, ∀ (a' : Array Value) (U : State), s.WarmedH U.vm → w.before a' U = true) ∧ Cond.codeWith y bytes maxL ret hh ∈ ws) ∧
  (Cond.codeWith y bytes maxL ret hh).before args s = true ∧ (Cond.initialized y.cls).before args s = true ∧ (y.cls ≠ "java/lang/invoke/MethodHandle" ∧ y.cls ≠ "java/lang/invoke/VarHandle") ∧
  (∀ sig, parseMethodDescriptor y.desc = some sig → n = sig.parameters.length) ∧ (Cond.methodLink own index y).before args s = true ∧ (Cond.static y).before args s = true
theorem vx_cwSW {own : String} {index maxL mc ms : Nat} {y : MethodName} {bytes : ByteArray} {ret : Option FieldType} {hh : List (Nat × Nat × Nat × Nat)} {Ts ws ws' : List Cond} {rm : Room} (n : Nat) (ht : ∀ w ∈ Ts, w.before args s = true) (hT : GoodIn Ts (va_wsS own index y ws)) (hw : ws = Cond.codeWith y bytes maxL ret hh :: ws') (hrc : rm.cells = mc) (hrs : rm.slots = ms)
    (hd : y.cls ≠ "java/lang/invoke/MethodHandle" ∧ y.cls ≠ "java/lang/invoke/VarHandle" ∧ (parseMethodDescriptor y.desc).map (fun d => d.parameters.length) = some n) (hR : rm.frames + 1 ≤ R.frames ∧ 8 + (maxL + 11) + rm.locals ≤ R.locals) :
    vx_CSW R s args own index y bytes maxL ret hh ws rm mc ms n := by
  have ok : ∀ w ∈ va_wsS own index y ws, w.before args s = true := fun w h => ht w (hT w h).1
  have hG : GoodIn Ts ws := fun w h => hT w (by unfold va_wsS; exact List.mem_append_right _ h)
  have hc : Cond.codeWith y bytes maxL ret hh ∈ ws := by rw [hw]; exact List.mem_cons_self
  refine ⟨⟨hrc, hrs, hR.1, hR.2, pay_in ht hG, hc⟩, ht _ (hG _ hc).1, ok _ (by simp [va_wsS]), ⟨hd.1, hd.2.1⟩, fun sig h => ?_, ok _ (by simp [va_wsS]), ok _ (by simp [va_wsS])⟩
  have h2 := hd.2.2
  rw [h] at h2
  exact (Option.some.inj h2).symm
theorem vx_callSW (X : Stand p l e R s m args below meth c T locs cells slots) (hexec : p.tables.exec = Jvm.exec) {own : String} {index : Nat} {y : MethodName} {bytes : ByteArray} {maxL : Nat} {ret : Option FieldType} {hh : List (Nat × Nat × Nat × Nat)}
    (hown : s.vm.findClass own = some m.cls) (hlink : (Cond.methodLink own index y).before args s = true) (hstat : (Cond.static y).before args s = true) (hinit : (Cond.initialized y.cls).before args s = true)
    (hcode : (Cond.codeWith y bytes maxL ret hh).before args s = true) (hy : y.cls ≠ "java/lang/invoke/MethodHandle" ∧ y.cls ≠ "java/lang/invoke/VarHandle")
    {W9 : Nat} {Pre : Pt → Array Value → Prop} {Post : Pt → Array Value → Option Value → Pt → Prop} (hK : Back l R p e below s args y 3 W9 Pre Post)
    {g : JFrame} (hg : g.method = m) (hsize : g.locals.size = c.maxLocals) {argsL rest : List Value} (hlen : ∀ sig, parseMethodDescriptor y.desc = some sig → argsL.length = sig.parameters.length)
    (hstack : g.stack = argsL.reverse ++ rest) (hW : 2 * g.monitorRoom + (rest.map fun v => v.category).sum ≤ W9) (hdg : decode c.code g.pc = .ok (.invokestatic index, 3))
    (hpre : ∀ vm₁, s.WarmedH vm₁ → Pre ⟨T.setVm vm₁, locs, cells, slots⟩ argsL.toArray) :
    ∃ (v : Option Value) (vm₁ : Vm) (B : Pt), s.WarmedH vm₁ ∧ Stand p l e R s m args below meth c B.U B.locs B.cells B.slots ∧ Post ⟨T.setVm vm₁, locs, cells, slots⟩ argsL.toArray v B ∧
      ∀ target, Steps p.tables e below (B.U.setTop { g with pc := g.pc + 3, stack := v.toList ++ rest }) target → Steps p.tables e below (T.setTop g) target := by
  obtain ⟨mk, methM, cM, hnamed, hmethM, -, -, -, -, -, -, hsigM⟩ := Cond.codeWith_spec hcode
  have hstatic : methM.isStatic = true := Cond.static_spec hnamed hmethM hstat
  obtain ⟨kP, hkP, -⟩ := className_of_methodNamed hnamed
  have hinitP : kP.init = .initialized := Cond.initialized_spec (findClass_of_methodNamed hnamed) hkP hinit
  obtain ⟨vm₁, X₁, hstep₁⟩ := X.invokestatic hexec hown hlink hnamed hmethM hstatic hkP hinitP hy (g := g) hg (argsL := argsL) (rest := rest) (hlen _ hsigM) hstack hdg
  obtain ⟨v, B, X', hpost, hsteps⟩ := hK m meth c ⟨T.setVm vm₁, locs, cells, slots⟩ { g with stack := rest } (.invokestatic index) mk argsL.toArray X₁ hg hsize hdg hW (X₁.named hnamed) (hpre vm₁ X₁.warmed)
  exact ⟨v, vm₁, B, X₁.warmed, X', hpost, fun target h => hstep₁ _ fun acts => by rw [doInvoke_state]; exact hsteps.trans h⟩
theorem vx_runSW {y : MethodName} {bytes cc : ByteArray} {maxL nL mc ms n index : Nat} {ret : Option FieldType} {hh : List (Nat × Nat × Nat × Nat)} {ws : List Cond} {rm : Room} {Pc : Array Value → State → Prop} {Qc : Array Value → State → Outcome → State → Prop} {free : Addr → Prop} {Ts : List Cond} {own : String} {As rest : List Value} {g : JFrame}
    (S : CallFix p m c cc nL s args Ts own) (hM : Met l y ws rm Pc Qc mc ms free) (cw : vx_CSW R s args own index y bytes maxL ret hh ws rm mc ms n) (hp : PreS s H Pc As)
    (hg : g.method = m) (hn : As.length = n) (hsize : g.locals.size = nL) (hstack : g.stack = As.reverse ++ rest) (hW : 2 * g.monitorRoom + (rest.map fun v => v.category).sum ≤ 8) (hdg : decode cc g.pc = .ok (.invokestatic index, 3)) (hf : cells + mc ≤ R.cells ∧ slots + ms ≤ R.slots) :
    va_Run p l e R s m args below meth c H locs cells slots mc ms g rest (Qc As.toArray) (free) := by
  obtain ⟨⟨hrc, hrs, hfr, hlo, hws, hcw⟩, hcode, hini, hy, hlen, hl, hstt⟩ := cw
  have hK : Back l R p e below s args y 3 8 (PreOf R mc ms Pc) (PostOf Qc mc ms free) := va_backW (hh := hh) (bytes := bytes) (maxL := maxL) (ret := ret) hM hp.1 hrc hrs hfr hlo hws hcw (fun a' U hW => word_at hW (Or.inl (by first | rfl | simp [Cond.onTables, Cond.keeps, Cond.steady])) hini)
  obtain ⟨hx, hb, hml, ho, -⟩ := S
  intro T hT X
  obtain ⟨v, vm₁, ⟨U', l2, c2, s2⟩, hW₁, X', ⟨g', mk, t, L, e1, e2, hq, h1, hL, h2, h3⟩, st⟩ := vx_callSW X hx (hh := hh) (bytes := bytes) (maxL := maxL) (ret := ret) ho hl hstt hini hcode hy hK hg (hsize.trans hml.symm) (argsL := As) (rest := rest) (fun sig h => hn.trans (hlen sig h)) hstack hW (by rw [hb]; exact hdg)
    (fun vm₁ hW₁ => ⟨hf.1, hf.2, hp.2 (T.setVm vm₁) hT hW₁⟩)
  dsimp only [Pt.U, Pt.locs, Pt.cells, Pt.slots] at X' e1 e2 h1 h2 h3 st
  subst h1; subst h2; subst h3
  exact ⟨v, (T.setVm vm₁).calling g' mk As.toArray, t, U', L, hT, X', hL, e1, e2, hq, st⟩
/-- not caught here, past rows that name other classes: it goes on to the caller -/
theorem vx_outP {p : Program} {l : Launch} {e : Env} {R : Room} {s : State} {m : MethodId} {args : Array Value} {below : List Frame} {meth : Method} {c : Code} {H : Heap} {locs : List Loc} {cells slots : Nat} {free : Addr → Prop} {ls : Array Slot} {rest : List Value} {Qc : Array Value → State → Outcome → State → Prop} {XC : String → State → State → Prop}
    {pc : Nat} {own E : String} {ce : Cell} {q : Addr} {mc ms : Nat} (hown : s.vm.findClass own = some m.cls) (hlocks : meth.locks = false)
    (hpass : ∀ z ∈ c.exceptionTable.toList, covers z pc = false ∨ (z.catchType ≠ 0 ∧ ∃ nm : String, (Cond.classLink own z.catchType nm).before args s = true ∧ va_Nc E nm s)) (hcell : H[q]? = some ce) (hv : ce.vm = .none) (hcl : s.vm.findClass E = some ce.cls)
    (hx : ∀ t : State, t.heap = H → s.vm.Alike t.vm → XC E s t) (hf : ∀ z ∈ locs, free z.base) (hc : cells ≤ mc) (hs : slots ≤ ms) :
    vx_W p l e R s m args below meth c H locs cells slots (vx_MQ below Qc XC args s mc ms free) (F0 m pc ls rest) q := by
  intro T hT X
  have hpl : e.platform.magicAccessors = ({} : Platform).magicAccessors := by rw [X.admits.platform]
  obtain ⟨vm', hW', X', st⟩ := Stand.outThrough X hlocks q (g := F0 m pc ls rest) rfl rfl rfl (cell := ce) (by rw [hT]; exact hcell) (by rw [hv]; rfl)
    (by obtain ⟨k9, h9, -⟩ := Vm.findClass_spec hcl; exact ⟨k9, h9⟩) (fun z hz => by
      rcases hpass z hz with h | ⟨hz0, nm, hl1, hn1⟩
      · exact Or.inl h
      · obtain ⟨c6, hc6, hcl6⟩ := Cond.classLink_spec hown hl1 e.platform hpl
        obtain ⟨a8, b8, h1, h2, h3⟩ := hn1
        cases Option.some.inj (h1.symm.trans hcl)
        cases Option.some.inj (h2.symm.trans hc6)
        exact Or.inr ⟨hz0, _, hcl6, h3⟩)
  obtain ⟨g₀, hfr⟩ := X'.frames_eq
  have hcell9 : ((T.setVm vm').setFrames (.throwing q :: below)).heap[q]? = some ce := by
    show T.heap[q]? = some ce
    rw [hT]; exact hcell
  have hend : Ended ((T.setVm vm').setFrames (.throwing q :: below)) below (.threw q) := State.frames_setFrames _ (State.cur_lt_of_frames hfr)
  refine ⟨(T.setVm vm').setFrames (.throwing q :: below), ?_, .threw q, X'.here.running, hend, Or.inr ⟨q, rfl, E, ce, locs, hx _ hT (X'.ends _).1.alike, hcell9, hv, hcl, (X'.ends _).1, (X'.ends _).2.mono hc hs, hf⟩⟩
  rw [X.pushThrowing_eq]
  exact st
/-- a thing of a world lies in the heap -/
theorem vx_lt {D : va_G} {cl : List vw_C} {ws : va_W} {H1 : Heap} (h : va_P D cl ws H1) {k : Nat} {q : Nat × va_E} (hk : ws[k]? = some q) : q.1 < H1.size := (h k q hk).lt
end VXS
/-! ===== END ===== -/
/-! ===== BEGIN methods with a table of their own: called by a name, returning or throwing ===== -/
section VXH
/-! vx_backW, vx_callVX, vx_callSX, vx_callVW, vx_runVW, vx_runVX, vx_runSX, vx_ofWH follow the same proofs as their sisters above (Free/Laws.lean, Shelf42/LK1.lean); vx_outP calls Shelf42/NT130.lean (outThrough). -/
section
variable {l : Launch} {R : Room} {p : Program} {e : Env} {below : List Frame} {s : State} {sargs : Array Value} {y : MethodName} {len W9 : Nat}
theorem vx_backW {ws : List Cond} {rm : Room} {Pc : Array Value → State → Prop} {Qc : Array Value → State → Outcome → State → Prop} {XC : String → State → State → Prop} {mc ms : Nat} {free : Addr → Prop} {bytes : ByteArray} {maxL : Nat} {ret : Option FieldType} {hh : List (Nat × Nat × Nat × Nat)}
    (hM : vx_Met l y ws rm Pc Qc XC mc ms free) (hblind : FrameBlind Pc) (hrc : rm.cells = mc) (hrs : rm.slots = ms)
    (hframes : rm.frames + 1 ≤ R.frames) (hlocals : W9 + (maxL + 11) + rm.locals ≤ R.locals)
    (hws : ∀ w ∈ ws, ∀ a' U, s.WarmedH U.vm → w.before a' U = true) (hcode : Cond.codeWith y bytes maxL ret hh ∈ ws) (hinit : ∀ a' U, s.WarmedH U.vm → (Cond.initialized y.cls).before a' U = true) :
    vx_Back l R p e below s sargs y len W9 (PreOf R mc ms Pc) (PostOf Qc mc ms free) (vx_Post XC mc ms free) := by
  intro m meth c A g ig mk a X hg hsize hdg hW hn hp
  have h1 : (headSpec ws rm).pre.before a A.U = true := atoms_intro fun w hw => hws w hw _ _ X.warmed
  have h2 : (Cond.codeWith y bytes maxL ret hh).before a A.U = true := hws _ hcode _ _ X.warmed
  have h3 : (Cond.initialized y.cls).before a A.U = true := hinit _ _ X.warmed
  have h4 : A.cells + (headSpec ws rm).room.cells ≤ R.cells := by rw [show (headSpec ws rm).room.cells = mc from hrc]; exact hp.1
  have h5 : A.slots + (headSpec ws rm).room.slots ≤ R.slots := by rw [show (headSpec ws rm).room.slots = ms from hrs]; exact hp.2.1
  have hPc : Pc a (A.U.calling g mk a) := hblind _ _ _ _ hp.2.2
  obtain ⟨U, Ls, c0, s0⟩ := A
  dsimp only [Pt.U, Pt.locs, Pt.cells, Pt.slots] at h1 h2 h3 h4 h5 X hn hPc ⊢
  obtain ⟨m9, methY, cY, hn9, hmY, hcY, -, hlY, -⟩ := Cond.codeWith_spec h2
  cases Option.some.inj (hn9.symm.trans hn)
  obtain ⟨kY, hkY, -⟩ := className_of_methodNamed hn
  have hinitY : kY.init = .initialized := Cond.initialized_spec (findClass_of_methodNamed hn) hkY h3
  have h : At U g.method c below := by rw [hg]; exact X.here
  have hlocals9 : W9 + (maxL + 11) + (headSpec ws rm).room.locals ≤ R.locals := hlocals
  have happ : (headSpec ws rm).appliesLoose y e.platform (U.calling g mk a) = true :=
    Spec.appliesLoose_calling (g := g) h hdg hn hkY hinitY
      (X.room_calling (g := g) (R' := (headSpec ws rm).room) hsize hmY hcY hframes (by rw [hlY]; omega) h4 h5) h1
  obtain ⟨mid, hmid⟩ := h.above
  have hfr : (U.setTop g).frames = (.java g :: mid) ++ below := by rw [State.frames_setTop' g h.top, hmid]; rfl
  obtain ⟨o, s₂, hsteps, -, hend, hq⟩ := Steps.callFree hM p X.admits X.cas X.clock (acts := []) hfr happ hPc trivial
  have hq' : vx_Q Qc XC mc ms free a (U.calling g mk a) o s₂ := hq
  rw [State.frames_setTop' g h.top] at hend
  obtain ⟨g₀, hg0⟩ := Option.isSome_iff_exists.mp h.top
  obtain ⟨r, hr⟩ := State.topJava?_eq_some.mp hg0
  have hr' : (({ U with heap := s₂.heap, slotsUsed := s₂.slotsUsed } : State).setVm s₂.vm).frames = .java g₀ :: r := hr
  rcases hq' with ⟨hqc, L, hfe, hL⟩ | ⟨q, rfl, E, ce, L, hx, hce, hcv, hcl, hW₂, hsm, hL⟩
  · obtain ⟨⟨v, rfl⟩, hW₂, e2, q2, q3, q4, q5, q6⟩ := id hfe
    have e3 : s₂ = ({ (U.calling g mk a).setFrames s₂.frames with heap := s₂.heap, slotsUsed := s₂.slotsUsed } : State).setVm s₂.vm := by
      have : s₂ = ({ s₂ with vm := (U.calling g mk a).vm } : State).setVm s₂.vm := rfl
      rw [e2] at this
      exact this
    obtain ⟨c₂, i₂, len₂, hc₂, hd₂, hf₂⟩ := hend
    have hW' : U.WarmedH s₂.vm := hW₂
    have hcc : c₂ = c := by
      have h1 : s₂.code? g.method = U.code? g.method := by
        rw [State.code?_eq, State.code?_eq, hW'.alike.method?]
      exact Option.some.inj (hc₂.symm.trans (h1.trans h.code))
    subst hcc
    have hlen : len₂ = len := by rw [hdg] at hd₂; cases hd₂; rfl
    subst hlen
    have hs₂ : s₂ = (({ U with heap := s₂.heap, slotsUsed := s₂.slotsUsed } : State).setVm s₂.vm).setTop { g with pc := g.pc + len₂, stack := v.toList ++ g.stack } := by
      refine e3.trans ?_
      rw [hf₂, State.calling_eq h.top, State.setFrames_setFrames, State.setTop_of_frames _ hr', hr]
      rfl
    have hsame : U.sameButNew ({ U with heap := s₂.heap, slotsUsed := s₂.slotsUsed } : State) L mc ms := by
      refine ⟨?_, q2, q3, q4, q5, q6⟩
      obtain ⟨t, ht, -⟩ := State.frames_cons hr
      show ({ U with heap := s₂.heap, slotsUsed := s₂.slotsUsed } : State) = { U.setFrames U.frames with heap := s₂.heap, slotsUsed := s₂.slotsUsed }
      rw [State.setFrames_self ht]
    subst hg
    refine Or.inl ⟨v, ⟨(({ U with heap := s₂.heap, slotsUsed := s₂.slotsUsed } : State).setVm s₂.vm), Ls ++ L, c0 + mc, s0 + ms⟩,
      ⟨X.admits, X.cas, X.clock, X.frames, X.room, X.hears, X.method, X.code, (X.here.setHeapUsed s₂.heap s₂.slotsUsed).setVm hW'.alike, X.tail, State.WarmedH.trans X.warmed hW', X.limits, X.bytes, X.same.trans (hsame.setVm s.vm)⟩,
      ⟨g, mk, s₂, L, rfl, rfl, hqc, rfl, hL, rfl, rfl⟩, ?_⟩
    show Steps p.tables e below _ ((({ U with heap := s₂.heap, slotsUsed := s₂.slotsUsed } : State).setVm s₂.vm).setTop { g with pc := g.pc + len₂, stack := v.toList ++ g.stack })
    rw [← hs₂]
    exact hsteps
  · obtain ⟨e2, q2, q3, q4, q5, q6⟩ := id hsm
    have e3 : s₂ = ({ (U.calling g mk a).setFrames s₂.frames with heap := s₂.heap, slotsUsed := s₂.slotsUsed } : State).setVm s₂.vm := by
      have : s₂ = ({ s₂ with vm := (U.calling g mk a).vm } : State).setVm s₂.vm := rfl
      rw [e2] at this
      exact this
    have hf₂ : s₂.frames = .throwing q :: .java g :: U.frames.tail := hend
    have hW' : U.WarmedH s₂.vm := hW₂
    have hs₂ : s₂ = ((({ U with heap := s₂.heap, slotsUsed := s₂.slotsUsed } : State).setVm s₂.vm).setTop g).pushFrame (.throwing q) := by
      refine e3.trans ?_
      rw [hf₂, State.calling_eq h.top, State.setFrames_setFrames, State.pushFrame, State.frames_setTop _ hr', State.setTop_of_frames _ hr', State.setFrames_setFrames, hr]
      rfl
    have hsame : U.sameButNew ({ U with heap := s₂.heap, slotsUsed := s₂.slotsUsed } : State) L mc ms := by
      refine ⟨?_, q2, q3, q4, q5, q6⟩
      obtain ⟨t, ht, -⟩ := State.frames_cons hr
      show ({ U with heap := s₂.heap, slotsUsed := s₂.slotsUsed } : State) = { U.setFrames U.frames with heap := s₂.heap, slotsUsed := s₂.slotsUsed }
      rw [State.setFrames_self ht]
    subst hg
    refine Or.inr ⟨q, ⟨(({ U with heap := s₂.heap, slotsUsed := s₂.slotsUsed } : State).setVm s₂.vm), Ls ++ L, c0 + mc, s0 + ms⟩,
      ⟨X.admits, X.cas, X.clock, X.frames, X.room, X.hears, X.method, X.code, (X.here.setHeapUsed s₂.heap s₂.slotsUsed).setVm hW'.alike, X.tail, State.WarmedH.trans X.warmed hW', X.limits, X.bytes, X.same.trans (hsame.setVm s.vm)⟩,
      ⟨g, mk, s₂, L, E, ce, rfl, rfl, hx, hce, hcv, hcl, rfl, hL, rfl, rfl⟩, ?_⟩
    show Steps p.tables e below _ (((({ U with heap := s₂.heap, slotsUsed := s₂.slotsUsed } : State).setVm s₂.vm).setTop g).pushFrame (.throwing q))
    rw [← hs₂]
    exact hsteps
end
variable {p : Program} {l : Launch} {e : Env} {R : Room} {s : State} {m : MethodId} {args : Array Value} {below : List Frame} {meth : Method} {c : Code} {T : State} {H : Heap} {locs : List Loc} {cells slots : Nat}
theorem vx_callVX (X : Stand p l e R s m args below meth c T locs cells slots) (hexec : p.tables.exec = Jvm.exec) {own C : String} {index : Nat} {y : MethodName} {bytes : ByteArray} {maxL : Nat} {ret : Option FieldType} {hh : List (Nat × Nat × Nat × Nat)}
    (hown : s.vm.findClass own = some m.cls) (hlink : (Cond.methodLink own index y).before args s = true) (hinst : (Cond.instanceMethod y).before args s = true) (hsel : (Cond.selects C y y).before args s = true)
    (hcode : (Cond.codeWith y bytes maxL ret hh).before args s = true) (hy : y.cls ≠ "java/lang/invoke/MethodHandle" ∧ y.cls ≠ "java/lang/invoke/VarHandle")
    {W9 : Nat} {Pre : Pt → Array Value → Prop} {Post : Pt → Array Value → Option Value → Pt → Prop} {PostX : Pt → Array Value → Addr → Pt → Prop} (hK : vx_Back l R p e below s args y 3 W9 Pre Post PostX)
    {b : Addr} {cellB : Cell} (hcell : T.heap[b]? = some cellB) (hobj : cellB.vm.isStatics = false) (hcls : s.vm.findClass C = some cellB.cls)
    {g : JFrame} (hg : g.method = m) (hsize : g.locals.size = c.maxLocals) {argsL rest : List Value} (hlen : ∀ sig, parseMethodDescriptor y.desc = some sig → argsL.length = sig.parameters.length)
    (hstack : g.stack = argsL.reverse ++ .ref b :: rest) (hW : 2 * g.monitorRoom + (rest.map fun v => v.category).sum ≤ W9) (hdg : decode c.code g.pc = .ok (.invokevirtual index, 3))
    (hpre : ∀ vm₁, s.WarmedH vm₁ → Pre ⟨T.setVm vm₁, locs, cells, slots⟩ (Value.ref b :: argsL).toArray) :
    (∃ (v : Option Value) (vm₁ : Vm) (B : Pt), s.WarmedH vm₁ ∧ Stand p l e R s m args below meth c B.U B.locs B.cells B.slots ∧ Post ⟨T.setVm vm₁, locs, cells, slots⟩ (Value.ref b :: argsL).toArray v B ∧
      ∀ target, Steps p.tables e below (B.U.setTop { g with pc := g.pc + 3, stack := v.toList ++ rest }) target → Steps p.tables e below (T.setTop g) target) ∨
    (∃ (q : Addr) (vm₁ : Vm) (B : Pt), s.WarmedH vm₁ ∧ Stand p l e R s m args below meth c B.U B.locs B.cells B.slots ∧ PostX ⟨T.setVm vm₁, locs, cells, slots⟩ (Value.ref b :: argsL).toArray q B ∧
      Steps p.tables e below (T.setTop g) ((B.U.setTop { g with stack := rest }).pushFrame (.throwing q))) := by
  obtain ⟨mk, methM, hnamed, hmethM, hstM, habM⟩ := Cond.instanceMethod_spec hinst
  obtain ⟨m8, methM', cM, hn8, hmethM', -, -, -, -, -, -, hsigM⟩ := Cond.codeWith_spec hcode
  cases Option.some.inj (hn8.symm.trans hnamed)
  cases hmethM.symm.trans hmethM'
  obtain ⟨c2, r2, m2, q1, q2, q3, q4, kP, hkP, hkPi⟩ := Cond.selects_spec hsel
  cases hcls.symm.trans q1
  cases (State.methodFound?_of_named hnamed hy).symm.trans q2
  cases hnamed.symm.trans q3
  have hselP : selectMethod e.platform s.vm cellB.cls mk = .method mk := by rw [Launch.admits_selectMethod X.admits]; exact q4
  obtain ⟨vm₁, X₁, hstep₁⟩ := X.invokevirtual hexec hown hlink hnamed hmethM hstM hkP hkPi hy (a := b) (cell := cellB) hcell
    (fun z h => by rw [h] at hobj; cases hobj) hselP hmethM habM hkP hkPi (g := g) hg (argsL := argsL) (rest := rest) (hlen _ hsigM) hstack hdg
  rcases hK m meth c ⟨T.setVm vm₁, locs, cells, slots⟩ { g with stack := rest } (.invokevirtual index) mk (Value.ref b :: argsL).toArray X₁ hg hsize hdg hW (X₁.named hnamed) (hpre vm₁ X₁.warmed) with ⟨v, B, X', hpost, hsteps⟩ | ⟨q, B, X', hpost, hsteps⟩
  · exact Or.inl ⟨v, vm₁, B, X₁.warmed, X', hpost, fun target h => hstep₁ _ fun acts => by rw [doInvoke_state]; exact hsteps.trans h⟩
  · exact Or.inr ⟨q, vm₁, B, X₁.warmed, X', hpost, hstep₁ _ fun acts => by rw [doInvoke_state]; exact hsteps⟩
theorem vx_callSX (X : Stand p l e R s m args below meth c T locs cells slots) (hexec : p.tables.exec = Jvm.exec) {own : String} {index : Nat} {y : MethodName} {bytes : ByteArray} {maxL : Nat} {ret : Option FieldType} {hh : List (Nat × Nat × Nat × Nat)}
    (hown : s.vm.findClass own = some m.cls) (hlink : (Cond.methodLink own index y).before args s = true) (hstat : (Cond.static y).before args s = true) (hinit : (Cond.initialized y.cls).before args s = true)
    (hcode : (Cond.codeWith y bytes maxL ret hh).before args s = true) (hy : y.cls ≠ "java/lang/invoke/MethodHandle" ∧ y.cls ≠ "java/lang/invoke/VarHandle")
    {W9 : Nat} {Pre : Pt → Array Value → Prop} {Post : Pt → Array Value → Option Value → Pt → Prop} {PostX : Pt → Array Value → Addr → Pt → Prop} (hK : vx_Back l R p e below s args y 3 W9 Pre Post PostX)
    {g : JFrame} (hg : g.method = m) (hsize : g.locals.size = c.maxLocals) {argsL rest : List Value} (hlen : ∀ sig, parseMethodDescriptor y.desc = some sig → argsL.length = sig.parameters.length)
    (hstack : g.stack = argsL.reverse ++ rest) (hW : 2 * g.monitorRoom + (rest.map fun v => v.category).sum ≤ W9) (hdg : decode c.code g.pc = .ok (.invokestatic index, 3))
    (hpre : ∀ vm₁, s.WarmedH vm₁ → Pre ⟨T.setVm vm₁, locs, cells, slots⟩ argsL.toArray) :
    (∃ (v : Option Value) (vm₁ : Vm) (B : Pt), s.WarmedH vm₁ ∧ Stand p l e R s m args below meth c B.U B.locs B.cells B.slots ∧ Post ⟨T.setVm vm₁, locs, cells, slots⟩ argsL.toArray v B ∧
      ∀ target, Steps p.tables e below (B.U.setTop { g with pc := g.pc + 3, stack := v.toList ++ rest }) target → Steps p.tables e below (T.setTop g) target) ∨
    (∃ (q : Addr) (vm₁ : Vm) (B : Pt), s.WarmedH vm₁ ∧ Stand p l e R s m args below meth c B.U B.locs B.cells B.slots ∧ PostX ⟨T.setVm vm₁, locs, cells, slots⟩ argsL.toArray q B ∧
      Steps p.tables e below (T.setTop g) ((B.U.setTop { g with stack := rest }).pushFrame (.throwing q))) := by
  obtain ⟨mk, methM, cM, hnamed, hmethM, -, -, -, -, -, -, hsigM⟩ := Cond.codeWith_spec hcode
  have hstatic : methM.isStatic = true := Cond.static_spec hnamed hmethM hstat
  obtain ⟨kP, hkP, -⟩ := className_of_methodNamed hnamed
  have hinitP : kP.init = .initialized := Cond.initialized_spec (findClass_of_methodNamed hnamed) hkP hinit
  obtain ⟨vm₁, X₁, hstep₁⟩ := X.invokestatic hexec hown hlink hnamed hmethM hstatic hkP hinitP hy (g := g) hg (argsL := argsL) (rest := rest) (hlen _ hsigM) hstack hdg
  rcases hK m meth c ⟨T.setVm vm₁, locs, cells, slots⟩ { g with stack := rest } (.invokestatic index) mk argsL.toArray X₁ hg hsize hdg hW (X₁.named hnamed) (hpre vm₁ X₁.warmed) with ⟨v, B, X', hpost, hsteps⟩ | ⟨q, B, X', hpost, hsteps⟩
  · exact Or.inl ⟨v, vm₁, B, X₁.warmed, X', hpost, fun target h => hstep₁ _ fun acts => by rw [doInvoke_state]; exact hsteps.trans h⟩
  · exact Or.inr ⟨q, vm₁, B, X₁.warmed, X', hpost, hstep₁ _ fun acts => by rw [doInvoke_state]; exact hsteps⟩
theorem vx_callVW (X : Stand p l e R s m args below meth c T locs cells slots) (hexec : p.tables.exec = Jvm.exec) {own C : String} {index : Nat} {y : MethodName} {bytes : ByteArray} {maxL : Nat} {ret : Option FieldType} {hh : List (Nat × Nat × Nat × Nat)}
    (hown : s.vm.findClass own = some m.cls) (hlink : (Cond.methodLink own index y).before args s = true) (hinst : (Cond.instanceMethod y).before args s = true) (hsel : (Cond.selects C y y).before args s = true)
    (hcode : (Cond.codeWith y bytes maxL ret hh).before args s = true) (hy : y.cls ≠ "java/lang/invoke/MethodHandle" ∧ y.cls ≠ "java/lang/invoke/VarHandle")
    {W9 : Nat} {Pre : Pt → Array Value → Prop} {Post : Pt → Array Value → Option Value → Pt → Prop} (hK : Back l R p e below s args y 3 W9 Pre Post)
    {b : Addr} {cellB : Cell} (hcell : T.heap[b]? = some cellB) (hobj : cellB.vm.isStatics = false) (hcls : s.vm.findClass C = some cellB.cls)
    {g : JFrame} (hg : g.method = m) (hsize : g.locals.size = c.maxLocals) {argsL rest : List Value} (hlen : ∀ sig, parseMethodDescriptor y.desc = some sig → argsL.length = sig.parameters.length)
    (hstack : g.stack = argsL.reverse ++ .ref b :: rest) (hW : 2 * g.monitorRoom + (rest.map fun v => v.category).sum ≤ W9) (hdg : decode c.code g.pc = .ok (.invokevirtual index, 3))
    (hpre : ∀ vm₁, s.WarmedH vm₁ → Pre ⟨T.setVm vm₁, locs, cells, slots⟩ (Value.ref b :: argsL).toArray) :
    ∃ (v : Option Value) (vm₁ : Vm) (B : Pt), s.WarmedH vm₁ ∧ Stand p l e R s m args below meth c B.U B.locs B.cells B.slots ∧ Post ⟨T.setVm vm₁, locs, cells, slots⟩ (Value.ref b :: argsL).toArray v B ∧
      ∀ target, Steps p.tables e below (B.U.setTop { g with pc := g.pc + 3, stack := v.toList ++ rest }) target → Steps p.tables e below (T.setTop g) target := by
  obtain ⟨mk, methM, hnamed, hmethM, hstM, habM⟩ := Cond.instanceMethod_spec hinst
  obtain ⟨m8, methM', cM, hn8, hmethM', -, -, -, -, -, -, hsigM⟩ := Cond.codeWith_spec hcode
  cases Option.some.inj (hn8.symm.trans hnamed)
  cases hmethM.symm.trans hmethM'
  obtain ⟨c2, r2, m2, q1, q2, q3, q4, kP, hkP, hkPi⟩ := Cond.selects_spec hsel
  cases hcls.symm.trans q1
  cases (State.methodFound?_of_named hnamed hy).symm.trans q2
  cases hnamed.symm.trans q3
  have hselP : selectMethod e.platform s.vm cellB.cls mk = .method mk := by rw [Launch.admits_selectMethod X.admits]; exact q4
  obtain ⟨vm₁, X₁, hstep₁⟩ := X.invokevirtual hexec hown hlink hnamed hmethM hstM hkP hkPi hy (a := b) (cell := cellB) hcell
    (fun z h => by rw [h] at hobj; cases hobj) hselP hmethM habM hkP hkPi (g := g) hg (argsL := argsL) (rest := rest) (hlen _ hsigM) hstack hdg
  obtain ⟨v, B, X', hpost, hsteps⟩ := hK m meth c ⟨T.setVm vm₁, locs, cells, slots⟩ { g with stack := rest } (.invokevirtual index) mk (Value.ref b :: argsL).toArray X₁ hg hsize hdg hW (X₁.named hnamed) (hpre vm₁ X₁.warmed)
  exact ⟨v, vm₁, B, X₁.warmed, X', hpost, fun target h => hstep₁ _ fun acts => by rw [doInvoke_state]; exact hsteps.trans h⟩
abbrev vx_CVW (R : Room) (s : State) (args : Array Value) (own C : String) (index : Nat) (y : MethodName) (bytes : ByteArray) (maxL : Nat) (ret : Option FieldType) (hh : List (Nat × Nat × Nat × Nat)) (ws : List Cond) (rm : Room) (mc ms n : Nat) : Prop :=
  (rm.cells = mc ∧ rm.slots = ms ∧ rm.frames + 1 ≤ R.frames ∧ 8 + (maxL + 11) + rm.locals ≤ R.locals ∧ (∀ w ∈ ws, ∀ (a' : Array Value) (U : State), s.WarmedH U.vm → w.before a' U = true) ∧ Cond.codeWith y bytes maxL ret hh ∈ ws) ∧
  (Cond.codeWith y bytes maxL ret hh).before args s = true ∧ (Cond.initialized y.cls).before args s = true ∧ (y.cls ≠ "java/lang/invoke/MethodHandle" ∧ y.cls ≠ "java/lang/invoke/VarHandle") ∧
  (∀ sig, parseMethodDescriptor y.desc = some sig → n = sig.parameters.length) ∧ (Cond.methodLink own index y).before args s = true ∧ (Cond.instanceMethod y).before args s = true ∧ (Cond.selects C y y).before args s = true
theorem vx_cwVW {own C : String} {index maxL mc ms : Nat} {y : MethodName} {bytes : ByteArray} {ret : Option FieldType} {hh : List (Nat × Nat × Nat × Nat)} {Ts ws ws' : List Cond} {rm : Room} (n : Nat) (ht : ∀ w ∈ Ts, w.before args s = true) (hT : GoodIn Ts (wsV own index C y ws)) (hw : ws = Cond.codeWith y bytes maxL ret hh :: ws') (hrc : rm.cells = mc) (hrs : rm.slots = ms)
    (hd : y.cls = C ∧ y.cls ≠ "java/lang/invoke/MethodHandle" ∧ y.cls ≠ "java/lang/invoke/VarHandle" ∧ (parseMethodDescriptor y.desc).map (fun d => d.parameters.length) = some n) (hR : rm.frames + 1 ≤ R.frames ∧ 8 + (maxL + 11) + rm.locals ≤ R.locals) :
    vx_CVW R s args own C index y bytes maxL ret hh ws rm mc ms n := by
  obtain ⟨hC, hd⟩ := hd
  subst hC
  have ok : ∀ w ∈ wsV own index y.cls y ws, w.before args s = true := fun w h => ht w (hT w h).1
  have hG : GoodIn Ts ws := fun w h => hT w (by unfold wsV; exact List.mem_append_right _ h)
  have hc : Cond.codeWith y bytes maxL ret hh ∈ ws := by rw [hw]; exact List.mem_cons_self
  refine ⟨⟨hrc, hrs, hR.1, hR.2, pay_in ht hG, hc⟩, ht _ (hG _ hc).1, ok _ (by simp [wsV]), ⟨hd.1, hd.2.1⟩, fun sig h => ?_, ok _ (by simp [wsV]), ok _ (by simp [wsV]), ok _ (by simp [wsV])⟩
  have h2 := hd.2.2
  rw [h] at h2
  exact (Option.some.inj h2).symm
theorem vx_runVW {y : MethodName} {bytes cc : ByteArray} {maxL nL mc ms n index : Nat} {ret : Option FieldType} {hh : List (Nat × Nat × Nat × Nat)} {ws : List Cond} {rm : Room} {Pc : Array Value → State → Prop} {Qc : Array Value → State → Outcome → State → Prop} {free : Addr → Prop} {Ts : List Cond} {own C : String} {b : Addr} {As rest : List Value} {g : JFrame}
    (S : CallFix p m c cc nL s args Ts own) (hM : Met l y ws rm Pc Qc mc ms free) (cw : vx_CVW R s args own C index y bytes maxL ret hh ws rm mc ms n) (hp : PreV s H C b Pc As)
    (hg : g.method = m) (hn : As.length = n) (hsize : g.locals.size = nL) (hstack : g.stack = As.reverse ++ .ref b :: rest) (hW : 2 * g.monitorRoom + (rest.map fun v => v.category).sum ≤ 8) (hdg : decode cc g.pc = .ok (.invokevirtual index, 3)) (hf : cells + mc ≤ R.cells ∧ slots + ms ≤ R.slots) :
    va_Run p l e R s m args below meth c H locs cells slots mc ms g rest (Qc (Value.ref b :: As).toArray) free := by
  obtain ⟨⟨hrc, hrs, hfr, hlo, hws, hcw⟩, hcode, hini, hy, hlen, hl, hin, hse⟩ := cw
  have hK : Back l R p e below s args y 3 8 (PreOf R mc ms Pc) (PostOf Qc mc ms free) := va_backW (hh := hh) (bytes := bytes) (maxL := maxL) (ret := ret) hM hp.1 hrc hrs hfr hlo hws hcw (fun a' U hW => word_at hW (Or.inl (by first | rfl | simp [Cond.onTables, Cond.keeps, Cond.steady])) hini)
  obtain ⟨hx, hb, hml, ho, -⟩ := S
  obtain ⟨-, ⟨cellB, hcB, hoB, hclB⟩, hPc⟩ := hp
  intro T hT X
  obtain ⟨v, vm₁, ⟨U', l2, c2, s2⟩, hW₁, X', ⟨g', mk, t, L, e1, e2, hq, h1, hL, h2, h3⟩, st⟩ := vx_callVW X hx (C := C) (hh := hh) (bytes := bytes) (maxL := maxL) (ret := ret) ho hl hin hse hcode hy hK (by rw [hT]; exact hcB) hoB hclB hg (hsize.trans hml.symm) (argsL := As) (rest := rest) (fun sig h => hn.trans (hlen sig h)) hstack hW (by rw [hb]; exact hdg)
    (fun vm₁ hW₁ => ⟨hf.1, hf.2, hPc (T.setVm vm₁) hT hW₁⟩)
  dsimp only [Pt.U, Pt.locs, Pt.cells, Pt.slots] at X' e1 e2 h1 h2 h3 st
  subst h1; subst h2; subst h3
  exact ⟨v, (T.setVm vm₁).calling g' mk (Value.ref b :: As).toArray, t, U', L, hT, X', hL, e1, e2, hq, st⟩
section
variable {y : MethodName} {bytes cc : ByteArray} {maxL nL mc ms n index : Nat} {ret : Option FieldType} {ws : List Cond} {rm : Room} {Pc : Array Value → State → Prop} {Qc : Array Value → State → Outcome → State → Prop} {XC : String → State → State → Prop} {free : Addr → Prop} {Ts : List Cond} {own C : String} {b : Addr} {As rest : List Value} {g : JFrame}
theorem vx_runVX {hh : List (Nat × Nat × Nat × Nat)} (S : CallFix p m c cc nL s args Ts own) (hM : vx_Met l y ws rm Pc Qc XC mc ms free) (cw : vx_CVW R s args own C index y bytes maxL ret hh ws rm mc ms n) (hp : PreV s H C b Pc As)
    (hg : g.method = m) (hn : As.length = n) (hsize : g.locals.size = nL) (hstack : g.stack = As.reverse ++ .ref b :: rest) (hW : 2 * g.monitorRoom + (rest.map fun v => v.category).sum ≤ 8) (hdg : decode cc g.pc = .ok (.invokevirtual index, 3)) (hf : cells + mc ≤ R.cells ∧ slots + ms ≤ R.slots) :
    vx_Run p l e R s m args below meth c H locs cells slots mc ms g rest (Qc (Value.ref b :: As).toArray) XC free := by
  obtain ⟨⟨hrc, hrs, hfr, hlo, hws, hcw⟩, hcode, hini, hy, hlen, hl, hin, hse⟩ := cw
  have hK : vx_Back l R p e below s args y 3 8 (PreOf R mc ms Pc) (PostOf Qc mc ms free) (vx_Post XC mc ms free) := vx_backW (hh := hh) (bytes := bytes) (maxL := maxL) (ret := ret) hM hp.1 hrc hrs hfr hlo hws hcw (fun a' U hW => word_at hW (Or.inl (by first | rfl | simp [Cond.onTables, Cond.keeps, Cond.steady])) hini)
  obtain ⟨hx, hb, hml, ho, -⟩ := S
  obtain ⟨-, ⟨cellB, hcB, hoB, hclB⟩, hPc⟩ := hp
  intro T hT X
  rcases vx_callVX X hx (C := C) (hh := hh) (bytes := bytes) (maxL := maxL) (ret := ret) ho hl hin hse hcode hy hK (by rw [hT]; exact hcB) hoB hclB hg (hsize.trans hml.symm) (argsL := As) (rest := rest) (fun sig h => hn.trans (hlen sig h)) hstack hW (by rw [hb]; exact hdg)
    (fun vm₁ hW₁ => ⟨hf.1, hf.2, hPc (T.setVm vm₁) hT hW₁⟩) with ⟨v, vm₁, ⟨U', l2, c2, s2⟩, hW₁, X', ⟨g', mk, t, L, e1, e2, hq, h1, hL, h2, h3⟩, st⟩ | ⟨q, vm₁, ⟨U', l2, c2, s2⟩, hW₁, X', ⟨g', mk, t, L, E, ce, e1, e2, hq, hce, hcv, hcl, h1, hL, h2, h3⟩, st⟩
  · dsimp only [Pt.U, Pt.locs, Pt.cells, Pt.slots] at X' e1 e2 h1 h2 h3 st
    subst h1; subst h2; subst h3
    exact Or.inl ⟨v, (T.setVm vm₁).calling g' mk (Value.ref b :: As).toArray, t, U', L, hT, X', hL, e1, e2, hq, st⟩
  · dsimp only [Pt.U, Pt.locs, Pt.cells, Pt.slots] at X' e1 e2 h1 h2 h3 st hcl
    subst h1; subst h2; subst h3
    exact Or.inr ⟨q, (T.setVm vm₁).calling g' mk (Value.ref b :: As).toArray, t, U', L, E, ce, hT, X', hL, e1, e2, hq, hce, hcv, vx_cls hW₁ hcl, st⟩
theorem vx_runSX {hh : List (Nat × Nat × Nat × Nat)} (S : CallFix p m c cc nL s args Ts own) (hM : vx_Met l y ws rm Pc Qc XC mc ms free) (cw : vx_CSW R s args own index y bytes maxL ret hh ws rm mc ms n) (hp : PreS s H Pc As)
    (hg : g.method = m) (hn : As.length = n) (hsize : g.locals.size = nL) (hstack : g.stack = As.reverse ++ rest) (hW : 2 * g.monitorRoom + (rest.map fun v => v.category).sum ≤ 8) (hdg : decode cc g.pc = .ok (.invokestatic index, 3)) (hf : cells + mc ≤ R.cells ∧ slots + ms ≤ R.slots) :
    vx_Run p l e R s m args below meth c H locs cells slots mc ms g rest (Qc As.toArray) XC free := by
  obtain ⟨⟨hrc, hrs, hfr, hlo, hws, hcw⟩, hcode, hini, hy, hlen, hl, hstt⟩ := cw
  have hK : vx_Back l R p e below s args y 3 8 (PreOf R mc ms Pc) (PostOf Qc mc ms free) (vx_Post XC mc ms free) := vx_backW (hh := hh) (bytes := bytes) (maxL := maxL) (ret := ret) hM hp.1 hrc hrs hfr hlo hws hcw (fun a' U hW => word_at hW (Or.inl (by first | rfl | simp [Cond.onTables, Cond.keeps, Cond.steady])) hini)
  obtain ⟨hx, hb, hml, ho, -⟩ := S
  intro T hT X
  rcases vx_callSX X hx (hh := hh) (bytes := bytes) (maxL := maxL) (ret := ret) ho hl hstt hini hcode hy hK hg (hsize.trans hml.symm) (argsL := As) (rest := rest) (fun sig h => hn.trans (hlen sig h)) hstack hW (by rw [hb]; exact hdg)
    (fun vm₁ hW₁ => ⟨hf.1, hf.2, hp.2 (T.setVm vm₁) hT hW₁⟩) with ⟨v, vm₁, ⟨U', l2, c2, s2⟩, hW₁, X', ⟨g', mk, t, L, e1, e2, hq, h1, hL, h2, h3⟩, st⟩ | ⟨q, vm₁, ⟨U', l2, c2, s2⟩, hW₁, X', ⟨g', mk, t, L, E, ce, e1, e2, hq, hce, hcv, hcl, h1, hL, h2, h3⟩, st⟩
  · dsimp only [Pt.U, Pt.locs, Pt.cells, Pt.slots] at X' e1 e2 h1 h2 h3 st
    subst h1; subst h2; subst h3
    exact Or.inl ⟨v, (T.setVm vm₁).calling g' mk As.toArray, t, U', L, hT, X', hL, e1, e2, hq, st⟩
  · dsimp only [Pt.U, Pt.locs, Pt.cells, Pt.slots] at X' e1 e2 h1 h2 h3 st hcl
    subst h1; subst h2; subst h3
    exact Or.inr ⟨q, (T.setVm vm₁).calling g' mk As.toArray, t, U', L, E, ce, hT, X', hL, e1, e2, hq, hce, hcv, vx_cls hW₁ hcl, st⟩
end
end VXH
theorem vx_ofWH {l : Launch} {y : MethodName} {ws ws' : List Cond} {rm : Room} {Pc : Array Value → State → Prop} {Qc : Array Value → State → Outcome → State → Prop} {XC : String → State → State → Prop} {mc ms : Nat} {free : Addr → Prop} {cc : ByteArray} {maxL : Nat} {ret : Option FieldType} {hh : List (Nat × Nat × Nat × Nat)}
    (hy : plainName y.cls = true) (hw : ws = Cond.codeWith y cc maxL ret hh :: ws')
    (body : ∀ p e s m args below meth c s₁, BodyLoose p l y (headSpec ws rm) cc maxL ret e s m args below meth c s₁ → c.maxLocals = maxL → Pc args s →
      W p l e (headSpec ws rm).room s m args below meth c s.heap [] 0 0 (vx_MQ below Qc XC args s mc ms free) (entryFrame m args maxL)) : vx_Met l y ws rm Pc Qc XC mc ms free := by
  refine MetFree.of_bodyS (code := cc) (maxLocals := maxL) (ret := ret) hy ?_ ?_
  · intro args s m h hn
    obtain ⟨m9, meth, c, hn9, h1, h2, h3, h4, -, h5, h6, -⟩ := Cond.codeWith_spec (atoms_spec (ws := ws) h _ (by rw [hw]; exact List.mem_cons_self))
    cases hn.symm.trans hn9
    exact ⟨meth, c, h1, h2, h3, h4, h5, h6⟩
  · intro p e s m args below meth c s₁ B hml hP _
    have hh0 : s₁.heap = s.heap := by rw [B.state]; rfl
    obtain ⟨t, a1, o, b1, b2, b3⟩ := body p e s m args below meth c s₁ B hml hP s₁ hh0 (Stand.of_body B)
    exact ⟨t, o, a1, b1, b2, b3⟩
/-! ===== END ===== -/

/-! ===== BEGIN printed: names, fields, word lists, decode rows ===== -/
def RX0 : String := "SundialTreaty$Book"
def TX0 : u_T := fun k => match k with
  | 0 => ("SundialTreaty$Book", "acts", "[I", true)
  | 1 => ("SundialTreaty$Book", "towns", "[I", true)
  | 2 => ("SundialTreaty$Book", "numbers", "[I", true)
  | 3 => ("SundialTreaty$Book", "lines", "I", false)
  | 4 => ("SundialTreaty$Book", "judged", "Z", false)
  | 5 => ("SundialTreaty$Book", "wrongLine", "I", false)
  | 6 => ("SundialTreaty$Book", "why", "I", false)
  | 7 => ("SundialTreaty$Book", "goodLines", "I", false)
  | 8 => ("SundialTreaty$Book", "dayThen", "I", false)
  | _ => ("SundialTreaty$Book", "breachesThen", "I", false)
def tyX0 : Nat → FieldType := fun k => match k with
  | 0 => .array .int
  | 1 => .array .int
  | 2 => .array .int
  | 3 => .int
  | 4 => .boolean
  | 5 => .int
  | 6 => .int
  | 7 => .int
  | 8 => .int
  | _ => .int
abbrev wsX00 : List Cond := u_ws RX0 TX0 10
theorem nmX0 : ∀ a, a < 10 → ∀ b, b < 10 → a ≠ b → (TX0 a).2.1 ≠ (TX0 b).2.1 := by decide +kernel
theorem tyX0_ok : ∀ k, k < 10 → parseFieldDescriptor (TX0 k).2.2.1 = some (tyX0 k) := by decide +kernel
abbrev cX0_init : ByteArray := prog_2_method_1_code
def yX0_init : MethodName := ⟨RX0, "<init>", "()V"⟩
abbrev cX0_read : ByteArray := prog_2_method_2_code
def yX0_read : MethodName := ⟨RX0, "read", "(LSundialTreaty$Valley;LSundialTreaty$Reader;)Z"⟩
abbrev cX0_isAct : ByteArray := prog_2_method_3_code
def yX0_isAct : MethodName := ⟨RX0, "isAct", "(I)Z"⟩
abbrev cX0_readLine : ByteArray := prog_2_method_4_code
def yX0_readLine : MethodName := ⟨RX0, "readLine", "(LSundialTreaty$Valley;LSundialTreaty$Reader;)Z"⟩
abbrev cX0_judge : ByteArray := prog_2_method_5_code
def yX0_judge : MethodName := ⟨RX0, "judge", "(LSundialTreaty$Valley;LSundialTreaty$State;)V"⟩
abbrev cX0_live : ByteArray := prog_2_method_6_code
def yX0_live : MethodName := ⟨RX0, "live", "(LSundialTreaty$Valley;LSundialTreaty$State;I)I"⟩
abbrev cX0_liveBend : ByteArray := prog_2_method_7_code
def yX0_liveBend : MethodName := ⟨RX0, "liveBend", "(LSundialTreaty$Valley;LSundialTreaty$State;II)I"⟩
abbrev cX0_liveShade : ByteArray := prog_2_method_8_code
def yX0_liveShade : MethodName := ⟨RX0, "liveShade", "(LSundialTreaty$State;I)I"⟩
abbrev cX0_liveClear : ByteArray := prog_2_method_9_code
def yX0_liveClear : MethodName := ⟨RX0, "liveClear", "(LSundialTreaty$State;I)I"⟩
abbrev cX0_liveDays : ByteArray := prog_2_method_10_code
def yX0_liveDays : MethodName := ⟨RX0, "liveDays", "(LSundialTreaty$Valley;LSundialTreaty$State;I)I"⟩
def RX1 : String := "SundialTreaty$History"
def TX1 : u_T := fun k => match k with
  | 0 => ("SundialTreaty$History", "states", "[LSundialTreaty$State;", true)
  | _ => ("SundialTreaty$History", "kept", "I", false)
def tyX1 : Nat → FieldType := fun k => match k with
  | 0 => .array (.object "SundialTreaty$State")
  | _ => .int
abbrev wsX10 : List Cond := u_ws RX1 TX1 2
theorem nmX1 : ∀ a, a < 2 → ∀ b, b < 2 → a ≠ b → (TX1 a).2.1 ≠ (TX1 b).2.1 := by decide +kernel
theorem tyX1_ok : ∀ k, k < 2 → parseFieldDescriptor (TX1 k).2.2.1 = some (tyX1 k) := by decide +kernel
abbrev cX1_init : ByteArray := prog_3_method_1_code
def yX1_init : MethodName := ⟨RX1, "<init>", "()V"⟩
abbrev cX1_keep : ByteArray := prog_3_method_2_code
def yX1_keep : MethodName := ⟨RX1, "keep", "(LSundialTreaty$State;)V"⟩
abbrev cX1_takeBack : ByteArray := prog_3_method_3_code
def yX1_takeBack : MethodName := ⟨RX1, "takeBack", "(LSundialTreaty$State;)I"⟩
def RX2 : String := "SundialTreaty$Image"
def TX2 : u_T := fun k => match k with
  | 0 => ("SundialTreaty$Image", "land", "LSundialTreaty$Valley;", true)
  | 1 => ("SundialTreaty$Image", "state", "LSundialTreaty$State;", true)
  | 2 => ("SundialTreaty$Image", "saying", "LSundialTreaty$Sentence;", true)
  | _ => ("SundialTreaty$Image", "isKept", "Z", false)
def tyX2 : Nat → FieldType := fun k => match k with
  | 0 => .object "SundialTreaty$Valley"
  | 1 => .object "SundialTreaty$State"
  | 2 => .object "SundialTreaty$Sentence"
  | _ => .boolean
abbrev wsX20 : List Cond := u_ws RX2 TX2 4
theorem nmX2 : ∀ a, a < 4 → ∀ b, b < 4 → a ≠ b → (TX2 a).2.1 ≠ (TX2 b).2.1 := by decide +kernel
theorem tyX2_ok : ∀ k, k < 4 → parseFieldDescriptor (TX2 k).2.2.1 = some (tyX2 k) := by decide +kernel
abbrev cX2_init : ByteArray := prog_4_method_1_code
def yX2_init : MethodName := ⟨RX2, "<init>", "()V"⟩
def RX3 : String := "SundialTreaty$Motto"
def TX3 : u_T := fun k => match k with
  | 0 => ("SundialTreaty$Motto", "bytes", "[I", true)
  | _ => ("SundialTreaty$Motto", "size", "I", false)
def tyX3 : Nat → FieldType := fun k => match k with
  | 0 => .array .int
  | _ => .int
abbrev wsX30 : List Cond := u_ws RX3 TX3 2
theorem nmX3 : ∀ a, a < 2 → ∀ b, b < 2 → a ≠ b → (TX3 a).2.1 ≠ (TX3 b).2.1 := by decide +kernel
theorem tyX3_ok : ∀ k, k < 2 → parseFieldDescriptor (TX3 k).2.2.1 = some (tyX3 k) := by decide +kernel
abbrev cX3_init : ByteArray := prog_5_method_1_code
def yX3_init : MethodName := ⟨RX3, "<init>", "()V"⟩
abbrev cX3_write : ByteArray := prog_5_method_2_code
def yX3_write : MethodName := ⟨RX3, "write", "(JIZ)V"⟩
abbrev cX3_putMinutes : ByteArray := prog_5_method_3_code
def yX3_putMinutes : MethodName := ⟨RX3, "putMinutes", "(I)V"⟩
abbrev cX3_put : ByteArray := prog_5_method_4_code
def yX3_put : MethodName := ⟨RX3, "put", "(Ljava/lang/String;)V"⟩
abbrev cX3_put_ : ByteArray := prog_5_method_5_code
def yX3_put_ : MethodName := ⟨RX3, "put", "(I)V"⟩
def RX4 : String := "SundialTreaty$Reader"
def TX4 : u_T := fun k => match k with
  | 0 => ("SundialTreaty$Reader", "bytes", "[I", true)
  | 1 => ("SundialTreaty$Reader", "size", "I", false)
  | 2 => ("SundialTreaty$Reader", "most", "I", false)
  | 3 => ("SundialTreaty$Reader", "pos", "I", false)
  | 4 => ("SundialTreaty$Reader", "start", "I", false)
  | 5 => ("SundialTreaty$Reader", "kind", "I", false)
  | 6 => ("SundialTreaty$Reader", "letters", "J", false)
  | 7 => ("SundialTreaty$Reader", "digits", "I", false)
  | 8 => ("SundialTreaty$Reader", "word", "I", false)
  | 9 => ("SundialTreaty$Reader", "value", "I", false)
  | 10 => ("SundialTreaty$Reader", "name", "J", false)
  | 11 => ("SundialTreaty$Reader", "way", "I", false)
  | 12 => ("SundialTreaty$Reader", "faultKind", "I", false)
  | 13 => ("SundialTreaty$Reader", "faultPlace", "I", false)
  | _ => ("SundialTreaty$Reader", "wordLetters", "[J", true)
def tyX4 : Nat → FieldType := fun k => match k with
  | 0 => .array .int
  | 1 => .int
  | 2 => .int
  | 3 => .int
  | 4 => .int
  | 5 => .int
  | 6 => .long
  | 7 => .int
  | 8 => .int
  | 9 => .int
  | 10 => .long
  | 11 => .int
  | 12 => .int
  | 13 => .int
  | _ => .array .long
abbrev wsX40 : List Cond := u_ws RX4 TX4 15
theorem nmX4 : ∀ a, a < 15 → ∀ b, b < 15 → a ≠ b → (TX4 a).2.1 ≠ (TX4 b).2.1 := by decide +kernel
theorem tyX4_ok : ∀ k, k < 15 → parseFieldDescriptor (TX4 k).2.2.1 = some (tyX4 k) := by decide +kernel
abbrev cX4_init : ByteArray := prog_6_method_1_code
def yX4_init : MethodName := ⟨RX4, "<init>", "()V"⟩
abbrev cX4_put : ByteArray := prog_6_method_2_code
def yX4_put : MethodName := ⟨RX4, "put", "(I)V"⟩
abbrev cX4_begin : ByteArray := prog_6_method_3_code
def yX4_begin : MethodName := ⟨RX4, "begin", "(I)V"⟩
abbrev cX4_next : ByteArray := prog_6_method_4_code
def yX4_next : MethodName := ⟨RX4, "next", "()V"⟩
abbrev cX4_readRun : ByteArray := prog_6_method_5_code
def yX4_readRun : MethodName := ⟨RX4, "readRun", "()V"⟩
abbrev cX4_toldWord : ByteArray := prog_6_method_6_code
def yX4_toldWord : MethodName := ⟨RX4, "toldWord", "()I"⟩
abbrev cX4_isSign : ByteArray := prog_6_method_7_code
def yX4_isSign : MethodName := ⟨RX4, "isSign", "(I)Z"⟩
abbrev cX4_failAs : ByteArray := prog_6_method_8_code
def yX4_failAs : MethodName := ⟨RX4, "failAs", "(I)Z"⟩
abbrev cX4_atEnd : ByteArray := prog_6_method_9_code
def yX4_atEnd : MethodName := ⟨RX4, "atEnd", "()Z"⟩
abbrev cX4_takeSign : ByteArray := prog_6_method_10_code
def yX4_takeSign : MethodName := ⟨RX4, "takeSign", "(I)Z"⟩
abbrev cX4_takeNumber : ByteArray := prog_6_method_11_code
def yX4_takeNumber : MethodName := ⟨RX4, "takeNumber", "(II)Z"⟩
abbrev cX4_takeWay : ByteArray := prog_6_method_12_code
def yX4_takeWay : MethodName := ⟨RX4, "takeWay", "()Z"⟩
abbrev cX4_isName : ByteArray := prog_6_method_13_code
def yX4_isName : MethodName := ⟨RX4, "isName", "()Z"⟩
abbrev cX4_takeNewName : ByteArray := prog_6_method_14_code
def yX4_takeNewName : MethodName := ⟨RX4, "takeNewName", "(LSundialTreaty$Valley;)Z"⟩
abbrev cX4_takeTown : ByteArray := prog_6_method_15_code
def yX4_takeTown : MethodName := ⟨RX4, "takeTown", "(LSundialTreaty$Valley;I)Z"⟩
def RX5 : String := "SundialTreaty$Router"
def TX5 : u_T := fun k => match k with
  | 0 => ("SundialTreaty$Router", "path", "[I", true)
  | 1 => ("SundialTreaty$Router", "told", "[I", true)
  | 2 => ("SundialTreaty$Router", "toldTrains", "I", false)
  | 3 => ("SundialTreaty$Router", "best", "I", false)
  | _ => ("SundialTreaty$Router", "goal", "I", false)
def tyX5 : Nat → FieldType := fun k => match k with
  | 0 => .array .int
  | 1 => .array .int
  | 2 => .int
  | 3 => .int
  | _ => .int
abbrev wsX50 : List Cond := u_ws RX5 TX5 5
theorem nmX5 : ∀ a, a < 5 → ∀ b, b < 5 → a ≠ b → (TX5 a).2.1 ≠ (TX5 b).2.1 := by decide +kernel
theorem tyX5_ok : ∀ k, k < 5 → parseFieldDescriptor (TX5 k).2.2.1 = some (tyX5 k) := by decide +kernel
abbrev cX5_init : ByteArray := prog_7_method_1_code
def yX5_init : MethodName := ⟨RX5, "<init>", "()V"⟩
abbrev cX5_find : ByteArray := prog_7_method_2_code
def yX5_find : MethodName := ⟨RX5, "find", "(LSundialTreaty$Valley;LSundialTreaty$State;III)I"⟩
abbrev cX5_search : ByteArray := prog_7_method_3_code
def yX5_search : MethodName := ⟨RX5, "search", "(LSundialTreaty$Valley;LSundialTreaty$State;III)V"⟩
abbrev cX5_takeIfBetter : ByteArray := prog_7_method_4_code
def yX5_takeIfBetter : MethodName := ⟨RX5, "takeIfBetter", "(II)V"⟩
def RX6 : String := "SundialTreaty$Sentence"
def TX6 : u_T := fun k => match k with
  | 0 => ("SundialTreaty$Sentence", "steps", "[I", true)
  | 1 => ("SundialTreaty$Sentence", "signs", "[I", true)
  | 2 => ("SundialTreaty$Sentence", "numbers", "[I", true)
  | 3 => ("SundialTreaty$Sentence", "size", "I", false)
  | _ => ("SundialTreaty$Sentence", "ones", "I", false)
def tyX6 : Nat → FieldType := fun k => match k with
  | 0 => .array .int
  | 1 => .array .int
  | 2 => .array .int
  | 3 => .int
  | _ => .int
abbrev wsX60 : List Cond := u_ws RX6 TX6 5
theorem nmX6 : ∀ a, a < 5 → ∀ b, b < 5 → a ≠ b → (TX6 a).2.1 ≠ (TX6 b).2.1 := by decide +kernel
theorem tyX6_ok : ∀ k, k < 5 → parseFieldDescriptor (TX6 k).2.2.1 = some (tyX6 k) := by decide +kernel
abbrev cX6_init : ByteArray := prog_8_method_1_code
def yX6_init : MethodName := ⟨RX6, "<init>", "()V"⟩
abbrev cX6_copyFrom : ByteArray := prog_8_method_2_code
def yX6_copyFrom : MethodName := ⟨RX6, "copyFrom", "(LSundialTreaty$Sentence;)V"⟩
abbrev cX6_read : ByteArray := prog_8_method_3_code
def yX6_read : MethodName := ⟨RX6, "read", "(LSundialTreaty$Valley;LSundialTreaty$Reader;)Z"⟩
abbrev cX6_readCond : ByteArray := prog_8_method_4_code
def yX6_readCond : MethodName := ⟨RX6, "readCond", "(LSundialTreaty$Valley;LSundialTreaty$Reader;I)Z"⟩
abbrev cX6_readAll : ByteArray := prog_8_method_5_code
def yX6_readAll : MethodName := ⟨RX6, "readAll", "(LSundialTreaty$Valley;LSundialTreaty$Reader;I)Z"⟩
abbrev cX6_readOne : ByteArray := prog_8_method_6_code
def yX6_readOne : MethodName := ⟨RX6, "readOne", "(LSundialTreaty$Valley;LSundialTreaty$Reader;I)Z"⟩
abbrev cX6_beginsOne : ByteArray := prog_8_method_7_code
def yX6_beginsOne : MethodName := ⟨RX6, "beginsOne", "(I)Z"⟩
abbrev cX6_readPlain : ByteArray := prog_8_method_8_code
def yX6_readPlain : MethodName := ⟨RX6, "readPlain", "(LSundialTreaty$Valley;LSundialTreaty$Reader;I)Z"⟩
abbrev cX6_addStep : ByteArray := prog_8_method_9_code
def yX6_addStep : MethodName := ⟨RX6, "addStep", "(III)V"⟩
abbrev cX6_holds : ByteArray := prog_8_method_10_code
def yX6_holds : MethodName := ⟨RX6, "holds", "(LSundialTreaty$Valley;LSundialTreaty$State;I)Z"⟩
abbrev cX6_plainHolds : ByteArray := prog_8_method_11_code
def yX6_plainHolds : MethodName := ⟨RX6, "plainHolds", "(LSundialTreaty$Valley;LSundialTreaty$State;II)Z"⟩
abbrev cX6_compares : ByteArray := prog_8_method_12_code
def yX6_compares : MethodName := ⟨RX6, "compares", "(II)Z"⟩
def RX7 : String := "SundialTreaty$State"
def TX7 : u_T := fun k => match k with
  | 0 => ("SundialTreaty$State", "day", "I", false)
  | 1 => ("SundialTreaty$State", "shadedBits", "I", false)
  | 2 => ("SundialTreaty$State", "bentBits", "I", false)
  | 3 => ("SundialTreaty$State", "bends", "[I", true)
  | 4 => ("SundialTreaty$State", "breaches", "[I", true)
  | 5 => ("SundialTreaty$State", "sprung", "[I", true)
  | _ => ("SundialTreaty$State", "seed", "I", false)
def tyX7 : Nat → FieldType := fun k => match k with
  | 0 => .int
  | 1 => .int
  | 2 => .int
  | 3 => .array .int
  | 4 => .array .int
  | 5 => .array .int
  | _ => .int
abbrev wsX70 : List Cond := u_ws RX7 TX7 7
theorem nmX7 : ∀ a, a < 7 → ∀ b, b < 7 → a ≠ b → (TX7 a).2.1 ≠ (TX7 b).2.1 := by decide +kernel
theorem tyX7_ok : ∀ k, k < 7 → parseFieldDescriptor (TX7 k).2.2.1 = some (tyX7 k) := by decide +kernel
abbrev cX7_init : ByteArray := prog_9_method_1_code
def yX7_init : MethodName := ⟨RX7, "<init>", "()V"⟩
abbrev cX7_beginIn : ByteArray := prog_9_method_2_code
def yX7_beginIn : MethodName := ⟨RX7, "beginIn", "(LSundialTreaty$Valley;)V"⟩
abbrev cX7_copyFrom : ByteArray := prog_9_method_3_code
def yX7_copyFrom : MethodName := ⟨RX7, "copyFrom", "(LSundialTreaty$State;)V"⟩
abbrev cX7_isShaded : ByteArray := prog_9_method_4_code
def yX7_isShaded : MethodName := ⟨RX7, "isShaded", "(I)Z"⟩
abbrev cX7_turnShade : ByteArray := prog_9_method_5_code
def yX7_turnShade : MethodName := ⟨RX7, "turnShade", "(I)V"⟩
abbrev cX7_wasBent : ByteArray := prog_9_method_6_code
def yX7_wasBent : MethodName := ⟨RX7, "wasBent", "(I)Z"⟩
abbrev cX7_noonByDial : ByteArray := prog_9_method_7_code
def yX7_noonByDial : MethodName := ⟨RX7, "noonByDial", "(LSundialTreaty$Valley;I)I"⟩
abbrev cX7_inBreach : ByteArray := prog_9_method_8_code
def yX7_inBreach : MethodName := ⟨RX7, "inBreach", "(LSundialTreaty$Valley;I)Z"⟩
abbrev cX7_breachBits : ByteArray := prog_9_method_9_code
def yX7_breachBits : MethodName := ⟨RX7, "breachBits", "(LSundialTreaty$Valley;)I"⟩
abbrev cX7_leaves : ByteArray := prog_9_method_10_code
def yX7_leaves : MethodName := ⟨RX7, "leaves", "(LSundialTreaty$Valley;I)I"⟩
abbrev cX7_comes : ByteArray := prog_9_method_11_code
def yX7_comes : MethodName := ⟨RX7, "comes", "(LSundialTreaty$Valley;I)I"⟩
abbrev cX7_whyNotBend : ByteArray := prog_9_method_12_code
def yX7_whyNotBend : MethodName := ⟨RX7, "whyNotBend", "(LSundialTreaty$Valley;II)I"⟩
abbrev cX7_bendBy : ByteArray := prog_9_method_13_code
def yX7_bendBy : MethodName := ⟨RX7, "bendBy", "(II)V"⟩
abbrev cX7_springBack : ByteArray := prog_9_method_14_code
def yX7_springBack : MethodName := ⟨RX7, "springBack", "(LSundialTreaty$Valley;)I"⟩
abbrev cX7_passDay : ByteArray := prog_9_method_15_code
def yX7_passDay : MethodName := ⟨RX7, "passDay", "(LSundialTreaty$Valley;)V"⟩
abbrev cX7_passDays : ByteArray := prog_9_method_16_code
def yX7_passDays : MethodName := ⟨RX7, "passDays", "(LSundialTreaty$Valley;I)V"⟩
abbrev cX7_draw : ByteArray := prog_9_method_17_code
def yX7_draw : MethodName := ⟨RX7, "draw", "(I)I"⟩
abbrev cX7_drawDays : ByteArray := prog_9_method_18_code
def yX7_drawDays : MethodName := ⟨RX7, "drawDays", "(LSundialTreaty$Valley;II)V"⟩
abbrev cX7_actByDraw : ByteArray := prog_9_method_19_code
def yX7_actByDraw : MethodName := ⟨RX7, "actByDraw", "(LSundialTreaty$Valley;II)V"⟩
abbrev cX7_bendToDues : ByteArray := prog_9_method_20_code
def yX7_bendToDues : MethodName := ⟨RX7, "bendToDues", "(LSundialTreaty$Valley;)V"⟩
abbrev cX7_middleNoon : ByteArray := prog_9_method_21_code
def yX7_middleNoon : MethodName := ⟨RX7, "middleNoon", "(LSundialTreaty$Valley;I)I"⟩
abbrev cX7_noonsUpTo : ByteArray := prog_9_method_22_code
def yX7_noonsUpTo : MethodName := ⟨RX7, "noonsUpTo", "(LSundialTreaty$Valley;II)I"⟩
abbrev cX7_comeNearer : ByteArray := prog_9_method_23_code
def yX7_comeNearer : MethodName := ⟨RX7, "comeNearer", "(LSundialTreaty$Valley;)Z"⟩
def RX8 : String := "SundialTreaty$Valley"
def TX8 : u_T := fun k => match k with
  | 0 => ("SundialTreaty$Valley", "towns", "I", false)
  | 1 => ("SundialTreaty$Valley", "townName", "[J", true)
  | 2 => ("SundialTreaty$Valley", "noon", "[I", true)
  | 3 => ("SundialTreaty$Valley", "bendTold", "[I", true)
  | 4 => ("SundialTreaty$Valley", "terms", "I", false)
  | 5 => ("SundialTreaty$Valley", "termTown", "[I", true)
  | 6 => ("SundialTreaty$Valley", "termFrom", "[I", true)
  | 7 => ("SundialTreaty$Valley", "termTo", "[I", true)
  | 8 => ("SundialTreaty$Valley", "termBend", "[I", true)
  | 9 => ("SundialTreaty$Valley", "trains", "I", false)
  | 10 => ("SundialTreaty$Valley", "trainName", "[J", true)
  | 11 => ("SundialTreaty$Valley", "trainFrom", "[I", true)
  | 12 => ("SundialTreaty$Valley", "trainTo", "[I", true)
  | 13 => ("SundialTreaty$Valley", "trainLeaves", "[I", true)
  | 14 => ("SundialTreaty$Valley", "trainTakes", "[I", true)
  | _ => ("SundialTreaty$Valley", "settings", "[I", true)
def tyX8 : Nat → FieldType := fun k => match k with
  | 0 => .int
  | 1 => .array .long
  | 2 => .array .int
  | 3 => .array .int
  | 4 => .int
  | 5 => .array .int
  | 6 => .array .int
  | 7 => .array .int
  | 8 => .array .int
  | 9 => .int
  | 10 => .array .long
  | 11 => .array .int
  | 12 => .array .int
  | 13 => .array .int
  | 14 => .array .int
  | _ => .array .int
abbrev wsX80 : List Cond := u_ws RX8 TX8 16
theorem nmX8 : ∀ a, a < 16 → ∀ b, b < 16 → a ≠ b → (TX8 a).2.1 ≠ (TX8 b).2.1 := by decide +kernel
theorem tyX8_ok : ∀ k, k < 16 → parseFieldDescriptor (TX8 k).2.2.1 = some (tyX8 k) := by decide +kernel
abbrev cX8_init : ByteArray := prog_10_method_1_code
def yX8_init : MethodName := ⟨RX8, "<init>", "()V"⟩
abbrev cX8_makeEmpty : ByteArray := prog_10_method_2_code
def yX8_makeEmpty : MethodName := ⟨RX8, "makeEmpty", "()V"⟩
abbrev cX8_copyFrom : ByteArray := prog_10_method_3_code
def yX8_copyFrom : MethodName := ⟨RX8, "copyFrom", "(LSundialTreaty$Valley;)V"⟩
abbrev cX8_limit : ByteArray := prog_10_method_4_code
def yX8_limit : MethodName := ⟨RX8, "limit", "()I"⟩
abbrev cX8_change : ByteArray := prog_10_method_5_code
def yX8_change : MethodName := ⟨RX8, "change", "()I"⟩
abbrev cX8_frost : ByteArray := prog_10_method_6_code
def yX8_frost : MethodName := ⟨RX8, "frost", "()I"⟩
abbrev cX8_townNamed : ByteArray := prog_10_method_7_code
def yX8_townNamed : MethodName := ⟨RX8, "townNamed", "(J)I"⟩
abbrev cX8_isTold : ByteArray := prog_10_method_8_code
def yX8_isTold : MethodName := ⟨RX8, "isTold", "(J)Z"⟩
abbrev cX8_dueOn : ByteArray := prog_10_method_9_code
def yX8_dueOn : MethodName := ⟨RX8, "dueOn", "(II)I"⟩
def RX9 : String := "SundialTreaty$ValleyText"
def TX9 : u_T := fun k => match k with
  | _ => ("SundialTreaty$ValleyText", "isSet", "[Z", true)
def tyX9 : Nat → FieldType := fun k => match k with
  | _ => .array .boolean
abbrev wsX90 : List Cond := u_ws RX9 TX9 1
theorem nmX9 : ∀ a, a < 1 → ∀ b, b < 1 → a ≠ b → (TX9 a).2.1 ≠ (TX9 b).2.1 := by decide +kernel
theorem tyX9_ok : ∀ k, k < 1 → parseFieldDescriptor (TX9 k).2.2.1 = some (tyX9 k) := by decide +kernel
abbrev cX9_init : ByteArray := prog_11_method_1_code
def yX9_init : MethodName := ⟨RX9, "<init>", "()V"⟩
abbrev cX9_readInto : ByteArray := prog_11_method_2_code
def yX9_readInto : MethodName := ⟨RX9, "readInto", "(LSundialTreaty$Valley;LSundialTreaty$Reader;)I"⟩
abbrev cX9_readLine : ByteArray := prog_11_method_3_code
def yX9_readLine : MethodName := ⟨RX9, "readLine", "(LSundialTreaty$Valley;LSundialTreaty$Reader;)Z"⟩
abbrev cX9_readTown : ByteArray := prog_11_method_4_code
def yX9_readTown : MethodName := ⟨RX9, "readTown", "(LSundialTreaty$Valley;LSundialTreaty$Reader;)Z"⟩
abbrev cX9_readTerm : ByteArray := prog_11_method_5_code
def yX9_readTerm : MethodName := ⟨RX9, "readTerm", "(LSundialTreaty$Valley;LSundialTreaty$Reader;)Z"⟩
abbrev cX9_readTrain : ByteArray := prog_11_method_6_code
def yX9_readTrain : MethodName := ⟨RX9, "readTrain", "(LSundialTreaty$Valley;LSundialTreaty$Reader;)Z"⟩
abbrev cX9_readSetting : ByteArray := prog_11_method_7_code
def yX9_readSetting : MethodName := ⟨RX9, "readSetting", "(LSundialTreaty$Valley;LSundialTreaty$Reader;I)Z"⟩
def RX10 : String := "SundialTreaty"
def TX10 : u_T := fun k => match k with
  | 0 => ("SundialTreaty", "tape", "LSundialTreaty$Reader;", true)
  | 1 => ("SundialTreaty", "valleyText", "LSundialTreaty$ValleyText;", true)
  | 2 => ("SundialTreaty", "land", "LSundialTreaty$Valley;", false)
  | 3 => ("SundialTreaty", "draft", "LSundialTreaty$Valley;", false)
  | 4 => ("SundialTreaty", "state", "LSundialTreaty$State;", true)
  | 5 => ("SundialTreaty", "trial", "LSundialTreaty$State;", true)
  | 6 => ("SundialTreaty", "history", "LSundialTreaty$History;", true)
  | 7 => ("SundialTreaty", "saying", "LSundialTreaty$Sentence;", false)
  | 8 => ("SundialTreaty", "sayingDraft", "LSundialTreaty$Sentence;", false)
  | 9 => ("SundialTreaty", "pages", "LSundialTreaty$Book;", true)
  | 10 => ("SundialTreaty", "router", "LSundialTreaty$Router;", true)
  | 11 => ("SundialTreaty", "words", "LSundialTreaty$Motto;", true)
  | 12 => ("SundialTreaty", "images", "[LSundialTreaty$Image;", true)
  | 13 => ("SundialTreaty", "evenBy", "[I", true)
  | 14 => ("SundialTreaty", "evenTowns", "I", false)
  | 15 => ("SundialTreaty", "nearerBends", "[I", true)
  | _ => ("SundialTreaty", "nearerTowns", "I", false)
def tyX10 : Nat → FieldType := fun k => match k with
  | 0 => .object "SundialTreaty$Reader"
  | 1 => .object "SundialTreaty$ValleyText"
  | 2 => .object "SundialTreaty$Valley"
  | 3 => .object "SundialTreaty$Valley"
  | 4 => .object "SundialTreaty$State"
  | 5 => .object "SundialTreaty$State"
  | 6 => .object "SundialTreaty$History"
  | 7 => .object "SundialTreaty$Sentence"
  | 8 => .object "SundialTreaty$Sentence"
  | 9 => .object "SundialTreaty$Book"
  | 10 => .object "SundialTreaty$Router"
  | 11 => .object "SundialTreaty$Motto"
  | 12 => .array (.object "SundialTreaty$Image")
  | 13 => .array .int
  | 14 => .int
  | 15 => .array .int
  | _ => .int
abbrev wsX100 : List Cond := u_ws RX10 TX10 17
theorem nmX10 : ∀ a, a < 17 → ∀ b, b < 17 → a ≠ b → (TX10 a).2.1 ≠ (TX10 b).2.1 := by decide +kernel
theorem tyX10_ok : ∀ k, k < 17 → parseFieldDescriptor (TX10 k).2.2.1 = some (tyX10 k) := by decide +kernel
abbrev cX10_init : ByteArray := prog_1_method_1_code
def yX10_init : MethodName := ⟨RX10, "<init>", "()V"⟩
abbrev cX10_feed : ByteArray := prog_1_method_2_code
def yX10_feed : MethodName := ⟨RX10, "feed", "(IIIII)I"⟩
abbrev cX10_end : ByteArray := prog_1_method_3_code
def yX10_end : MethodName := ⟨RX10, "end", "(I)Z"⟩
abbrev cX10_valley : ByteArray := prog_1_method_4_code
def yX10_valley : MethodName := ⟨RX10, "valley", "()I"⟩
abbrev cX10_fault : ByteArray := prog_1_method_5_code
def yX10_fault : MethodName := ⟨RX10, "fault", "()I"⟩
abbrev cX10_town : ByteArray := prog_1_method_6_code
def yX10_town : MethodName := ⟨RX10, "town", "(II)I"⟩
abbrev cX10_due : ByteArray := prog_1_method_7_code
def yX10_due : MethodName := ⟨RX10, "due", "(II)I"⟩
abbrev cX10_train : ByteArray := prog_1_method_8_code
def yX10_train : MethodName := ⟨RX10, "train", "(II)I"⟩
abbrev cX10_shows : ByteArray := prog_1_method_9_code
def yX10_shows : MethodName := ⟨RX10, "shows", "(II)I"⟩
abbrev cX10_now : ByteArray := prog_1_method_10_code
def yX10_now : MethodName := ⟨RX10, "now", "(I)I"⟩
abbrev cX10_bend : ByteArray := prog_1_method_11_code
def yX10_bend : MethodName := ⟨RX10, "bend", "(II)I"⟩
abbrev cX10_shade : ByteArray := prog_1_method_12_code
def yX10_shade : MethodName := ⟨RX10, "shade", "(I)I"⟩
abbrev cX10_clear : ByteArray := prog_1_method_13_code
def yX10_clear : MethodName := ⟨RX10, "clear", "(I)I"⟩
abbrev cX10_freeze : ByteArray := prog_1_method_14_code
def yX10_freeze : MethodName := ⟨RX10, "freeze", "()I"⟩
abbrev cX10_days : ByteArray := prog_1_method_15_code
def yX10_days : MethodName := ⟨RX10, "days", "(I)I"⟩
abbrev cX10_undo : ByteArray := prog_1_method_16_code
def yX10_undo : MethodName := ⟨RX10, "undo", "()I"⟩
abbrev cX10_noonLong : ByteArray := prog_1_method_17_code
def yX10_noonLong : MethodName := ⟨RX10, "noonLong", "()I"⟩
abbrev cX10_oneNoon : ByteArray := prog_1_method_18_code
def yX10_oneNoon : MethodName := ⟨RX10, "oneNoon", "()I"⟩
abbrev cX10_even : ByteArray := prog_1_method_19_code
def yX10_even : MethodName := ⟨RX10, "even", "()I"⟩
abbrev cX10_evenAt : ByteArray := prog_1_method_20_code
def yX10_evenAt : MethodName := ⟨RX10, "evenAt", "(I)I"⟩
abbrev cX10_kept : ByteArray := prog_1_method_21_code
def yX10_kept : MethodName := ⟨RX10, "kept", "()I"⟩
abbrev cX10_worst : ByteArray := prog_1_method_22_code
def yX10_worst : MethodName := ⟨RX10, "worst", "(I)I"⟩
abbrev cX10_spare : ByteArray := prog_1_method_23_code
def yX10_spare : MethodName := ⟨RX10, "spare", "(II)I"⟩
abbrev cX10_route : ByteArray := prog_1_method_24_code
def yX10_route : MethodName := ⟨RX10, "route", "(III)I"⟩
abbrev cX10_routeAt : ByteArray := prog_1_method_25_code
def yX10_routeAt : MethodName := ⟨RX10, "routeAt", "(I)I"⟩
abbrev cX10_shadows : ByteArray := prog_1_method_26_code
def yX10_shadows : MethodName := ⟨RX10, "shadows", "()I"⟩
abbrev cX10_votes : ByteArray := prog_1_method_27_code
def yX10_votes : MethodName := ⟨RX10, "votes", "(II)I"⟩
abbrev cX10_nearer : ByteArray := prog_1_method_28_code
def yX10_nearer : MethodName := ⟨RX10, "nearer", "()I"⟩
abbrev cX10_nearerAt : ByteArray := prog_1_method_29_code
def yX10_nearerAt : MethodName := ⟨RX10, "nearerAt", "(I)I"⟩
abbrev cX10_right : ByteArray := prog_1_method_30_code
def yX10_right : MethodName := ⟨RX10, "right", "(II)I"⟩
abbrev cX10_turns : ByteArray := prog_1_method_31_code
def yX10_turns : MethodName := ⟨RX10, "turns", "(I)I"⟩
abbrev cX10_motto : ByteArray := prog_1_method_32_code
def yX10_motto : MethodName := ⟨RX10, "motto", "(I)I"⟩
abbrev cX10_byteAt : ByteArray := prog_1_method_33_code
def yX10_byteAt : MethodName := ⟨RX10, "byteAt", "(I)I"⟩
abbrev cX10_drawn : ByteArray := prog_1_method_34_code
def yX10_drawn : MethodName := ⟨RX10, "drawn", "(II)I"⟩
abbrev cX10_odds : ByteArray := prog_1_method_35_code
def yX10_odds : MethodName := ⟨RX10, "odds", "(III)I"⟩
abbrev cX10_book : ByteArray := prog_1_method_36_code
def yX10_book : MethodName := ⟨RX10, "book", "(I)I"⟩
abbrev cX10_told : ByteArray := prog_1_method_37_code
def yX10_told : MethodName := ⟨RX10, "told", "(I)I"⟩
abbrev cX10_sentence : ByteArray := prog_1_method_38_code
def yX10_sentence : MethodName := ⟨RX10, "sentence", "()I"⟩
abbrev cX10_said : ByteArray := prog_1_method_39_code
def yX10_said : MethodName := ⟨RX10, "said", "(I)I"⟩
abbrev cX10_image : ByteArray := prog_1_method_40_code
def yX10_image : MethodName := ⟨RX10, "image", "(I)Z"⟩
abbrev cX10_restore : ByteArray := prog_1_method_41_code
def yX10_restore : MethodName := ⟨RX10, "restore", "(I)Z"⟩
abbrev cX10_count : ByteArray := prog_1_method_42_code
def yX10_count : MethodName := ⟨RX10, "count", "(I)I"⟩
abbrev cX10_hasTown : ByteArray := prog_1_method_43_code
def yX10_hasTown : MethodName := ⟨RX10, "hasTown", "(I)Z"⟩
abbrev cX10_hasTrain : ByteArray := prog_1_method_44_code
def yX10_hasTrain : MethodName := ⟨RX10, "hasTrain", "(I)Z"⟩
abbrev cX10_hasDue : ByteArray := prog_1_method_45_code
def yX10_hasDue : MethodName := ⟨RX10, "hasDue", "(I)Z"⟩
abbrev cX10_added : ByteArray := prog_1_method_46_code
def yX10_added : MethodName := ⟨RX10, "added", "([I)I"⟩
abbrev cX10_bendsAdded : ByteArray := prog_1_method_47_code
def yX10_bendsAdded : MethodName := ⟨RX10, "bendsAdded", "()I"⟩
abbrev cX10_minutesOff : ByteArray := prog_1_method_48_code
def yX10_minutesOff : MethodName := ⟨RX10, "minutesOff", "()I"⟩
abbrev cX10_roomOf : ByteArray := prog_1_method_49_code
def yX10_roomOf : MethodName := ⟨RX10, "roomOf", "(II)I"⟩
def RX11 : String := "SundialTreatyModel"
def TX11 : u_T := fun k => match k with
  | 0 => ("SundialTreatyModel", "thrown", "I", false)
  | 1 => ("SundialTreatyModel", "tape", "[B", true)
  | 2 => ("SundialTreatyModel", "length", "I", false)
  | 3 => ("SundialTreatyModel", "size", "I", false)
  | 4 => ("SundialTreatyModel", "p", "I", false)
  | 5 => ("SundialTreatyModel", "limit", "I", false)
  | 6 => ("SundialTreatyModel", "s", "[I", true)
  | 7 => ("SundialTreatyModel", "h", "[I", true)
  | 8 => ("SundialTreatyModel", "read", "[I", true)
  | 9 => ("SundialTreatyModel", "names", "[J", true)
  | 10 => ("SundialTreatyModel", "reserved", "[J", true)
  | 11 => ("SundialTreatyModel", "token", "I", false)
  | 12 => ("SundialTreatyModel", "at", "I", false)
  | 13 => ("SundialTreatyModel", "span", "I", false)
  | 14 => ("SundialTreatyModel", "number", "I", false)
  | 15 => ("SundialTreatyModel", "fault", "I", false)
  | 16 => ("SundialTreatyModel", "faultAt", "I", false)
  | 17 => ("SundialTreatyModel", "word", "J", false)
  | 18 => ("SundialTreatyModel", "got", "I", false)
  | 19 => ("SundialTreatyModel", "lines", "I", false)
  | 20 => ("SundialTreatyModel", "onces", "I", false)
  | 21 => ("SundialTreatyModel", "undone", "[I", true)
  | 22 => ("SundialTreatyModel", "before", "[I", true)
  | 23 => ("SundialTreatyModel", "undoMany", "I", false)
  | 24 => ("SundialTreatyModel", "noons", "[I", true)
  | 25 => ("SundialTreatyModel", "evenRow", "[I", true)
  | 26 => ("SundialTreatyModel", "nearRow", "[I", true)
  | 27 => ("SundialTreatyModel", "evenMany", "I", false)
  | 28 => ("SundialTreatyModel", "nearMany", "I", false)
  | 29 => ("SundialTreatyModel", "place", "[I", true)
  | 30 => ("SundialTreatyModel", "time", "[I", true)
  | 31 => ("SundialTreatyModel", "tryNext", "[I", true)
  | 32 => ("SundialTreatyModel", "took", "[I", true)
  | 33 => ("SundialTreatyModel", "routeRow", "[I", true)
  | 34 => ("SundialTreatyModel", "routeMany", "I", false)
  | 35 => ("SundialTreatyModel", "text", "[B", true)
  | 36 => ("SundialTreatyModel", "textMany", "I", false)
  | 37 => ("SundialTreatyModel", "seed", "I", false)
  | 38 => ("SundialTreatyModel", "toldMany", "I", false)
  | 39 => ("SundialTreatyModel", "toldAt", "[I", true)
  | 40 => ("SundialTreatyModel", "hasTold", "Z", false)
  | 41 => ("SundialTreatyModel", "stack", "[I", true)
  | 42 => ("SundialTreatyModel", "codes", "I", false)
  | 43 => ("SundialTreatyModel", "ones", "I", false)
  | 44 => ("SundialTreatyModel", "top", "I", false)
  | 45 => ("SundialTreatyModel", "deep", "I", false)
  | 46 => ("SundialTreatyModel", "isWhole", "Z", false)
  | 47 => ("SundialTreatyModel", "truths", "[Z", true)
  | 48 => ("SundialTreatyModel", "imaged", "[I", true)
  | 49 => ("SundialTreatyModel", "namesKept", "[J", true)
  | _ => ("SundialTreatyModel", "areKept", "[Z", true)
def tyX11 : Nat → FieldType := fun k => match k with
  | 0 => .int
  | 1 => .array .byte
  | 2 => .int
  | 3 => .int
  | 4 => .int
  | 5 => .int
  | 6 => .array .int
  | 7 => .array .int
  | 8 => .array .int
  | 9 => .array .long
  | 10 => .array .long
  | 11 => .int
  | 12 => .int
  | 13 => .int
  | 14 => .int
  | 15 => .int
  | 16 => .int
  | 17 => .long
  | 18 => .int
  | 19 => .int
  | 20 => .int
  | 21 => .array .int
  | 22 => .array .int
  | 23 => .int
  | 24 => .array .int
  | 25 => .array .int
  | 26 => .array .int
  | 27 => .int
  | 28 => .int
  | 29 => .array .int
  | 30 => .array .int
  | 31 => .array .int
  | 32 => .array .int
  | 33 => .array .int
  | 34 => .int
  | 35 => .array .byte
  | 36 => .int
  | 37 => .int
  | 38 => .int
  | 39 => .array .int
  | 40 => .boolean
  | 41 => .array .int
  | 42 => .int
  | 43 => .int
  | 44 => .int
  | 45 => .int
  | 46 => .boolean
  | 47 => .array .boolean
  | 48 => .array .int
  | 49 => .array .long
  | _ => .array .boolean
abbrev wsX110 : List Cond := u_ws RX11 TX11 51
theorem nmX11 : ∀ a, a < 51 → ∀ b, b < 51 → a ≠ b → (TX11 a).2.1 ≠ (TX11 b).2.1 := by decide +kernel
theorem tyX11_ok : ∀ k, k < 51 → parseFieldDescriptor (TX11 k).2.2.1 = some (tyX11 k) := by decide +kernel
abbrev cX11_thrown : ByteArray := prog_13_method_1_code
def yX11_thrown : MethodName := ⟨RX11, "thrown", "()I"⟩
abbrev cX11_throwsIf : ByteArray := prog_13_method_2_code
def yX11_throwsIf : MethodName := ⟨RX11, "throwsIf", "(Z)Z"⟩
abbrev cX11_feed : ByteArray := prog_13_method_3_code
def yX11_feed : MethodName := ⟨RX11, "feed", "(IIIII)I"⟩
abbrev cX11_four : ByteArray := prog_13_method_4_code
def yX11_four : MethodName := ⟨RX11, "four", "(I)V"⟩
abbrev cX11_end : ByteArray := prog_13_method_5_code
def yX11_end : MethodName := ⟨RX11, "end", "(I)Z"⟩
abbrev cX11_taken : ByteArray := prog_13_method_6_code
def yX11_taken : MethodName := ⟨RX11, "taken", "(I)V"⟩
abbrev cX11_isIn : ByteArray := prog_13_method_7_code
def yX11_isIn : MethodName := ⟨RX11, "isIn", "(III)Z"⟩
abbrev cX11_bitOf : ByteArray := prog_13_method_8_code
def yX11_bitOf : MethodName := ⟨RX11, "bitOf", "(II)Z"⟩
abbrev cX11_lesser : ByteArray := prog_13_method_9_code
def yX11_lesser : MethodName := ⟨RX11, "lesser", "(II)I"⟩
abbrev cX11_greater : ByteArray := prog_13_method_10_code
def yX11_greater : MethodName := ⟨RX11, "greater", "(II)I"⟩
abbrev cX11_absolute : ByteArray := prog_13_method_11_code
def yX11_absolute : MethodName := ⟨RX11, "absolute", "(I)I"⟩
abbrev cX11_octet : ByteArray := prog_13_method_13_code
def yX11_octet : MethodName := ⟨RX11, "octet", "(I)I"⟩
abbrev cX11_init : ByteArray := prog_13_method_14_code
def yX11_init : MethodName := ⟨RX11, "<init>", "()V"⟩
abbrev cX11_clears : ByteArray := prog_13_method_15_code
def yX11_clears : MethodName := ⟨RX11, "clears", "()V"⟩
abbrev cX11_peek : ByteArray := prog_13_method_16_code
def yX11_peek : MethodName := ⟨RX11, "peek", "()I"⟩
abbrev cX11_isSmall : ByteArray := prog_13_method_17_code
def yX11_isSmall : MethodName := ⟨RX11, "isSmall", "(I)Z"⟩
abbrev cX11_isDigit : ByteArray := prog_13_method_18_code
def yX11_isDigit : MethodName := ⟨RX11, "isDigit", "(I)Z"⟩
abbrev cX11_next : ByteArray := prog_13_method_19_code
def yX11_next : MethodName := ⟨RX11, "next", "()V"⟩
abbrev cX11_bad : ByteArray := prog_13_method_20_code
def yX11_bad : MethodName := ⟨RX11, "bad", "(I)Z"⟩
abbrev cX11_isWord : ByteArray := prog_13_method_21_code
def yX11_isWord : MethodName := ⟨RX11, "isWord", "(J)Z"⟩
abbrev cX11_isSign : ByteArray := prog_13_method_22_code
def yX11_isSign : MethodName := ⟨RX11, "isSign", "(I)Z"⟩
abbrev cX11_sign : ByteArray := prog_13_method_23_code
def yX11_sign : MethodName := ⟨RX11, "sign", "(I)Z"⟩
abbrev cX11_isName : ByteArray := prog_13_method_24_code
def yX11_isName : MethodName := ⟨RX11, "isName", "()Z"⟩
abbrev cX11_takes : ByteArray := prog_13_method_25_code
def yX11_takes : MethodName := ⟨RX11, "takes", "(II)Z"⟩
abbrev cX11_puts : ByteArray := prog_13_method_26_code
def yX11_puts : MethodName := ⟨RX11, "puts", "(III)Z"⟩
abbrev cX11_takesWay : ByteArray := prog_13_method_27_code
def yX11_takesWay : MethodName := ⟨RX11, "takesWay", "(II)Z"⟩
abbrev cX11_find : ByteArray := prog_13_method_28_code
def yX11_find : MethodName := ⟨RX11, "find", "(II)I"⟩
abbrev cX11_fresh : ByteArray := prog_13_method_29_code
def yX11_fresh : MethodName := ⟨RX11, "fresh", "(I)Z"⟩
abbrev cX11_looksAt : ByteArray := prog_13_method_30_code
def yX11_looksAt : MethodName := ⟨RX11, "looksAt", "(II)Z"⟩
abbrev cX11_takesName : ByteArray := prog_13_method_31_code
def yX11_takesName : MethodName := ⟨RX11, "takesName", "(II)Z"⟩
abbrev cX11_once : ByteArray := prog_13_method_32_code
def yX11_once : MethodName := ⟨RX11, "once", "(IIII)Z"⟩
abbrev cX11_line : ByteArray := prog_13_method_33_code
def yX11_line : MethodName := ⟨RX11, "line", "()Z"⟩
abbrev cX11_readTown : ByteArray := prog_13_method_34_code
def yX11_readTown : MethodName := ⟨RX11, "readTown", "()Z"⟩
abbrev cX11_readTerm : ByteArray := prog_13_method_35_code
def yX11_readTerm : MethodName := ⟨RX11, "readTerm", "()Z"⟩
abbrev cX11_readTrain : ByteArray := prog_13_method_36_code
def yX11_readTrain : MethodName := ⟨RX11, "readTrain", "()Z"⟩
abbrev cX11_valley : ByteArray := prog_13_method_37_code
def yX11_valley : MethodName := ⟨RX11, "valley", "()I"⟩
abbrev cX11_fault : ByteArray := prog_13_method_38_code
def yX11_fault : MethodName := ⟨RX11, "fault", "()I"⟩
abbrev cX11_isTown : ByteArray := prog_13_method_39_code
def yX11_isTown : MethodName := ⟨RX11, "isTown", "(I)Z"⟩
abbrev cX11_isTrain : ByteArray := prog_13_method_40_code
def yX11_isTrain : MethodName := ⟨RX11, "isTrain", "(I)Z"⟩
abbrev cX11_isShaded : ByteArray := prog_13_method_41_code
def yX11_isShaded : MethodName := ⟨RX11, "isShaded", "(I)Z"⟩
abbrev cX11_noonOf : ByteArray := prog_13_method_42_code
def yX11_noonOf : MethodName := ⟨RX11, "noonOf", "(I)I"⟩
abbrev cX11_dueOf : ByteArray := prog_13_method_43_code
def yX11_dueOf : MethodName := ⟨RX11, "dueOf", "(II)I"⟩
abbrev cX11_hasDue : ByteArray := prog_13_method_44_code
def yX11_hasDue : MethodName := ⟨RX11, "hasDue", "(I)Z"⟩
abbrev cX11_inBreach : ByteArray := prog_13_method_45_code
def yX11_inBreach : MethodName := ⟨RX11, "inBreach", "(I)Z"⟩
abbrev cX11_breachSet : ByteArray := prog_13_method_46_code
def yX11_breachSet : MethodName := ⟨RX11, "breachSet", "()I"⟩
abbrev cX11_town : ByteArray := prog_13_method_47_code
def yX11_town : MethodName := ⟨RX11, "town", "(II)I"⟩
abbrev cX11_due : ByteArray := prog_13_method_48_code
def yX11_due : MethodName := ⟨RX11, "due", "(II)I"⟩
abbrev cX11_leavesAt : ByteArray := prog_13_method_49_code
def yX11_leavesAt : MethodName := ⟨RX11, "leavesAt", "(I)I"⟩
abbrev cX11_comesAt : ByteArray := prog_13_method_50_code
def yX11_comesAt : MethodName := ⟨RX11, "comesAt", "(I)I"⟩
abbrev cX11_train : ByteArray := prog_13_method_51_code
def yX11_train : MethodName := ⟨RX11, "train", "(II)I"⟩
abbrev cX11_shows : ByteArray := prog_13_method_52_code
def yX11_shows : MethodName := ⟨RX11, "shows", "(II)I"⟩
abbrev cX11_sumOf : ByteArray := prog_13_method_53_code
def yX11_sumOf : MethodName := ⟨RX11, "sumOf", "(I)I"⟩
abbrev cX11_now : ByteArray := prog_13_method_54_code
def yX11_now : MethodName := ⟨RX11, "now", "(I)I"⟩
abbrev cX11_whyBend : ByteArray := prog_13_method_55_code
def yX11_whyBend : MethodName := ⟨RX11, "whyBend", "(II)I"⟩
abbrev cX11_bends : ByteArray := prog_13_method_56_code
def yX11_bends : MethodName := ⟨RX11, "bends", "(II)V"⟩
abbrev cX11_freezes : ByteArray := prog_13_method_57_code
def yX11_freezes : MethodName := ⟨RX11, "freezes", "()I"⟩
abbrev cX11_goesOn : ByteArray := prog_13_method_58_code
def yX11_goesOn : MethodName := ⟨RX11, "goesOn", "(I)I"⟩
abbrev cX11_bend : ByteArray := prog_13_method_59_code
def yX11_bend : MethodName := ⟨RX11, "bend", "(II)I"⟩
abbrev cX11_shade : ByteArray := prog_13_method_60_code
def yX11_shade : MethodName := ⟨RX11, "shade", "(I)I"⟩
abbrev cX11_clear : ByteArray := prog_13_method_61_code
def yX11_clear : MethodName := ⟨RX11, "clear", "(I)I"⟩
abbrev cX11_freeze : ByteArray := prog_13_method_62_code
def yX11_freeze : MethodName := ⟨RX11, "freeze", "()I"⟩
abbrev cX11_days : ByteArray := prog_13_method_63_code
def yX11_days : MethodName := ⟨RX11, "days", "(I)I"⟩
abbrev cX11_keep : ByteArray := prog_13_method_64_code
def yX11_keep : MethodName := ⟨RX11, "keep", "()V"⟩
abbrev cX11_undo : ByteArray := prog_13_method_65_code
def yX11_undo : MethodName := ⟨RX11, "undo", "()I"⟩
abbrev cX11_tries : ByteArray := prog_13_method_66_code
def yX11_tries : MethodName := ⟨RX11, "tries", "()V"⟩
abbrev cX11_back : ByteArray := prog_13_method_67_code
def yX11_back : MethodName := ⟨RX11, "back", "()V"⟩
abbrev cX11_sorts : ByteArray := prog_13_method_68_code
def yX11_sorts : MethodName := ⟨RX11, "sorts", "(I)I"⟩
abbrev cX11_noonLong : ByteArray := prog_13_method_69_code
def yX11_noonLong : MethodName := ⟨RX11, "noonLong", "()I"⟩
abbrev cX11_oneNoon : ByteArray := prog_13_method_70_code
def yX11_oneNoon : MethodName := ⟨RX11, "oneNoon", "()I"⟩
abbrev cX11_roomOf : ByteArray := prog_13_method_71_code
def yX11_roomOf : MethodName := ⟨RX11, "roomOf", "(IZ)I"⟩
abbrev cX11_even : ByteArray := prog_13_method_72_code
def yX11_even : MethodName := ⟨RX11, "even", "()I"⟩
abbrev cX11_evenAt : ByteArray := prog_13_method_73_code
def yX11_evenAt : MethodName := ⟨RX11, "evenAt", "(I)I"⟩
abbrev cX11_movesToDues : ByteArray := prog_13_method_74_code
def yX11_movesToDues : MethodName := ⟨RX11, "movesToDues", "()V"⟩
abbrev cX11_kept : ByteArray := prog_13_method_75_code
def yX11_kept : MethodName := ⟨RX11, "kept", "()I"⟩
abbrev cX11_worst : ByteArray := prog_13_method_76_code
def yX11_worst : MethodName := ⟨RX11, "worst", "(I)I"⟩
abbrev cX11_spare : ByteArray := prog_13_method_77_code
def yX11_spare : MethodName := ⟨RX11, "spare", "(II)I"⟩
abbrev cX11_mayTake : ByteArray := prog_13_method_78_code
def yX11_mayTake : MethodName := ⟨RX11, "mayTake", "(III)Z"⟩
abbrev cX11_route : ByteArray := prog_13_method_79_code
def yX11_route : MethodName := ⟨RX11, "route", "(III)I"⟩
abbrev cX11_routeAt : ByteArray := prog_13_method_80_code
def yX11_routeAt : MethodName := ⟨RX11, "routeAt", "(I)I"⟩
abbrev cX11_shadows : ByteArray := prog_13_method_81_code
def yX11_shadows : MethodName := ⟨RX11, "shadows", "()I"⟩
abbrev cX11_votes : ByteArray := prog_13_method_82_code
def yX11_votes : MethodName := ⟨RX11, "votes", "(II)I"⟩
abbrev cX11_comesNearer : ByteArray := prog_13_method_83_code
def yX11_comesNearer : MethodName := ⟨RX11, "comesNearer", "(I)Z"⟩
abbrev cX11_nearer : ByteArray := prog_13_method_84_code
def yX11_nearer : MethodName := ⟨RX11, "nearer", "()I"⟩
abbrev cX11_nearerAt : ByteArray := prog_13_method_85_code
def yX11_nearerAt : MethodName := ⟨RX11, "nearerAt", "(I)I"⟩
abbrev cX11_right : ByteArray := prog_13_method_86_code
def yX11_right : MethodName := ⟨RX11, "right", "(II)I"⟩
abbrev cX11_turns : ByteArray := prog_13_method_87_code
def yX11_turns : MethodName := ⟨RX11, "turns", "(I)I"⟩
abbrev cX11_lays : ByteArray := prog_13_method_88_code
def yX11_lays : MethodName := ⟨RX11, "lays", "(I)V"⟩
abbrev cX11_spells : ByteArray := prog_13_method_89_code
def yX11_spells : MethodName := ⟨RX11, "spells", "(J)V"⟩
abbrev cX11_says : ByteArray := prog_13_method_90_code
def yX11_says : MethodName := ⟨RX11, "says", "(J)V"⟩
abbrev cX11_motto : ByteArray := prog_13_method_91_code
def yX11_motto : MethodName := ⟨RX11, "motto", "(I)I"⟩
abbrev cX11_byteAt : ByteArray := prog_13_method_92_code
def yX11_byteAt : MethodName := ⟨RX11, "byteAt", "(I)I"⟩
abbrev cX11_draw : ByteArray := prog_13_method_93_code
def yX11_draw : MethodName := ⟨RX11, "draw", "(I)I"⟩
abbrev cX11_draws : ByteArray := prog_13_method_94_code
def yX11_draws : MethodName := ⟨RX11, "draws", "(II)I"⟩
abbrev cX11_drawn : ByteArray := prog_13_method_95_code
def yX11_drawn : MethodName := ⟨RX11, "drawn", "(II)I"⟩
abbrev cX11_odds : ByteArray := prog_13_method_96_code
def yX11_odds : MethodName := ⟨RX11, "odds", "(III)I"⟩
abbrev cX11_bookLine : ByteArray := prog_13_method_97_code
def yX11_bookLine : MethodName := ⟨RX11, "bookLine", "()Z"⟩
abbrev cX11_does : ByteArray := prog_13_method_98_code
def yX11_does : MethodName := ⟨RX11, "does", "(III)I"⟩
abbrev cX11_book : ByteArray := prog_13_method_99_code
def yX11_book : MethodName := ⟨RX11, "book", "(I)I"⟩
abbrev cX11_told : ByteArray := prog_13_method_100_code
def yX11_told : MethodName := ⟨RX11, "told", "(I)I"⟩
abbrev cX11_code : ByteArray := prog_13_method_101_code
def yX11_code : MethodName := ⟨RX11, "code", "(III)V"⟩
abbrev cX11_joins : ByteArray := prog_13_method_102_code
def yX11_joins : MethodName := ⟨RX11, "joins", "(I)V"⟩
abbrev cX11_nots : ByteArray := prog_13_method_103_code
def yX11_nots : MethodName := ⟨RX11, "nots", "()V"⟩
abbrev cX11_leafOf : ByteArray := prog_13_method_104_code
def yX11_leafOf : MethodName := ⟨RX11, "leafOf", "()I"⟩
abbrev cX11_operand : ByteArray := prog_13_method_105_code
def yX11_operand : MethodName := ⟨RX11, "operand", "()Z"⟩
abbrev cX11_behind : ByteArray := prog_13_method_106_code
def yX11_behind : MethodName := ⟨RX11, "behind", "()Z"⟩
abbrev cX11_sentence : ByteArray := prog_13_method_107_code
def yX11_sentence : MethodName := ⟨RX11, "sentence", "()I"⟩
abbrev cX11_isLeaf : ByteArray := prog_13_method_108_code
def yX11_isLeaf : MethodName := ⟨RX11, "isLeaf", "(IIII)Z"⟩
abbrev cX11_isSaid : ByteArray := prog_13_method_109_code
def yX11_isSaid : MethodName := ⟨RX11, "isSaid", "(I)Z"⟩
abbrev cX11_said : ByteArray := prog_13_method_110_code
def yX11_said : MethodName := ⟨RX11, "said", "(I)I"⟩
abbrev cX11_image : ByteArray := prog_13_method_111_code
def yX11_image : MethodName := ⟨RX11, "image", "(I)Z"⟩
abbrev cX11_restore : ByteArray := prog_13_method_112_code
def yX11_restore : MethodName := ⟨RX11, "restore", "(I)Z"⟩
abbrev cX11_count : ByteArray := prog_13_method_113_code
def yX11_count : MethodName := ⟨RX11, "count", "(I)I"⟩
def RJx145de : String := "java/io/Serializable"
def TJx145de : u_T := fun k => match k with
  | _ => ("", "", "", false)
def tyJx145de : Nat → FieldType := fun k => match k with
  | _ => .int
abbrev wsJx145de0 : List Cond := u_ws RJx145de TJx145de 0
theorem nmJx145de : ∀ a, a < 0 → ∀ b, b < 0 → a ≠ b → (TJx145de a).2.1 ≠ (TJx145de b).2.1 := by decide +kernel
theorem tyJx145de_ok : ∀ k, k < 0 → parseFieldDescriptor (TJx145de k).2.2.1 = some (tyJx145de k) := by decide +kernel
def RJx9f9b0 : String := "java/lang/CharSequence"
def TJx9f9b0 : u_T := fun k => match k with
  | _ => ("", "", "", false)
def tyJx9f9b0 : Nat → FieldType := fun k => match k with
  | _ => .int
abbrev wsJx9f9b00 : List Cond := u_ws RJx9f9b0 TJx9f9b0 0
theorem nmJx9f9b0 : ∀ a, a < 0 → ∀ b, b < 0 → a ≠ b → (TJx9f9b0 a).2.1 ≠ (TJx9f9b0 b).2.1 := by decide +kernel
theorem tyJx9f9b0_ok : ∀ k, k < 0 → parseFieldDescriptor (TJx9f9b0 k).2.2.1 = some (tyJx9f9b0 k) := by decide +kernel
def RJxb160c : String := "java/lang/Comparable"
def TJxb160c : u_T := fun k => match k with
  | _ => ("", "", "", false)
def tyJxb160c : Nat → FieldType := fun k => match k with
  | _ => .int
abbrev wsJxb160c0 : List Cond := u_ws RJxb160c TJxb160c 0
theorem nmJxb160c : ∀ a, a < 0 → ∀ b, b < 0 → a ≠ b → (TJxb160c a).2.1 ≠ (TJxb160c b).2.1 := by decide +kernel
theorem tyJxb160c_ok : ∀ k, k < 0 → parseFieldDescriptor (TJxb160c k).2.2.1 = some (tyJxb160c k) := by decide +kernel
def RJ6 : String := "java/lang/Integer"
def TJ6 : u_T := fun k => match k with
  | _ => ("", "", "", false)
def tyJ6 : Nat → FieldType := fun k => match k with
  | _ => .int
abbrev wsJ60 : List Cond := u_ws RJ6 TJ6 0
theorem nmJ6 : ∀ a, a < 0 → ∀ b, b < 0 → a ≠ b → (TJ6 a).2.1 ≠ (TJ6 b).2.1 := by decide +kernel
theorem tyJ6_ok : ∀ k, k < 0 → parseFieldDescriptor (TJ6 k).2.2.1 = some (tyJ6 k) := by decide +kernel
abbrev cJ6_compare_7cf53 : ByteArray := prog_18_method_40_code
def yJ6_compare_7cf53 : MethodName := ⟨RJ6, "compare", "(II)I"⟩
abbrev cJ6_signum_0f7a4 : ByteArray := prog_18_method_56_code
def yJ6_signum_0f7a4 : MethodName := ⟨RJ6, "signum", "(I)I"⟩
def RJ9 : String := "java/lang/Math"
def TJ9 : u_T := fun k => match k with
  | _ => ("", "", "", false)
def tyJ9 : Nat → FieldType := fun k => match k with
  | _ => .int
abbrev wsJ90 : List Cond := u_ws RJ9 TJ9 0
theorem nmJ9 : ∀ a, a < 0 → ∀ b, b < 0 → a ≠ b → (TJ9 a).2.1 ≠ (TJ9 b).2.1 := by decide +kernel
theorem tyJ9_ok : ∀ k, k < 0 → parseFieldDescriptor (TJ9 k).2.2.1 = some (tyJ9 k) := by decide +kernel
abbrev cJ9_abs_0f7a4 : ByteArray := prog_19_method_59_code
def yJ9_abs_0f7a4 : MethodName := ⟨RJ9, "abs", "(I)I"⟩
abbrev cJ9_max_7cf53 : ByteArray := prog_19_method_65_code
def yJ9_max_7cf53 : MethodName := ⟨RJ9, "max", "(II)I"⟩
abbrev cJ9_min_7cf53 : ByteArray := prog_19_method_69_code
def yJ9_min_7cf53 : MethodName := ⟨RJ9, "min", "(II)I"⟩
def RJ0 : String := "java/lang/String"
def TJ0 : u_T := fun k => match k with
  | _ => ("", "", "", false)
def tyJ0 : Nat → FieldType := fun k => match k with
  | _ => .int
abbrev wsJ00 : List Cond := u_ws RJ0 TJ0 0
theorem nmJ0 : ∀ a, a < 0 → ∀ b, b < 0 → a ≠ b → (TJ0 a).2.1 ≠ (TJ0 b).2.1 := by decide +kernel
theorem tyJ0_ok : ∀ k, k < 0 → parseFieldDescriptor (TJ0 k).2.2.1 = some (tyJ0 k) := by decide +kernel
abbrev cJ0_length_8abf5 : ByteArray := prog_21_method_54_code
def yJ0_length_8abf5 : MethodName := ⟨RJ0, "length", "()I"⟩
abbrev cJ0_charAt_5068e : ByteArray := prog_21_method_56_code
def yJ0_charAt_5068e : MethodName := ⟨RJ0, "charAt", "(I)C"⟩
abbrev cJ0_coder_7d493 : ByteArray := prog_21_method_152_code
def yJ0_coder_7d493 : MethodName := ⟨RJ0, "coder", "()B"⟩
abbrev cJ0_isLatin1_aae02 : ByteArray := prog_21_method_154_code
def yJ0_isLatin1_aae02 : MethodName := ⟨RJ0, "isLatin1", "()Z"⟩
abbrev cJ0_checkIndex_df160 : ByteArray := prog_21_method_155_code
def yJ0_checkIndex_df160 : MethodName := ⟨RJ0, "checkIndex", "(II)V"⟩
def RJ1 : String := "java/lang/StringLatin1"
def TJ1 : u_T := fun k => match k with
  | _ => ("", "", "", false)
def tyJ1 : Nat → FieldType := fun k => match k with
  | _ => .int
abbrev wsJ10 : List Cond := u_ws RJ1 TJ1 0
theorem nmJ1 : ∀ a, a < 0 → ∀ b, b < 0 → a ≠ b → (TJ1 a).2.1 ≠ (TJ1 b).2.1 := by decide +kernel
theorem tyJ1_ok : ∀ k, k < 0 → parseFieldDescriptor (TJ1 k).2.2.1 = some (tyJ1 k) := by decide +kernel
abbrev cJ1_charAt_3b067 : ByteArray := prog_22_method_2_code
def yJ1_charAt_3b067 : MethodName := ⟨RJ1, "charAt", "([BI)C"⟩
def RJ2 : String := "java/lang/StringUTF16"
def TJ2 : u_T := fun k => match k with
  | _ => ("", "", "", false)
def tyJ2 : Nat → FieldType := fun k => match k with
  | _ => .int
abbrev wsJ20 : List Cond := u_ws RJ2 TJ2 0
theorem nmJ2 : ∀ a, a < 0 → ∀ b, b < 0 → a ≠ b → (TJ2 a).2.1 ≠ (TJ2 b).2.1 := by decide +kernel
theorem tyJ2_ok : ∀ k, k < 0 → parseFieldDescriptor (TJ2 k).2.2.1 = some (tyJ2 k) := by decide +kernel
abbrev cJ2_getChar_3b067 : ByteArray := prog_23_method_5_code
def yJ2_getChar_3b067 : MethodName := ⟨RJ2, "getChar", "([BI)C"⟩
abbrev cJ2_length_9d52b : ByteArray := prog_23_method_6_code
def yJ2_length_9d52b : MethodName := ⟨RJ2, "length", "([B)I"⟩
abbrev cJ2_charAt_3b067 : ByteArray := prog_23_method_83_code
def yJ2_charAt_3b067 : MethodName := ⟨RJ2, "charAt", "([BI)C"⟩
abbrev cJ2_checkIndex_2214a : ByteArray := prog_23_method_91_code
def yJ2_checkIndex_2214a : MethodName := ⟨RJ2, "checkIndex", "(I[B)V"⟩
def RJ10 : String := "java/lang/System"
def TJ10 : u_T := fun k => match k with
  | _ => ("", "", "", false)
def tyJ10 : Nat → FieldType := fun k => match k with
  | _ => .int
abbrev wsJ100 : List Cond := u_ws RJ10 TJ10 0
theorem nmJ10 : ∀ a, a < 0 → ∀ b, b < 0 → a ≠ b → (TJ10 a).2.1 ≠ (TJ10 b).2.1 := by decide +kernel
theorem tyJ10_ok : ∀ k, k < 0 → parseFieldDescriptor (TJ10 k).2.2.1 = some (tyJ10 k) := by decide +kernel
def RJxfd54e : String := "java/lang/constant/Constable"
def TJxfd54e : u_T := fun k => match k with
  | _ => ("", "", "", false)
def tyJxfd54e : Nat → FieldType := fun k => match k with
  | _ => .int
abbrev wsJxfd54e0 : List Cond := u_ws RJxfd54e TJxfd54e 0
theorem nmJxfd54e : ∀ a, a < 0 → ∀ b, b < 0 → a ≠ b → (TJxfd54e a).2.1 ≠ (TJxfd54e b).2.1 := by decide +kernel
theorem tyJxfd54e_ok : ∀ k, k < 0 → parseFieldDescriptor (TJxfd54e k).2.2.1 = some (tyJxfd54e k) := by decide +kernel
def RJx3cf43 : String := "java/lang/constant/ConstantDesc"
def TJx3cf43 : u_T := fun k => match k with
  | _ => ("", "", "", false)
def tyJx3cf43 : Nat → FieldType := fun k => match k with
  | _ => .int
abbrev wsJx3cf430 : List Cond := u_ws RJx3cf43 TJx3cf43 0
theorem nmJx3cf43 : ∀ a, a < 0 → ∀ b, b < 0 → a ≠ b → (TJx3cf43 a).2.1 ≠ (TJx3cf43 b).2.1 := by decide +kernel
theorem tyJx3cf43_ok : ∀ k, k < 0 → parseFieldDescriptor (TJx3cf43 k).2.2.1 = some (tyJx3cf43 k) := by decide +kernel
def RJ3 : String := "jdk/internal/util/Preconditions"
def TJ3 : u_T := fun k => match k with
  | _ => ("", "", "", false)
def tyJ3 : Nat → FieldType := fun k => match k with
  | _ => .int
abbrev wsJ30 : List Cond := u_ws RJ3 TJ3 0
theorem nmJ3 : ∀ a, a < 0 → ∀ b, b < 0 → a ≠ b → (TJ3 a).2.1 ≠ (TJ3 b).2.1 := by decide +kernel
theorem tyJ3_ok : ∀ k, k < 0 → parseFieldDescriptor (TJ3 k).2.2.1 = some (tyJ3 k) := by decide +kernel
abbrev cJ3_checkIndex_8e157 : ByteArray := prog_29_method_11_code
def yJ3_checkIndex_8e157 : MethodName := ⟨RJ3, "checkIndex", "(IILjava/util/function/BiFunction;)I"⟩
def RL : String := "SundialTreatyLaw"
abbrev cL_town : ByteArray := method_3_code
def yL_town : MethodName := ⟨RL, "town", "(LSundialTreaty;II[J)I"⟩
abbrev cL_due : ByteArray := method_4_code
def yL_due : MethodName := ⟨RL, "due", "(LSundialTreaty;II[J)I"⟩
abbrev cL_train : ByteArray := method_5_code
def yL_train : MethodName := ⟨RL, "train", "(LSundialTreaty;II[J)I"⟩
abbrev cL_shows : ByteArray := method_6_code
def yL_shows : MethodName := ⟨RL, "shows", "(LSundialTreaty;II[J)I"⟩
abbrev cL_now : ByteArray := method_7_code
def yL_now : MethodName := ⟨RL, "now", "(LSundialTreaty;I[J)I"⟩
abbrev cL_noonLong : ByteArray := method_8_code
def yL_noonLong : MethodName := ⟨RL, "noonLong", "(LSundialTreaty;[J)I"⟩
abbrev cL_oneNoon : ByteArray := method_9_code
def yL_oneNoon : MethodName := ⟨RL, "oneNoon", "(LSundialTreaty;[J)I"⟩
abbrev cL_evenAt : ByteArray := method_10_code
def yL_evenAt : MethodName := ⟨RL, "evenAt", "(LSundialTreaty;I[J)I"⟩
abbrev cL_spare : ByteArray := method_11_code
def yL_spare : MethodName := ⟨RL, "spare", "(LSundialTreaty;II[J)I"⟩
abbrev cL_votes : ByteArray := method_12_code
def yL_votes : MethodName := ⟨RL, "votes", "(LSundialTreaty;II[J)I"⟩
abbrev cL_nearerAt : ByteArray := method_13_code
def yL_nearerAt : MethodName := ⟨RL, "nearerAt", "(LSundialTreaty;I[J)I"⟩
abbrev cL_law : ByteArray := code
def yL_law : MethodName := ⟨RL, "law", "([I)Z"⟩
abbrev vwCl : List vw_C := [(RX0, TX0, 10), (RX1, TX1, 2), (RX2, TX2, 4), (RX3, TX3, 2), (RX4, TX4, 15), (RX5, TX5, 5), (RX6, TX6, 5), (RX7, TX7, 7), (RX8, TX8, 16), (RX9, TX9, 1), (RX10, TX10, 17), (RX11, TX11, 51)]
end
section
/-! The abstract machine: ints as constants or 'variable + constant' with an interval for each variable, cells by their numbers. Written with continuations, so that the kernel holds evaluated data. -/
abbrev ab_I : Type := Option Nat × Int
abbrev ab_L : Type := ab_I ⊕ Nat
abbrev ab_V : Type := ab_I ⊕ (ab_L ⊕ (Nat × Nat))
abbrev ab_C : Type := (Nat × List ab_V) ⊕ (Nat × Nat × ab_V × List (Nat × ab_V))
abbrev ab_E : Type := List (Int × Int)
abbrev ab_G : Type := ab_E × Nat × List ab_C × Nat × Nat
abbrev ab_S : Type := ab_G × Nat × List (Nat × ab_V) × List ab_V
abbrev ab_O : Type := Nat × Option ab_V × ab_G
abbrev ab_K : Type := Nat → ab_G → List ab_V → Option (List ab_O)
abbrev ab_A : Type := Option (List ab_S)
abbrev ab_P : Type := ab_K → ab_E → Nat → List ab_C → Nat → Nat → List (Nat × ab_V) → List ab_V → ab_A
section
variable {α β : Type}
def ab_fn (n : Nat) (k : Nat → β) : β := match n with
  | 0 => k 0
  | m + 1 => k (Nat.succ m)
theorem ab_fn_eq (n : Nat) (k : Nat → β) : ab_fn n k = k n := by cases n <;> rfl
def ab_fi (c : Int) (k : Int → β) : β := match c with
  | .ofNat n => ab_fn n (fun n => k (.ofNat n))
  | .negSucc n => ab_fn n (fun n => k (.negSucc n))
theorem ab_fi_eq (c : Int) (k : Int → β) : ab_fi c k = k c := by cases c <;> simp only [ab_fi, ab_fn_eq]
def ab_le (a b : Int) : Bool := match b - a with
  | .ofNat _ => true
  | .negSucc _ => false
theorem ab_le_iff {a b : Int} : ab_le a b = true ↔ a ≤ b := by
  unfold ab_le
  cases h : b - a with
  | ofNat n => simp; have h1 : b - a = (n : Int) := h; omega
  | negSucc n => simp; have h1 : b - a = -((n : Int) + 1) := by rw [h]; rfl
                 omega
theorem ab_le_false {a b : Int} : ab_le a b = false ↔ b < a := by
  have h := @ab_le_iff a b
  cases hc : ab_le a b
  · rw [hc] at h; simp at h ⊢; omega
  · rw [hc] at h; simp at h ⊢; omega
def ab_ie (a b : Int) : Bool := ab_le a b && ab_le b a
theorem ab_ie_iff {a b : Int} : ab_ie a b = true ↔ a = b := by
  unfold ab_ie; rw [Bool.and_eq_true, ab_le_iff, ab_le_iff]; omega
def ab_mx (a b : Int) : Int := bif ab_le a b then b else a
def ab_mn (a b : Int) : Int := bif ab_le a b then a else b
theorem ab_mx_le {a b x : Int} (h1 : a ≤ x) (h2 : b ≤ x) : ab_mx a b ≤ x := by unfold ab_mx; cases ab_le a b <;> assumption
theorem ab_mn_le {a b x : Int} (h1 : x ≤ a) (h2 : x ≤ b) : x ≤ ab_mn a b := by unfold ab_mn; cases ab_le a b <;> assumption
def ab_get : List α → Nat → Option α
  | [], _ => none
  | a :: _, 0 => some a
  | _ :: l, n + 1 => ab_get l n
theorem ab_get_eq : ∀ (l : List α) (n : Nat), ab_get l n = l[n]?
  | [], n => by simp [ab_get]
  | a :: l, 0 => by simp [ab_get]
  | a :: l, n + 1 => by simp [ab_get, ab_get_eq l n]
def ab_setK : List α → Nat → α → (List α → β) → β
  | [], _, _, k => k []
  | _ :: l, 0, x, k => k (x :: l)
  | a :: l, n + 1, x, k => ab_setK l n x (fun t => k (a :: t))
theorem ab_setK_eq : ∀ (l : List α) (n : Nat) (x : α) (k : List α → β), ab_setK l n x k = k (l.set n x)
  | [], n, x, k => by simp [ab_setK]
  | a :: l, 0, x, k => by simp [ab_setK]
  | a :: l, n + 1, x, k => by simp [ab_setK, ab_setK_eq l n]
def ab_appK : List α → α → (List α → β) → β
  | [], x, k => k [x]
  | a :: l, x, k => ab_appK l x (fun t => k (a :: t))
theorem ab_appK_eq : ∀ (l : List α) (x : α) (k : List α → β), ab_appK l x k = k (l ++ [x])
  | [], x, k => by simp [ab_appK]
  | a :: l, x, k => by simp [ab_appK, ab_appK_eq l x]
def ab_lenK : List α → Nat → (Nat → β) → β
  | [], n, k => k n
  | _ :: l, n, k => ab_fn (Nat.succ n) (fun n => ab_lenK l n k)
theorem ab_lenK_eq : ∀ (l : List α) (n : Nat) (k : Nat → β), ab_lenK l n k = k (n + l.length)
  | [], n, k => by simp [ab_lenK]
  | a :: l, n, k => by simp only [ab_lenK, ab_fn_eq, ab_lenK_eq l]; rw [List.length_cons]; congr 1; omega
/-- the interval of an int -/
def ab_ivK (env : ab_E) (a : ab_I) (k : Int → Int → β) : β := match a with
  | (none, c) => bif ab_le (-2147483648) c && ab_le c 2147483647 then k c c else k (-2147483648) 2147483647
  | (some v, c) => match ab_get env v with
    | none => k (-2147483648) 2147483647
    | some (lo, hi) => bif ab_le (-2147483648) (lo + c) && ab_le (hi + c) 2147483647 then ab_fi (lo + c) (fun lo => ab_fi (hi + c) (fun hi => k lo hi)) else k (-2147483648) 2147483647
def ab_iv (env : ab_E) (a : ab_I) : Int × Int := ab_ivK env a (fun lo hi => (lo, hi))
theorem ab_ivK_eq (env : ab_E) (a : ab_I) (k : Int → Int → β) : ab_ivK env a k = k (ab_iv env a).1 (ab_iv env a).2 := by
  obtain ⟨v, c⟩ := a
  cases v with
  | none => simp only [ab_iv, ab_ivK]; cases (ab_le (-2147483648) c && ab_le c 2147483647) <;> rfl
  | some v =>
    simp only [ab_iv, ab_ivK]
    cases ab_get env v with
    | none => rfl
    | some q => obtain ⟨lo, hi⟩ := q; simp only [ab_fi_eq]; cases (ab_le (-2147483648) (lo + c) && ab_le (hi + c) 2147483647) <;> rfl
/-- the environment where the int lies in an interval; none: it can't -/
def ab_rfK (env : ab_E) (a : ab_I) (lo hi : Int) (k : Option ab_E → β) : β := match a with
  | (none, c) => bif ab_le (-2147483648) c && ab_le c 2147483647 then (bif ab_le lo c && ab_le c hi then k (some env) else k none) else k (some env)
  | (some v, c) => match ab_get env v with
    | none => k (some env)
    | some (l0, h0) => bif ab_le (-2147483648) (l0 + c) && ab_le (h0 + c) 2147483647 then
        ab_fi (ab_mx l0 (lo - c)) (fun l1 => ab_fi (ab_mn h0 (hi - c)) (fun h1 => bif ab_le l1 h1 then ab_setK env v (l1, h1) (fun e => k (some e)) else k none))
      else k (some env)
def ab_rf (env : ab_E) (a : ab_I) (lo hi : Int) : Option ab_E := ab_rfK env a lo hi (fun o => o)
theorem ab_rfK_eq (env : ab_E) (a : ab_I) (lo hi : Int) (k : Option ab_E → β) : ab_rfK env a lo hi k = k (ab_rf env a lo hi) := by
  obtain ⟨v, c⟩ := a
  cases v with
  | none => simp only [ab_rf, ab_rfK]; cases (ab_le (-2147483648) c && ab_le c 2147483647) <;> cases (ab_le lo c && ab_le c hi) <;> rfl
  | some v =>
    simp only [ab_rf, ab_rfK]
    cases ab_get env v with
    | none => rfl
    | some q =>
      obtain ⟨l0, h0⟩ := q
      simp only [ab_fi_eq, ab_setK_eq]
      cases (ab_le (-2147483648) (l0 + c) && ab_le (h0 + c) 2147483647) <;> cases (ab_le (ab_mx l0 (lo - c)) (ab_mn h0 (hi - c))) <;> rfl
def ab_eqI (a b : ab_I) : Bool := match a, b with
  | (none, c), (none, d) => ab_ie c d
  | (some v, c), (some w, d) => Nat.beq v w && ab_ie c d
  | _, _ => false
theorem ab_eqI_eq {a b : ab_I} (h : ab_eqI a b = true) : a = b := by
  obtain ⟨v, c⟩ := a
  obtain ⟨w, d⟩ := b
  cases v <;> cases w <;> simp only [ab_eqI, Bool.and_eq_true, ab_ie_iff, Bool.false_eq_true] at h
  · rw [h]
  · rw [Nat.eq_of_beq_eq_true h.1, h.2]
def ab_o1 (o : Option ab_E) (k : List ab_E → β) : β := match o with
  | none => k []
  | some e => k [e]
def ab_both (env : ab_E) (a : ab_I) (la ha : Int) (b : ab_I) (lb hb : Int) (k : List ab_E → β) : β :=
  ab_rfK env a la ha (fun o => match o with
    | none => k []
    | some e => ab_rfK e b lb hb (fun o => ab_o1 o k))
/-- where a < b; where b ≤ a; where they are one; where they aren't -/
def ab_ltK (env : ab_E) (a b : ab_I) (k : List ab_E → β) : β := ab_ivK env a (fun xl _ => ab_ivK env b (fun _ yh => ab_both env a xl (yh - 1) b (xl + 1) yh k))
def ab_geK (env : ab_E) (a b : ab_I) (k : List ab_E → β) : β := ab_ivK env a (fun _ xh => ab_ivK env b (fun yl _ => ab_both env a yl xh b yl xh k))
def ab_eqK (env : ab_E) (a b : ab_I) (k : List ab_E → β) : β := bif ab_eqI a b then k [env] else ab_ivK env a (fun xl xh => ab_ivK env b (fun yl yh => ab_both env a yl yh b xl xh k))
def ab_twoK (env : ab_E) (a : ab_I) (l y h : Int) (k : List ab_E → β) : β := ab_rfK env a l (y - 1) (fun o1 => ab_rfK env a (y + 1) h (fun o2 => ab_o1 o1 (fun r1 => ab_o1 o2 (fun r2 => match r1 with
  | [] => k r2
  | e :: _ => k (e :: r2)))))
def ab_neK (env : ab_E) (a b : ab_I) (k : List ab_E → β) : β := bif ab_eqI a b then k [] else ab_ivK env a (fun xl xh => ab_ivK env b (fun yl yh =>
  bif ab_ie yl yh then ab_twoK env a xl yl xh k else bif ab_ie xl xh then ab_twoK env b yl xl yh k else k [env]))
/-- a condition's two sides; eq 0, ne 1, lt 2, ge 3, gt 4, le 5 -/
def ab_brK (n : Nat) (env : ab_E) (a b : ab_I) (k : List ab_E → List ab_E → β) : β := match n with
  | 0 => ab_eqK env a b (fun t => ab_neK env a b (fun f => k t f))
  | 1 => ab_neK env a b (fun t => ab_eqK env a b (fun f => k t f))
  | 2 => ab_ltK env a b (fun t => ab_geK env a b (fun f => k t f))
  | 3 => ab_geK env a b (fun t => ab_ltK env a b (fun f => k t f))
  | 4 => ab_ltK env b a (fun t => ab_geK env b a (fun f => k t f))
  | _ => ab_geK env b a (fun t => ab_ltK env b a (fun f => k t f))
/-- an int of one value as a constant -/
def ab_cnK (env : ab_E) (a : ab_I) (k : ab_I → β) : β := ab_ivK env a (fun lo hi => bif ab_ie lo hi then k (none, lo) else k a)
def ab_frK (env : ab_E) (lo hi : Int) (k : ab_E → ab_I → β) : β := ab_lenK env 0 (fun n => ab_appK env (lo, hi) (fun e => k e (some n, 0)))
theorem ab_frK_eq (env : ab_E) (lo hi : Int) (k : ab_E → ab_I → β) : ab_frK env lo hi k = k (env ++ [(lo, hi)]) (some env.length, 0) := by
  simp only [ab_frK, ab_lenK_eq, ab_appK_eq, Nat.zero_add]
def ab_nmK (c : Int) (k : Int → β) : β := ab_fi (Int.bmod c 4294967296) k
/-- two constants by f; x + y, x - y; else a new variable -/
def ab_addK (env : ab_E) (x y : ab_I) (k : ab_E → ab_I → β) : β := ab_cnK env x (fun x => ab_cnK env y (fun y => match x, y with
  | (v, c), (none, d) => ab_nmK (c + d) (fun z => k env (v, z))
  | (none, c), (some w, d) => ab_nmK (c + d) (fun z => k env (some w, z))
  | (some _, _), (some _, _) => ab_frK env (-2147483648) 2147483647 k))
def ab_subK (env : ab_E) (x y : ab_I) (k : ab_E → ab_I → β) : β := ab_cnK env x (fun x => ab_cnK env y (fun y => match x, y with
  | (v, c), (none, d) => ab_nmK (c - d) (fun z => k env (v, z))
  | _, (some _, _) => ab_frK env (-2147483648) 2147483647 k))
def ab_binK (f : Int32 → Int32 → Int32) (env : ab_E) (x y : ab_I) (k : ab_E → ab_I → β) : β := ab_cnK env x (fun x => ab_cnK env y (fun y => match x, y with
  | (none, c), (none, d) => ab_fi (f (Int32.ofInt c) (Int32.ofInt d)).toInt (fun z => k env (none, z))
  | _, _ => ab_frK env (-2147483648) 2147483647 k))
/-- x & y, y a constant not below 0 -/
def ab_andK (env : ab_E) (x y : ab_I) (k : ab_E → ab_I → β) : β := ab_cnK env x (fun x => ab_cnK env y (fun y => match x, y with
  | (none, c), (none, d) => ab_fi (Int32.ofInt c &&& Int32.ofInt d).toInt (fun z => k env (none, z))
  | (some _, _), (none, d) => bif ab_le 0 d && ab_le d 2147483647 then ab_frK env 0 d k else ab_frK env (-2147483648) 2147483647 k
  | _, _ => ab_frK env (-2147483648) 2147483647 k))
/-- an array's place; one more put -/
def ab_at (d : ab_V) : List (Nat × ab_V) → Nat → ab_V
  | [], _ => d
  | (k, v) :: r, j => bif Nat.beq k j then v else ab_at d r j
def ab_delK : List (Nat × ab_V) → Nat → (List (Nat × ab_V) → β) → β
  | [], _, k => k []
  | (i, v) :: r, j, k => bif Nat.beq i j then ab_delK r j k else ab_delK r j (fun t => k ((i, v) :: t))
def ab_del (l : List (Nat × ab_V)) (j : Nat) : List (Nat × ab_V) := ab_delK l j (fun t => t)
theorem ab_delK_eq : ∀ (l : List (Nat × ab_V)) (j : Nat) {γ : Type} (k : List (Nat × ab_V) → γ), ab_delK l j k = k (ab_del l j)
  | [], j, _, k => rfl
  | (i, v) :: r, j, _, k => by
    simp only [ab_del, ab_delK]
    cases Nat.beq i j
    · simp only [cond_false]; rw [ab_delK_eq r j (fun t => k ((i, v) :: t)), ab_delK_eq r j (fun t => (i, v) :: t)]
    · simp only [cond_true]; rw [ab_delK_eq r j k, ab_delK_eq r j (fun t => t)]
def ab_same (a b : ab_V) : Bool := match a, b with
  | .inl (none, c), .inl (none, d) => ab_ie c d
  | _, _ => false
theorem ab_same_eq {a b : ab_V} (h : ab_same a b = true) : a = b := by
  unfold ab_same at h
  split at h
  · rw [ab_ie_iff.mp h]
  · cases h
def ab_putK (d : ab_V) (l : List (Nat × ab_V)) (j : Nat) (v : ab_V) (k : List (Nat × ab_V) → β) : β := ab_delK l j (fun t => bif ab_same v d then k t else k ((j, v) :: t))
theorem ab_at_del (d : ab_V) : ∀ (l : List (Nat × ab_V)) (j i : Nat), i ≠ j → ab_at d (ab_del l j) i = ab_at d l i
  | [], j, i, _ => rfl
  | (q, v) :: r, j, i, h => by
    have ih := ab_at_del d r j i h
    simp only [ab_del, ab_delK]
    cases hq : Nat.beq q j
    · simp only [cond_false]; rw [ab_delK_eq r j]; simp only [ab_at]; rw [ih]
    · simp only [cond_true]; rw [ab_delK_eq r j]
      have e : q = j := Nat.eq_of_beq_eq_true hq
      rw [ih]; simp only [ab_at]
      have h2 : Nat.beq q i = false := by
        cases hb : Nat.beq q i
        · rfl
        · exact absurd ((Nat.eq_of_beq_eq_true hb).symm.trans e) h
      rw [h2]; rfl
theorem ab_at_del_self (d : ab_V) : ∀ (l : List (Nat × ab_V)) (j : Nat), ab_at d (ab_del l j) j = d
  | [], j => rfl
  | (q, v) :: r, j => by
    have ih := ab_at_del_self d r j
    simp only [ab_del, ab_delK]
    cases hq : Nat.beq q j
    · simp only [cond_false]; rw [ab_delK_eq r j]; simp only [ab_at]; rw [hq]; exact ih
    · simp only [cond_true]; rw [ab_delK_eq r j]; exact ih
def ab_put (d : ab_V) (l : List (Nat × ab_V)) (j : Nat) (v : ab_V) : List (Nat × ab_V) := ab_putK d l j v (fun t => t)
theorem ab_putK_eq (d : ab_V) (l : List (Nat × ab_V)) (j : Nat) (v : ab_V) (k : List (Nat × ab_V) → β) : ab_putK d l j v k = k (ab_put d l j v) := by
  simp only [ab_put, ab_putK, ab_delK_eq]; cases ab_same v d <;> rfl
theorem ab_at_put (d : ab_V) (l : List (Nat × ab_V)) (j : Nat) (v : ab_V) (i : Nat) : ab_at d (ab_put d l j v) i = if i = j then v else ab_at d l i := by
  simp only [ab_put, ab_putK, ab_delK_eq]
  cases hs : ab_same v d
  · simp only [cond_false, ab_at]
    by_cases h : i = j
    · subst h; rw [if_pos rfl, Nat.beq_refl i]; rfl
    · rw [if_neg h, ab_at_del d l j i h]
      have h2 : Nat.beq j i = false := by
        cases hb : Nat.beq j i
        · rfl
        · exact absurd (Nat.eq_of_beq_eq_true hb).symm h
      rw [h2]; rfl
  · simp only [cond_true]
    by_cases h : i = j
    · subst h; rw [if_pos rfl, ab_at_del_self]; exact (ab_same_eq hs).symm
    · rw [if_neg h, ab_at_del d l j i h]
end
end
section
/-! What an abstract state means. X: the script's cell and length, where the new cells begin, the script's ints, the texts' cells and bytes, the tables' cells, a static's value. z: the variables' values and the cells' addresses. -/
abbrev ab_X : Type := (Nat × Nat × Nat) × (Nat → Int32) × (Nat → Nat) × (Nat → Nat) × (Nat → Nat) × Value
abbrev ab_Z : Type := List Int32 × List Int64 × List Nat
def ab_Ar (X : ab_X) : Nat → Prop := fun q => X.1.2.2 ≤ q
def ab_evI (rho : List Int32) (a : ab_I) : Option Int32 := match a with
  | (none, c) => some (Int32.ofInt c)
  | (some v, c) => (rho[v]?).map (fun x => x + Int32.ofInt c)
def ab_evL (z : ab_Z) (a : ab_L) : Option Int64 := match a with
  | .inl a => (ab_evI z.1 a).map Int32.toInt64
  | .inr v => z.2.1[v]?
def ab_evR (X : ab_X) (z : ab_Z) (r : Nat × Nat) : Option Value := match r with
  | (0, _) => some .null
  | (1, _) => some (.ref X.1.1)
  | (2, k) => (z.2.2[k]?).map (fun a => Value.ref a)
  | (3, i) => some (.ref (X.2.2.1 i))
  | (4, i) => some (.ref (X.2.2.2.1 i))
  | (5, i) => some (.ref (X.2.2.2.2.1 i))
  | (_ + 6, _) => some X.2.2.2.2.2
def ab_ev (X : ab_X) (z : ab_Z) (v : ab_V) : Option Value := match v with
  | .inl a => (ab_evI z.1 a).map (fun x => Value.int x)
  | .inr (.inl l) => (ab_evL z l).map (fun x => Value.long x)
  | .inr (.inr r) => ab_evR X z r
/-- more variables, more cells -/
def ab_ext (z z' : ab_Z) : Prop := (∃ t, z'.1 = z.1 ++ t) ∧ (∃ t, z'.2.1 = z.2.1 ++ t) ∧ ∃ t, z'.2.2 = z.2.2 ++ t
theorem ab_ext.rf {z : ab_Z} : ab_ext z z := ⟨⟨[], by simp⟩, ⟨[], by simp⟩, ⟨[], by simp⟩⟩
theorem ab_ext.tr {z z1 z2 : ab_Z} (h : ab_ext z z1) (h2 : ab_ext z1 z2) : ab_ext z z2 := by
  obtain ⟨⟨a, ha⟩, ⟨b, hb⟩, ⟨c, hc⟩⟩ := h
  obtain ⟨⟨a2, ha2⟩, ⟨b2, hb2⟩, ⟨c2, hc2⟩⟩ := h2
  exact ⟨⟨a ++ a2, by rw [ha2, ha, List.append_assoc]⟩, ⟨b ++ b2, by rw [hb2, hb, List.append_assoc]⟩, ⟨c ++ c2, by rw [hc2, hc, List.append_assoc]⟩⟩
theorem ab_get_app {α : Type} {l t : List α} {n : Nat} {x : α} (h : l[n]? = some x) : (l ++ t)[n]? = some x := by
  rw [List.getElem?_append_left (List.getElem?_eq_some_iff.mp h).1]; exact h
theorem ab_evI.ext {z z' : ab_Z} (h : ab_ext z z') {a : ab_I} {x : Int32} (e : ab_evI z.1 a = some x) : ab_evI z'.1 a = some x := by
  obtain ⟨⟨t, ht⟩, -, -⟩ := h
  obtain ⟨v, c⟩ := a
  cases v with
  | none => exact e
  | some v =>
    simp only [ab_evI, Option.map_eq_some_iff] at e ⊢
    obtain ⟨y, h1, h2⟩ := e
    exact ⟨y, by rw [ht]; exact ab_get_app h1, h2⟩
theorem ab_ev.ext {X : ab_X} {z z' : ab_Z} (h : ab_ext z z') {v : ab_V} {x : Value} (e : ab_ev X z v = some x) : ab_ev X z' v = some x := by
  rcases v with a | l | ⟨t, k⟩
  · simp only [ab_ev, Option.map_eq_some_iff] at e ⊢
    obtain ⟨y, h1, h2⟩ := e
    exact ⟨y, ab_evI.ext h h1, h2⟩
  · rcases l with a | n
    · simp only [ab_ev, ab_evL, Option.map_eq_some_iff] at e ⊢
      obtain ⟨y, ⟨w, h0, h1⟩, h2⟩ := e
      exact ⟨y, ⟨w, ab_evI.ext h h0, h1⟩, h2⟩
    · simp only [ab_ev, ab_evL, Option.map_eq_some_iff] at e ⊢
      obtain ⟨y, h1, h2⟩ := e
      obtain ⟨-, ⟨t, ht⟩, -⟩ := h
      exact ⟨y, by rw [ht]; exact ab_get_app h1, h2⟩
  · match t, e with
    | 0, e => exact e
    | 1, e => exact e
    | 2, e =>
      simp only [ab_ev, ab_evR, Option.map_eq_some_iff] at e ⊢
      obtain ⟨y, h1, h2⟩ := e
      obtain ⟨-, -, ⟨t, ht⟩⟩ := h
      exact ⟨y, by rw [ht]; exact ab_get_app h1, h2⟩
    | 3, e => exact e
    | 4, e => exact e
    | 5, e => exact e
    | _ + 6, e => exact e
theorem ab_evs.ext {X : ab_X} {z z' : ab_Z} (h : ab_ext z z') : ∀ {l : List ab_V} {c : List Value}, l.map (ab_ev X z) = c.map some → l.map (ab_ev X z') = c.map some
  | [], [], _ => rfl
  | [], _ :: _, e => by simp at e
  | _ :: _, [], e => by simp at e
  | a :: l, x :: c, e => by
    simp only [List.map_cons, List.cons.injEq] at e ⊢
    exact ⟨ab_ev.ext h e.1, ab_evs.ext h e.2⟩
/-- the variables lie in their intervals -/
def ab_eR (env : ab_E) (rho : List Int32) : Prop := rho.length = env.length ∧ ∀ (v : Nat) (q : Int × Int), env[v]? = some q → ∃ x, rho[v]? = some x ∧ q.1 ≤ x.toInt ∧ x.toInt ≤ q.2
theorem ab_eR.push {env : ab_E} {rho : List Int32} (h : ab_eR env rho) {lo hi : Int} {x : Int32} (h1 : lo ≤ x.toInt) (h2 : x.toInt ≤ hi) : ab_eR (env ++ [(lo, hi)]) (rho ++ [x]) := by
  refine ⟨by simp [h.1], fun v q hq => ?_⟩
  by_cases hv : v < env.length
  · rw [List.getElem?_append_left hv] at hq
    obtain ⟨y, a, b⟩ := h.2 v q hq
    exact ⟨y, ab_get_app a, b⟩
  · rw [List.getElem?_append_right (by omega)] at hq
    have hz : v - env.length < 1 := (List.getElem?_eq_some_iff.mp hq).1
    have hv2 : v = env.length := by omega
    subst hv2
    rw [Nat.sub_self] at hq
    cases hq
    refine ⟨x, ?_, h1, h2⟩
    rw [List.getElem?_append_right (by rw [h.1]; exact Nat.le_refl _), h.1, Nat.sub_self]; rfl
theorem ab_i32 (x : Int32) : -2147483648 ≤ x.toInt ∧ x.toInt ≤ 2147483647 := by
  have h1 := Int32.minValue_le_toInt x
  have h2 := Int32.toInt_le x
  have e1 : Int32.minValue.toInt = -2147483648 := by decide +kernel
  have e2 : Int32.maxValue.toInt = 2147483647 := by decide +kernel
  omega
theorem ab_of (c : Int) (h1 : -2147483648 ≤ c) (h2 : c ≤ 2147483647) : (Int32.ofInt c).toInt = c := by
  have hs : ((Int32.size : Nat) : Int) = 4294967296 := rfl
  rw [Int32.toInt_ofInt]; exact Int.bmod_eq_of_le (by omega) (by omega)
theorem ab_ofbm (c : Int) : Int32.ofInt (Int.bmod c 4294967296) = Int32.ofInt c := by
  apply Int32.toInt_inj.mp
  rw [Int32.toInt_ofInt, Int32.toInt_ofInt]; exact Int.bmod_bmod
theorem ab_addI (x : Int32) (c : Int) (h1 : -2147483648 ≤ x.toInt + c) (h2 : x.toInt + c ≤ 2147483647) : (x + Int32.ofInt c).toInt = x.toInt + c := by
  have hs : ((Int32.size : Nat) : Int) = 4294967296 := rfl
  rw [Int32.toInt_add, Int32.toInt_ofInt]
  show ((x.toInt + c.bmod 4294967296).bmod 4294967296 : Int) = _
  rw [Int.add_bmod_bmod]; exact Int.bmod_eq_of_le (by omega) (by omega)
theorem ab_iv_spec {env : ab_E} {rho : List Int32} (h : ab_eR env rho) {a : ab_I} {x : Int32} (e : ab_evI rho a = some x) : (ab_iv env a).1 ≤ x.toInt ∧ x.toInt ≤ (ab_iv env a).2 := by
  have hx := ab_i32 x
  obtain ⟨v, c⟩ := a
  cases v with
  | none =>
    simp only [ab_evI, Option.some.injEq] at e
    simp only [ab_iv, ab_ivK]
    cases hc : (ab_le (-2147483648) c && ab_le c 2147483647)
    · exact hx
    · rw [Bool.and_eq_true, ab_le_iff, ab_le_iff] at hc
      rw [← e, ab_of c hc.1 hc.2]; exact ⟨Int.le_refl _, Int.le_refl _⟩
  | some v =>
    simp only [ab_evI, Option.map_eq_some_iff] at e
    obtain ⟨y, h1, h2⟩ := e
    simp only [ab_iv, ab_ivK, ab_get_eq]
    cases hq : env[v]? with
    | none => exact hx
    | some q =>
      obtain ⟨y', a1, a2, a3⟩ := h.2 v q hq
      cases Option.some.inj (a1.symm.trans h1)
      obtain ⟨lo, hi⟩ := q
      simp only [ab_fi_eq]
      cases hc : (ab_le (-2147483648) (lo + c) && ab_le (hi + c) 2147483647)
      · exact hx
      · rw [Bool.and_eq_true, ab_le_iff, ab_le_iff] at hc
        dsimp only at a2 a3
        rw [← h2, ab_addI y c (by omega) (by omega)]
        exact ⟨by simp only [cond_true]; omega, by simp only [cond_true]; omega⟩
theorem ab_rf_spec {env : ab_E} {rho : List Int32} (h : ab_eR env rho) {a : ab_I} {x : Int32} (e : ab_evI rho a = some x) {lo hi : Int} (h1 : lo ≤ x.toInt) (h2 : x.toInt ≤ hi) : ∃ e', ab_rf env a lo hi = some e' ∧ ab_eR e' rho := by
  obtain ⟨v, c⟩ := a
  cases v with
  | none =>
    simp only [ab_evI, Option.some.injEq] at e
    simp only [ab_rf, ab_rfK]
    cases hc : (ab_le (-2147483648) c && ab_le c 2147483647)
    · exact ⟨env, rfl, h⟩
    · rw [Bool.and_eq_true, ab_le_iff, ab_le_iff] at hc
      have e2 := ab_of c hc.1 hc.2
      rw [e] at e2
      have hd : (ab_le lo c && ab_le c hi) = true := by rw [Bool.and_eq_true, ab_le_iff, ab_le_iff]; omega
      rw [hd]; exact ⟨env, rfl, h⟩
  | some v =>
    simp only [ab_evI, Option.map_eq_some_iff] at e
    obtain ⟨y, g1, g2⟩ := e
    simp only [ab_rf, ab_rfK, ab_get_eq]
    cases hq : env[v]? with
    | none => exact ⟨env, rfl, h⟩
    | some q =>
      obtain ⟨y', a1, a2, a3⟩ := h.2 v q hq
      cases Option.some.inj (a1.symm.trans g1)
      obtain ⟨l0, h0⟩ := q
      dsimp only at a2 a3
      simp only [ab_fi_eq, ab_setK_eq]
      cases hc : (ab_le (-2147483648) (l0 + c) && ab_le (h0 + c) 2147483647)
      · exact ⟨env, rfl, h⟩
      · rw [Bool.and_eq_true, ab_le_iff, ab_le_iff] at hc
        have e2 := ab_addI y c (by omega) (by omega)
        rw [g2] at e2
        have k1 : ab_mx l0 (lo - c) ≤ y.toInt := ab_mx_le a2 (by omega)
        have k2 : y.toInt ≤ ab_mn h0 (hi - c) := ab_mn_le a3 (by omega)
        have hd : ab_le (ab_mx l0 (lo - c)) (ab_mn h0 (hi - c)) = true := by rw [ab_le_iff]; omega
        rw [hd]
        refine ⟨_, rfl, by simp [h.1], fun w q hw => ?_⟩
        by_cases hwv : w = v
        · subst hwv
          rw [List.getElem?_set_self (List.getElem?_eq_some_iff.mp hq).1] at hw
          cases hw
          exact ⟨y, a1, k1, k2⟩
        · rw [List.getElem?_set_ne (Ne.symm hwv)] at hw
          exact h.2 w q hw
theorem ab_both_eq {β : Type} (env : ab_E) (a : ab_I) (la ha : Int) (b : ab_I) (lb hb : Int) : ∃ L : List ab_E, (∀ k : List ab_E → β, ab_both env a la ha b lb hb k = k L) ∧ ∀ (rho : List Int32) (x y : Int32), ab_eR env rho → ab_evI rho a = some x → ab_evI rho b = some y → la ≤ x.toInt → x.toInt ≤ ha → lb ≤ y.toInt → y.toInt ≤ hb → ∃ e ∈ L, ab_eR e rho := by
  cases h1 : ab_rf env a la ha with
  | none =>
    refine ⟨[], fun k => by simp only [ab_both, ab_rfK_eq, h1], fun rho x y h hx hy g1 g2 _ _ => ?_⟩
    obtain ⟨e', q, -⟩ := ab_rf_spec h hx g1 g2
    rw [h1] at q; cases q
  | some e1 =>
    cases h2 : ab_rf e1 b lb hb with
    | none =>
      refine ⟨[], fun k => by simp only [ab_both, ab_rfK_eq, h1, h2, ab_o1], fun rho x y h hx hy g1 g2 g3 g4 => ?_⟩
      obtain ⟨e', q, hq⟩ := ab_rf_spec h hx g1 g2
      rw [h1] at q; cases q
      obtain ⟨e', q, -⟩ := ab_rf_spec hq hy g3 g4
      rw [h2] at q; cases q
    | some e2 =>
      refine ⟨[e2], fun k => by simp only [ab_both, ab_rfK_eq, h1, h2, ab_o1], fun rho x y h hx hy g1 g2 g3 g4 => ?_⟩
      obtain ⟨e', q, hq⟩ := ab_rf_spec h hx g1 g2
      rw [h1] at q; cases q
      obtain ⟨e', q, hq2⟩ := ab_rf_spec hq hy g3 g4
      rw [h2] at q; cases q
      exact ⟨e2, List.mem_singleton.mpr rfl, hq2⟩
/-- 'L holds every case in which P' -/
def ab_cov (env : ab_E) (a b : ab_I) (P : Int → Int → Prop) (L : List ab_E) : Prop := ∀ (rho : List Int32) (x y : Int32), ab_eR env rho → ab_evI rho a = some x → ab_evI rho b = some y → P x.toInt y.toInt → ∃ e ∈ L, ab_eR e rho
theorem ab_ltK_eq {β : Type} (env : ab_E) (a b : ab_I) : ∃ L, (∀ k : List ab_E → β, ab_ltK env a b k = k L) ∧ ab_cov env a b (fun x y => x < y) L := by
  obtain ⟨L, h1, h2⟩ := ab_both_eq (β := β) env a (ab_iv env a).1 ((ab_iv env b).2 - 1) b ((ab_iv env a).1 + 1) (ab_iv env b).2
  refine ⟨L, fun k => by simp only [ab_ltK, ab_ivK_eq, h1], fun rho x y h hx hy hP => ?_⟩
  have i1 := ab_iv_spec h hx
  have i2 := ab_iv_spec h hy
  exact h2 rho x y h hx hy (by omega) (by omega) (by omega) (by omega)
theorem ab_geK_eq {β : Type} (env : ab_E) (a b : ab_I) : ∃ L, (∀ k : List ab_E → β, ab_geK env a b k = k L) ∧ ab_cov env a b (fun x y => ¬ x < y) L := by
  obtain ⟨L, h1, h2⟩ := ab_both_eq (β := β) env a (ab_iv env b).1 (ab_iv env a).2 b (ab_iv env b).1 (ab_iv env a).2
  refine ⟨L, fun k => by simp only [ab_geK, ab_ivK_eq, h1], fun rho x y h hx hy hP => ?_⟩
  have i1 := ab_iv_spec h hx
  have i2 := ab_iv_spec h hy
  exact h2 rho x y h hx hy (by omega) (by omega) (by omega) (by omega)
theorem ab_eqK_eq {β : Type} (env : ab_E) (a b : ab_I) : ∃ L, (∀ k : List ab_E → β, ab_eqK env a b k = k L) ∧ ab_cov env a b (fun x y => x = y) L := by
  cases hc : ab_eqI a b
  · obtain ⟨L, h1, h2⟩ := ab_both_eq (β := β) env a (ab_iv env b).1 (ab_iv env b).2 b (ab_iv env a).1 (ab_iv env a).2
    refine ⟨L, fun k => by simp only [ab_eqK, hc, cond_false, ab_ivK_eq, h1], fun rho x y h hx hy hP => ?_⟩
    have i1 := ab_iv_spec h hx
    have i2 := ab_iv_spec h hy
    exact h2 rho x y h hx hy (by omega) (by omega) (by omega) (by omega)
  · exact ⟨[env], fun k => by simp only [ab_eqK, hc, cond_true], fun rho x y h _ _ _ => ⟨env, List.mem_singleton.mpr rfl, h⟩⟩
theorem ab_twoK_eq {β : Type} (env : ab_E) (a : ab_I) (l y h : Int) : ∃ L, (∀ k : List ab_E → β, ab_twoK env a l y h k = k L) ∧ ∀ (rho : List Int32) (x : Int32), ab_eR env rho → ab_evI rho a = some x → l ≤ x.toInt → x.toInt ≤ h → ¬ x.toInt = y → ∃ e ∈ L, ab_eR e rho := by
  cases h1 : ab_rf env a l (y - 1) with
  | none =>
    cases h2 : ab_rf env a (y + 1) h with
    | none =>
      refine ⟨[], fun k => by simp only [ab_twoK, ab_rfK_eq, h1, h2, ab_o1], fun rho x hR hx g1 g2 g3 => ?_⟩
      by_cases hl : x.toInt < y
      · obtain ⟨e', q, -⟩ := ab_rf_spec (lo := l) (hi := y - 1) hR hx g1 (by omega)
        rw [h1] at q; cases q
      · obtain ⟨e', q, -⟩ := ab_rf_spec (lo := y + 1) (hi := h) hR hx (by omega) g2
        rw [h2] at q; cases q
    | some e2 =>
      refine ⟨[e2], fun k => by simp only [ab_twoK, ab_rfK_eq, h1, h2, ab_o1], fun rho x hR hx g1 g2 g3 => ?_⟩
      by_cases hl : x.toInt < y
      · obtain ⟨e', q, -⟩ := ab_rf_spec (lo := l) (hi := y - 1) hR hx g1 (by omega)
        rw [h1] at q; cases q
      · obtain ⟨e', q, hq⟩ := ab_rf_spec (lo := y + 1) (hi := h) hR hx (by omega) g2
        rw [h2] at q; cases q
        exact ⟨_, List.mem_singleton.mpr rfl, hq⟩
  | some e1 =>
    cases h2 : ab_rf env a (y + 1) h with
    | none =>
      refine ⟨[e1], fun k => by simp only [ab_twoK, ab_rfK_eq, h1, h2, ab_o1], fun rho x hR hx g1 g2 g3 => ?_⟩
      by_cases hl : x.toInt < y
      · obtain ⟨e', q, hq⟩ := ab_rf_spec (lo := l) (hi := y - 1) hR hx g1 (by omega)
        rw [h1] at q; cases q
        exact ⟨_, List.mem_singleton.mpr rfl, hq⟩
      · obtain ⟨e', q, -⟩ := ab_rf_spec (lo := y + 1) (hi := h) hR hx (by omega) g2
        rw [h2] at q; cases q
    | some e2 =>
      refine ⟨[e1, e2], fun k => by simp only [ab_twoK, ab_rfK_eq, h1, h2, ab_o1], fun rho x hR hx g1 g2 g3 => ?_⟩
      by_cases hl : x.toInt < y
      · obtain ⟨e', q, hq⟩ := ab_rf_spec (lo := l) (hi := y - 1) hR hx g1 (by omega)
        rw [h1] at q; cases q
        exact ⟨_, List.mem_cons_self, hq⟩
      · obtain ⟨e', q, hq⟩ := ab_rf_spec (lo := y + 1) (hi := h) hR hx (by omega) g2
        rw [h2] at q; cases q
        exact ⟨_, List.mem_cons_of_mem _ List.mem_cons_self, hq⟩
theorem ab_neK_eq {β : Type} (env : ab_E) (a b : ab_I) : ∃ L, (∀ k : List ab_E → β, ab_neK env a b k = k L) ∧ ab_cov env a b (fun x y => ¬ x = y) L := by
  cases hc : ab_eqI a b
  · cases h1 : ab_ie (ab_iv env b).1 (ab_iv env b).2
    · cases h2 : ab_ie (ab_iv env a).1 (ab_iv env a).2
      · exact ⟨[env], fun k => by simp only [ab_neK, hc, cond_false, ab_ivK_eq, h1, h2], fun rho x y h _ _ _ => ⟨env, List.mem_singleton.mpr rfl, h⟩⟩
      · obtain ⟨L, k1, k2⟩ := ab_twoK_eq (β := β) env b (ab_iv env b).1 (ab_iv env a).1 (ab_iv env b).2
        refine ⟨L, fun k => by simp only [ab_neK, hc, cond_false, ab_ivK_eq, h1, h2, cond_true, k1], fun rho x y h hx hy hP => ?_⟩
        have i1 := ab_iv_spec h hx
        have i2 := ab_iv_spec h hy
        rw [ab_ie_iff] at h2
        exact k2 rho y h hy i2.1 i2.2 (fun q => hP (by omega))
    · obtain ⟨L, k1, k2⟩ := ab_twoK_eq (β := β) env a (ab_iv env a).1 (ab_iv env b).1 (ab_iv env a).2
      refine ⟨L, fun k => by simp only [ab_neK, hc, cond_false, ab_ivK_eq, h1, cond_true, k1], fun rho x y h hx hy hP => ?_⟩
      have i1 := ab_iv_spec h hx
      have i2 := ab_iv_spec h hy
      rw [ab_ie_iff] at h1
      exact k2 rho x h hx i1.1 i1.2 (fun q => hP (by omega))
  · refine ⟨[], fun k => by simp only [ab_neK, hc, cond_true], fun rho x y h hx hy hP => ?_⟩
    cases ab_eqI_eq hc
    rw [hx] at hy
    cases hy
    exact absurd rfl hP
theorem ab_cov.sw {env : ab_E} {a b : ab_I} {P : Int → Int → Prop} {L : List ab_E} (h : ab_cov env b a P L) : ab_cov env a b (fun x y => P y x) L := fun rho x y hR hx hy hP => h rho y x hR hy hx hP
/-- which condition -/
def ab_hd (n : Nat) (x y : Int) : Prop := match n with
  | 0 => x = y
  | 1 => ¬ x = y
  | 2 => x < y
  | 3 => ¬ x < y
  | 4 => y < x
  | _ => ¬ y < x
theorem ab_brK_eq {β : Type} (n : Nat) (env : ab_E) (a b : ab_I) : ∃ T F, (∀ k : List ab_E → List ab_E → β, ab_brK n env a b k = k T F) ∧ ab_cov env a b (ab_hd n) T ∧ ab_cov env a b (fun x y => ¬ ab_hd n x y) F := by
  have e0 := ab_eqK_eq (β := β) env a b
  have e1 := ab_neK_eq (β := β) env a b
  have e2 := ab_ltK_eq (β := β) env a b
  have e3 := ab_geK_eq (β := β) env a b
  have e4 := ab_ltK_eq (β := β) env b a
  have e5 := ab_geK_eq (β := β) env b a
  match n with
  | 0 =>
    obtain ⟨T, t1, t2⟩ := e0
    obtain ⟨F, f1, f2⟩ := e1
    exact ⟨T, F, fun k => by simp only [ab_brK, t1, f1], t2, f2⟩
  | 1 =>
    obtain ⟨T, t1, t2⟩ := e0
    obtain ⟨F, f1, f2⟩ := e1
    exact ⟨F, T, fun k => by simp only [ab_brK, t1, f1], f2, fun rho x y h hx hy hP => t2 rho x y h hx hy (Classical.not_not.mp hP)⟩
  | 2 =>
    obtain ⟨T, t1, t2⟩ := e2
    obtain ⟨F, f1, f2⟩ := e3
    exact ⟨T, F, fun k => by simp only [ab_brK, t1, f1], t2, f2⟩
  | 3 =>
    obtain ⟨T, t1, t2⟩ := e2
    obtain ⟨F, f1, f2⟩ := e3
    exact ⟨F, T, fun k => by simp only [ab_brK, t1, f1], f2, fun rho x y h hx hy hP => t2 rho x y h hx hy (Classical.not_not.mp hP)⟩
  | 4 =>
    obtain ⟨T, t1, t2⟩ := e4
    obtain ⟨F, f1, f2⟩ := e5
    exact ⟨T, F, fun k => by simp only [ab_brK, t1, f1], t2.sw, f2.sw⟩
  | n + 5 =>
    obtain ⟨T, t1, t2⟩ := e4
    obtain ⟨F, f1, f2⟩ := e5
    exact ⟨F, T, fun k => by simp only [ab_brK, t1, f1], f2.sw, fun rho x y h hx hy hP => t2.sw rho x y h hx hy (Classical.not_not.mp hP)⟩
theorem ab_cnK_eq {β : Type} (env : ab_E) (a : ab_I) : ∃ a', (∀ k : ab_I → β, ab_cnK env a k = k a') ∧ ∀ (rho : List Int32) (x : Int32), ab_eR env rho → ab_evI rho a = some x → ab_evI rho a' = some x := by
  cases hc : ab_ie (ab_iv env a).1 (ab_iv env a).2
  · exact ⟨a, fun k => by simp only [ab_cnK, ab_ivK_eq, hc, cond_false], fun _ _ _ h => h⟩
  · refine ⟨(none, (ab_iv env a).1), fun k => by simp only [ab_cnK, ab_ivK_eq, hc, cond_true], fun rho x h hx => ?_⟩
    have i1 := ab_iv_spec h hx
    rw [ab_ie_iff] at hc
    have e : x.toInt = (ab_iv env a).1 := by omega
    simp only [ab_evI]
    rw [← e, Int32.ofInt_toInt]
/-- a computed int: the same variables, or one more -/
def ab_res (env : ab_E) (x y : ab_I) (f : Int32 → Int32 → Int32) (env' : ab_E) (a' : ab_I) : Prop := ∀ (rho : List Int32) (u v : Int32), ab_eR env rho → ab_evI rho x = some u → ab_evI rho y = some v → ∃ t, ab_eR env' (rho ++ t) ∧ ab_evI (rho ++ t) a' = some (f u v)
theorem ab_res_fr {env : ab_E} {x y : ab_I} {f : Int32 → Int32 → Int32} {lo hi : Int} (h : ∀ (rho : List Int32) (u v : Int32), ab_eR env rho → ab_evI rho x = some u → ab_evI rho y = some v → lo ≤ (f u v).toInt ∧ (f u v).toInt ≤ hi) : ab_res env x y f (env ++ [(lo, hi)]) (some env.length, 0) := by
  intro rho u v hR hu hv
  obtain ⟨h1, h2⟩ := h rho u v hR hu hv
  refine ⟨[f u v], hR.push h1 h2, ?_⟩
  simp only [ab_evI]
  rw [List.getElem?_append_right (by rw [hR.1]; exact Nat.le_refl _), hR.1, Nat.sub_self]
  simp
theorem ab_res_any {env : ab_E} {x y : ab_I} {f : Int32 → Int32 → Int32} : ab_res env x y f (env ++ [(-2147483648, 2147483647)]) (some env.length, 0) := ab_res_fr (fun _ u v _ _ _ => ab_i32 (f u v))
theorem ab_addK_eq {β : Type} (env : ab_E) (x y : ab_I) : ∃ env' a', (∀ k : ab_E → ab_I → β, ab_addK env x y k = k env' a') ∧ ab_res env x y (fun u v => u + v) env' a' := by
  obtain ⟨x', hx, hx2⟩ := ab_cnK_eq (β := β) env x
  obtain ⟨y', hy, hy2⟩ := ab_cnK_eq (β := β) env y
  obtain ⟨v, c⟩ := x'
  obtain ⟨w, d⟩ := y'
  cases w with
  | none =>
    refine ⟨env, (v, Int.bmod (c + d) 4294967296), fun k => by simp only [ab_addK, hx, hy, ab_nmK, ab_fi_eq], fun rho u t hR hu ht => ⟨[], by rw [List.append_nil]; exact hR, ?_⟩⟩
    have h1 := hx2 rho u hR hu
    have h2 := hy2 rho t hR ht
    rw [List.append_nil]
    simp only [ab_evI, Option.some.injEq] at h2
    cases v with
    | none =>
      simp only [ab_evI, Option.some.injEq] at h1 ⊢
      rw [ab_ofbm, Int32.ofInt_add, h1, h2]
    | some v =>
      simp only [ab_evI, Option.map_eq_some_iff] at h1 ⊢
      obtain ⟨q, a1, a2⟩ := h1
      exact ⟨q, a1, by rw [ab_ofbm, Int32.ofInt_add, ← a2, ← h2, Int32.add_assoc]⟩
  | some w =>
    cases v with
    | none =>
      refine ⟨env, (some w, Int.bmod (c + d) 4294967296), fun k => by simp only [ab_addK, hx, hy, ab_nmK, ab_fi_eq], fun rho u t hR hu ht => ⟨[], by rw [List.append_nil]; exact hR, ?_⟩⟩
      have h1 := hx2 rho u hR hu
      have h2 := hy2 rho t hR ht
      rw [List.append_nil]
      simp only [ab_evI, Option.some.injEq] at h1
      simp only [ab_evI, Option.map_eq_some_iff] at h2 ⊢
      obtain ⟨q, a1, a2⟩ := h2
      refine ⟨q, a1, ?_⟩
      rw [ab_ofbm, Int32.ofInt_add, ← a2, ← h1, ← Int32.add_assoc, Int32.add_comm q, Int32.add_assoc]
    | some v => exact ⟨_, _, fun k => by simp only [ab_addK, hx, hy, ab_frK_eq], ab_res_any⟩
theorem ab_subK_eq {β : Type} (env : ab_E) (x y : ab_I) : ∃ env' a', (∀ k : ab_E → ab_I → β, ab_subK env x y k = k env' a') ∧ ab_res env x y (fun u v => u - v) env' a' := by
  obtain ⟨x', hx, hx2⟩ := ab_cnK_eq (β := β) env x
  obtain ⟨y', hy, hy2⟩ := ab_cnK_eq (β := β) env y
  obtain ⟨v, c⟩ := x'
  obtain ⟨w, d⟩ := y'
  cases w with
  | none =>
    refine ⟨env, (v, Int.bmod (c - d) 4294967296), fun k => by simp only [ab_subK, hx, hy, ab_nmK, ab_fi_eq], fun rho u t hR hu ht => ⟨[], by rw [List.append_nil]; exact hR, ?_⟩⟩
    have h1 := hx2 rho u hR hu
    have h2 := hy2 rho t hR ht
    rw [List.append_nil]
    simp only [ab_evI, Option.some.injEq] at h2
    cases v with
    | none =>
      simp only [ab_evI, Option.some.injEq] at h1 ⊢
      rw [ab_ofbm, Int32.ofInt_sub, h1, h2]
    | some v =>
      simp only [ab_evI, Option.map_eq_some_iff] at h1 ⊢
      obtain ⟨q, a1, a2⟩ := h1
      exact ⟨q, a1, by rw [ab_ofbm, Int32.ofInt_sub, ← a2, ← h2, Int32.sub_eq_add_neg, Int32.sub_eq_add_neg, Int32.add_assoc]⟩
  | some w => exact ⟨_, _, fun k => by cases v <;> simp only [ab_subK, hx, hy, ab_frK_eq], ab_res_any⟩
theorem ab_binK_eq {β : Type} (f : Int32 → Int32 → Int32) (env : ab_E) (x y : ab_I) : ∃ env' a', (∀ k : ab_E → ab_I → β, ab_binK f env x y k = k env' a') ∧ ab_res env x y f env' a' := by
  obtain ⟨x', hx, hx2⟩ := ab_cnK_eq (β := β) env x
  obtain ⟨y', hy, hy2⟩ := ab_cnK_eq (β := β) env y
  obtain ⟨v, c⟩ := x'
  obtain ⟨w, d⟩ := y'
  cases v with
  | some v => exact ⟨_, _, fun k => by cases w <;> simp only [ab_binK, hx, hy, ab_frK_eq], ab_res_any⟩
  | none =>
    cases w with
    | some w => exact ⟨_, _, fun k => by simp only [ab_binK, hx, hy, ab_frK_eq], ab_res_any⟩
    | none =>
      refine ⟨env, (none, (f (Int32.ofInt c) (Int32.ofInt d)).toInt), fun k => by simp only [ab_binK, hx, hy, ab_fi_eq], fun rho u t hR hu ht => ⟨[], by rw [List.append_nil]; exact hR, ?_⟩⟩
      have h1 := hx2 rho u hR hu
      have h2 := hy2 rho t hR ht
      simp only [ab_evI, Option.some.injEq] at h1 h2 ⊢
      rw [Int32.ofInt_toInt, h1, h2]
theorem ab_and_in (u : Int32) (d : Int) (h0 : 0 ≤ d) (h1 : d ≤ 2147483647) : 0 ≤ (u &&& Int32.ofInt d).toInt ∧ (u &&& Int32.ofInt d).toInt ≤ d := by
  have e : (Int32.ofInt d) = nI d.toNat := by
    apply Int32.toInt_inj.mp
    rw [ab_of d (by omega) h1, nI_toInt (by omega)]; omega
  have hb : (u &&& Int32.ofInt d).toBitVec.toNat ≤ d.toNat := by
    rw [Int32.toBitVec_and, BitVec.toNat_and]
    refine Nat.le_trans Nat.and_le_right ?_
    rw [e, pk_tn (by omega)]; exact Nat.le_refl _
  have h2 : (u &&& Int32.ofInt d).toInt = ((u &&& Int32.ofInt d).toBitVec.toNat : Int) := by
    show (u &&& Int32.ofInt d).toBitVec.toInt = _
    rw [BitVec.toInt_eq_toNat_of_lt (by omega)]
  rw [h2]; omega
theorem ab_andK_eq {β : Type} (env : ab_E) (x y : ab_I) : ∃ env' a', (∀ k : ab_E → ab_I → β, ab_andK env x y k = k env' a') ∧ ab_res env x y (fun u v => u &&& v) env' a' := by
  obtain ⟨x', hx, hx2⟩ := ab_cnK_eq (β := β) env x
  obtain ⟨y', hy, hy2⟩ := ab_cnK_eq (β := β) env y
  obtain ⟨v, c⟩ := x'
  obtain ⟨w, d⟩ := y'
  cases v with
  | some v =>
    cases w with
    | some w => exact ⟨_, _, fun k => by simp only [ab_andK, hx, hy, ab_frK_eq], ab_res_any⟩
    | none =>
      cases hc : (ab_le 0 d && ab_le d 2147483647)
      · exact ⟨_, _, fun k => by simp only [ab_andK, hx, hy, ab_frK_eq, hc, cond_false], ab_res_any⟩
      · refine ⟨env ++ [(0, d)], (some env.length, 0), fun k => by simp only [ab_andK, hx, hy, ab_frK_eq, hc, cond_true], ab_res_fr (fun rho u t hR hu ht => ?_)⟩
        rw [Bool.and_eq_true, ab_le_iff, ab_le_iff] at hc
        have h2 := hy2 rho t hR ht
        simp only [ab_evI, Option.some.injEq] at h2
        rw [← h2]
        exact ab_and_in u d hc.1 hc.2
  | none =>
    cases w with
    | some w => exact ⟨_, _, fun k => by simp only [ab_andK, hx, hy, ab_frK_eq], ab_res_any⟩
    | none =>
      refine ⟨env, (none, (Int32.ofInt c &&& Int32.ofInt d).toInt), fun k => by simp only [ab_andK, hx, hy, ab_fi_eq], fun rho u t hR hu ht => ⟨[], by rw [List.append_nil]; exact hR, ?_⟩⟩
      have h1 := hx2 rho u hR hu
      have h2 := hy2 rho t hR ht
      simp only [ab_evI, Option.some.injEq] at h1 h2 ⊢
      rw [Int32.ofInt_toInt, h1, h2]
end
section
/-! Cells, worlds, locals, and what it is to be right at a state. -/
abbrev ab_ct : Type := (Nat → Int32) ⊕ (Nat → Int64) ⊕ (Nat → UInt32) ⊕ (Nat → UInt64) ⊕ (Nat → Option Nat)
def ab_cv (x : ab_ct) (j : Nat) : Value := match x with
  | .inl f => .int (f j)
  | .inr (.inl f) => .long (f j)
  | .inr (.inr (.inl f)) => .float (f j)
  | .inr (.inr (.inr (.inl f))) => .double (f j)
  | .inr (.inr (.inr (.inr f))) => va_rf (f j)
def ab_ft (t : Nat) : FieldType := match t with
  | 0 => .int
  | 1 => .long
  | 2 => .byte
  | 3 => .boolean
  | n + 4 => match vwCl[n]? with
    | some q => .object q.1
    | none => .int
def ab_km (t : Nat) (x : ab_ct) : Prop := match t with
  | 0 => ∃ f, x = .inl f
  | 1 => ∃ f, x = .inr (.inl f)
  | 2 => ∃ f, x = .inl f
  | 3 => ∃ f, x = .inl f
  | _ + 4 => ∃ f, x = .inr (.inr (.inr (.inr f)))
def ab_cR (X : ab_X) (z : ab_Z) (s : State) (c : ab_C) (e : va_E) : Prop := match c with
  | .inl o => ∃ vs, e = .inr (o.1, vs) ∧ o.2.map (ab_ev X z) = vs.map some
  | .inr a => ∃ (cA : ClassId) (x : ab_ct), e = .inl (cA, a.2.1, x) ∧ ab_km a.1 x ∧ (ArrOfT s cA (ab_ft a.1) ∧ va_RA s cA (ab_ft a.1)) ∧ ∀ j : Nat, j < a.2.1 → ab_ev X z (ab_at a.2.2.1 a.2.2.2 j) = some (ab_cv x j)
theorem ab_cR.ext {X : ab_X} {z z' : ab_Z} {s : State} {c : ab_C} {e : va_E} (h : ab_ext z z') (hc : ab_cR X z s c e) : ab_cR X z' s c e := by
  rcases c with o | a
  · obtain ⟨vs, h1, h2⟩ := hc
    exact ⟨vs, h1, ab_evs.ext h h2⟩
  · obtain ⟨cA, x, h1, h2, h3, h4⟩ := hc
    exact ⟨cA, x, h1, h2, h3, fun j hj => ab_ev.ext h (h4 j hj)⟩
theorem ab_cR.moved {X : ab_X} {z : ab_Z} {s U : State} {c : ab_C} {e : va_E} (h : s.vm.Alike U.vm) (hc : ab_cR X z s c e) : ab_cR X z U c e := by
  rcases c with o | a
  · exact hc
  · obtain ⟨cA, x, h1, h2, h3, h4⟩ := hc
    exact ⟨cA, x, h1, h2, ⟨arrOfT_moved h h3.1, h3.2.moved h⟩, h4⟩
def ab_wR (X : ab_X) (z : ab_Z) (s : State) (aw : List ab_C) (ws : va_W) : Prop := aw.length = ws.length ∧ ∀ (k : Nat) (c : ab_C), aw[k]? = some c → ∃ q, ws[k]? = some q ∧ ab_cR X z s c q.2
theorem ab_wR.ext {X : ab_X} {z z' : ab_Z} {s : State} {aw : List ab_C} {ws : va_W} (h : ab_ext z z') (hw : ab_wR X z s aw ws) : ab_wR X z' s aw ws :=
  ⟨hw.1, fun k c hk => by obtain ⟨q, h1, h2⟩ := hw.2 k c hk; exact ⟨q, h1, h2.ext h⟩⟩
theorem ab_wR.moved {X : ab_X} {z : ab_Z} {s U : State} {aw : List ab_C} {ws : va_W} (h : s.vm.Alike U.vm) (hw : ab_wR X z s aw ws) : ab_wR X z U aw ws :=
  ⟨hw.1, fun k c hk => by obtain ⟨q, h1, h2⟩ := hw.2 k c hk; exact ⟨q, h1, h2.moved h⟩⟩
theorem ab_wR.set {X : ab_X} {z : ab_Z} {s : State} {aw : List ab_C} {ws : va_W} (hw : ab_wR X z s aw ws) {k a : Nat} {c : ab_C} {e : va_E} (hc : ab_cR X z s c e) : ab_wR X z s (aw.set k c) (ws.set k (a, e)) := by
  refine ⟨by simp [hw.1], fun j d hj => ?_⟩
  by_cases hjk : j = k
  · subst hjk
    by_cases hl : j < aw.length
    · rw [List.getElem?_set_self hl] at hj
      cases hj
      exact ⟨(a, e), List.getElem?_set_self (by rw [← hw.1]; exact hl), hc⟩
    · rw [List.getElem?_eq_none (by simp; omega)] at hj
      cases hj
  · rw [List.getElem?_set_ne (Ne.symm hjk)] at hj ⊢
    exact hw.2 j d hj
theorem ab_wR.push {X : ab_X} {z : ab_Z} {s : State} {aw : List ab_C} {ws : va_W} (hw : ab_wR X z s aw ws) {a : Nat} {c : ab_C} {e : va_E} (hc : ab_cR X z s c e) : ab_wR X z s (aw ++ [c]) (ws ++ [(a, e)]) := by
  refine ⟨by simp [hw.1], fun j d hj => ?_⟩
  by_cases hl : j < aw.length
  · rw [List.getElem?_append_left hl] at hj
    obtain ⟨q, h1, h2⟩ := hw.2 j d hj
    exact ⟨q, ab_get_app h1, h2⟩
  · rw [List.getElem?_append_right (by omega)] at hj
    have hz : j - aw.length < 1 := (List.getElem?_eq_some_iff.mp hj).1
    have e0 : j = aw.length := by omega
    subst e0
    rw [Nat.sub_self] at hj
    cases hj
    refine ⟨(a, e), ?_, hc⟩
    rw [List.getElem?_append_right (by rw [hw.1]; exact Nat.le_refl _), hw.1, Nat.sub_self]; rfl
theorem ab_fst_set {ws : va_W} {k a : Nat} {e0 e : va_E} (h : ws[k]? = some (a, e0)) : (ws.set k (a, e)).map Prod.fst = ws.map Prod.fst := by
  apply List.ext_getElem?
  intro j
  rw [List.getElem?_map, List.getElem?_map]
  by_cases hj : j = k
  · subst hj
    rw [List.getElem?_set_self (List.getElem?_eq_some_iff.mp h).1, h]; rfl
  · rw [List.getElem?_set_ne (Ne.symm hj)]
def ab_sc (X : ab_X) (rho : List Int32) : Prop := (∀ j : Nat, j < 6 → rho[j]? = some (X.2.1 j)) ∧ rho[6]? = some (Int32.ofNat X.1.2.1)
theorem ab_sc.ext {X : ab_X} {rho t : List Int32} (h : ab_sc X rho) : ab_sc X (rho ++ t) := ⟨fun j hj => ab_get_app (h.1 j hj), ab_get_app h.2⟩
/-- the state's meaning: variables, cells, the heap -/
def ab_R (X : ab_X) (D : va_G) (s : State) (z0 : ab_Z) (env : ab_E) (nl : Nat) (aw : List ab_C) (z : ab_Z) (ws : va_W) (H : Heap) (locs : List Loc) : Prop :=
  ab_eR env z.1 ∧ z.2.1.length = nl ∧ ws.map Prod.fst = z.2.2 ∧ ab_wR X z s aw ws ∧ va_P D vwCl ws H ∧ va_D (ab_Ar X) ws ∧ va_S (ab_Ar X) s.heap H locs ∧ ab_sc X z.1 ∧ ab_ext z0 z
section
variable {X : ab_X} {D : va_G} {s : State} {z0 : ab_Z} {env env' : ab_E} {nl : Nat} {aw : List ab_C} {z : ab_Z} {ws : va_W} {H : Heap} {locs : List Loc}
theorem ab_ext_v {t : List Int32} : ab_ext z (z.1 ++ t, z.2) := ⟨⟨t, rfl⟩, ⟨[], by simp⟩, ⟨[], by simp⟩⟩
theorem ab_R.vars (h : ab_R X D s z0 env nl aw z ws H locs) {t : List Int32} (he : ab_eR env' (z.1 ++ t)) : ab_R X D s z0 env' nl aw (z.1 ++ t, z.2) ws H locs := by
  obtain ⟨h1, h2, h3, h4, h5, h6, h7, h8, h9⟩ := h
  exact ⟨he, h2, h3, h4.ext ab_ext_v, h5, h6, h7, h8.ext, h9.tr ab_ext_v⟩
theorem ab_R.ref (h : ab_R X D s z0 env nl aw z ws H locs) (he : ab_eR env' z.1) : ab_R X D s z0 env' nl aw z ws H locs := by
  obtain ⟨h1, h2, h3, h4, h5, h6, h7, h8, h9⟩ := h
  exact ⟨he, h2, h3, h4, h5, h6, h7, h8, h9⟩
theorem ab_ext_l {y : Int64} : ab_ext z (z.1, z.2.1 ++ [y], z.2.2) := ⟨⟨[], by simp⟩, ⟨[y], rfl⟩, ⟨[], by simp⟩⟩
theorem ab_R.lng (h : ab_R X D s z0 env nl aw z ws H locs) (y : Int64) : ab_R X D s z0 env (nl + 1) aw (z.1, z.2.1 ++ [y], z.2.2) ws H locs := by
  obtain ⟨h1, h2, h3, h4, h5, h6, h7, h8, h9⟩ := h
  exact ⟨h1, by simp [h2], h3, h4.ext ab_ext_l, h5, h6, h7, h8, h9.tr ab_ext_l⟩
theorem ab_ext_a {q : Nat} : ab_ext z (z.1, z.2.1, z.2.2 ++ [q]) := ⟨⟨[], by simp⟩, ⟨[], by simp⟩, ⟨[q], rfl⟩⟩
/-- a cell of the world by its number -/
theorem ab_R.cell (h : ab_R X D s z0 env nl aw z ws H locs) {k : Nat} {c : ab_C} (hk : aw[k]? = some c) : ∃ (a : Nat) (e : va_E), ws[k]? = some (a, e) ∧ z.2.2[k]? = some a ∧ ab_cR X z s c e := by
  obtain ⟨⟨a, e⟩, h1, h2⟩ := h.2.2.2.1.2 k c hk
  refine ⟨a, e, h1, ?_, h2⟩
  rw [← h.2.2.1, List.getElem?_map, h1]; rfl
theorem ab_R.set (h : ab_R X D s z0 env nl aw z ws H locs) {k a : Nat} {c : ab_C} {e0 e : va_E} {H1 : Heap} {locs1 : List Loc} (hk : ws[k]? = some (a, e0)) (hc : ab_cR X z s c e) (hP : va_P D vwCl (ws.set k (a, e)) H1) (hD : va_D (ab_Ar X) (ws.set k (a, e))) (hS : va_S (ab_Ar X) s.heap H1 locs1) : ab_R X D s z0 env nl (aw.set k c) z (ws.set k (a, e)) H1 locs1 := by
  obtain ⟨h1, h2, h3, h4, h5, h6, h7, h8, h9⟩ := h
  exact ⟨h1, h2, (ab_fst_set hk).trans h3, h4.set hc, hP, hD, hS, h8, h9⟩
theorem ab_R.push (h : ab_R X D s z0 env nl aw z ws H locs) {a : Nat} {c : ab_C} {e : va_E} {H1 : Heap} {locs1 : List Loc} (hc : ab_cR X (z.1, z.2.1, z.2.2 ++ [a]) s c e) (hP : va_P D vwCl (ws ++ [(a, e)]) H1) (hD : va_D (ab_Ar X) (ws ++ [(a, e)])) (hS : va_S (ab_Ar X) s.heap H1 locs1) : ab_R X D s z0 env nl (aw ++ [c]) (z.1, z.2.1, z.2.2 ++ [a]) (ws ++ [(a, e)]) H1 locs1 := by
  obtain ⟨h1, h2, h3, h4, h5, h6, h7, h8, h9⟩ := h
  exact ⟨h1, h2, by rw [List.map_append, h3]; rfl, (h4.ext ab_ext_a).push hc, hP, hD, hS, h8, h9.tr ab_ext_a⟩
theorem ab_R.num (h : ab_R X D s z0 env nl aw z ws H locs) : z.2.2.length = aw.length := by rw [← h.2.2.1, List.length_map, h.2.2.2.1.1]
end
/-- the locals -/
def ab_lR (X : ab_X) (z : ab_Z) (nL : Nat) (ls : Array Slot) (lv : List (Nat × ab_V)) : Prop := ls.size = nL ∧ lv_wf ls ∧ ∀ q ∈ lv, ∃ v, ab_ev X z q.2 = some v ∧ ls[q.1]? = some (.val v)
theorem ab_lR.ext {X : ab_X} {z z' : ab_Z} {nL : Nat} {ls : Array Slot} {lv : List (Nat × ab_V)} (h : ab_ext z z') (hl : ab_lR X z nL ls lv) : ab_lR X z' nL ls lv :=
  ⟨hl.1, hl.2.1, fun q hq => by obtain ⟨v, h1, h2⟩ := hl.2.2 q hq; exact ⟨v, ab_ev.ext h h1, h2⟩⟩
def ab_lk : List (Nat × ab_V) → Nat → Option ab_V
  | [], _ => none
  | (j, v) :: r, i => bif Nat.beq j i then some v else ab_lk r i
theorem ab_lk_mem : ∀ {lv : List (Nat × ab_V)} {i : Nat} {v : ab_V}, ab_lk lv i = some v → (i, v) ∈ lv
  | [], i, v, h => by cases h
  | (j, w) :: r, i, v, h => by
    simp only [ab_lk] at h
    cases hb : Nat.beq j i
    · rw [hb] at h; exact List.mem_cons_of_mem _ (ab_lk_mem h)
    · rw [hb] at h
      cases h
      rw [Nat.eq_of_beq_eq_true hb]; exact List.mem_cons_self
theorem ab_lR.at {X : ab_X} {z : ab_Z} {nL i : Nat} {ls : Array Slot} {lv : List (Nat × ab_V)} {v : ab_V} (hl : ab_lR X z nL ls lv) (h : ab_lk lv i = some v) : ∃ x, ab_ev X z v = some x ∧ ls[i]? = some (.val x) := hl.2.2 (i, v) (ab_lk_mem h)
def ab_lg (v : ab_V) : Bool := match v with
  | .inr (.inl _) => true
  | _ => false
/-- what a store at place i leaves of the others; two: of a long -/
def ab_kp (two : Bool) (i : Nat) (q : Nat × ab_V) : Bool := !(Nat.beq q.1 i) && !(ab_lg q.2 && Nat.beq (Nat.succ q.1) i) && !(two && Nat.beq q.1 (Nat.succ i))
def ab_flK {β : Type} (two : Bool) (i : Nat) : List (Nat × ab_V) → (List (Nat × ab_V) → β) → β
  | [], k => k []
  | (j, v) :: r, k => bif ab_kp two i (j, v) then ab_flK two i r (fun t => k ((j, v) :: t)) else ab_flK two i r k
theorem ab_flK_eq {β : Type} (two : Bool) (i : Nat) : ∀ (l : List (Nat × ab_V)) (k : List (Nat × ab_V) → β), ab_flK two i l k = k (l.filter (ab_kp two i))
  | [], k => rfl
  | (j, v) :: r, k => by
    simp only [ab_flK, List.filter]
    cases ab_kp two i (j, v)
    · simp only [cond_false]; exact ab_flK_eq two i r k
    · simp only [cond_true]; exact ab_flK_eq two i r _
theorem ab_cat {X : ab_X} {z : ab_Z} {v : ab_V} {x : Value} (hz : X.2.2.2.2.2.category = 1) (h : ab_ev X z v = some x) : x.category = if ab_lg v = true then 2 else 1 := by
  rcases v with a | l | ⟨t, k⟩
  · simp only [ab_ev, Option.map_eq_some_iff] at h
    obtain ⟨y, -, rfl⟩ := h; rfl
  · simp only [ab_ev, Option.map_eq_some_iff] at h
    obtain ⟨y, -, rfl⟩ := h; rfl
  · match t, h with
    | 0, h => cases h; rfl
    | 1, h => cases h; rfl
    | 2, h =>
      simp only [ab_ev, ab_evR, Option.map_eq_some_iff] at h
      obtain ⟨y, -, rfl⟩ := h; rfl
    | 3, h => cases h; rfl
    | 4, h => cases h; rfl
    | 5, h => cases h; rfl
    | _ + 6, h => cases h; exact hz
/-- the locals as a list of values -/
theorem ab_lR.list {X : ab_X} {z : ab_Z} {nL : Nat} {ls : Array Slot} {lv : List (Nat × ab_V)} (hl : ab_lR X z nL ls lv) : ∃ lc : List (Nat × Value), lv_has ls nL lc ∧ ∀ q ∈ lv, ∃ v, ab_ev X z q.2 = some v ∧ (q.1, v) ∈ lc := by
  refine ⟨lv.filterMap (fun q => (ab_ev X z q.2).map (fun v => (q.1, v))), ⟨hl.1, hl.2.1, fun q hq => ?_⟩, fun q hq => ?_⟩
  · obtain ⟨a, ha, h2⟩ := List.mem_filterMap.mp hq
    rw [Option.map_eq_some_iff] at h2
    obtain ⟨v, h3, rfl⟩ := h2
    obtain ⟨w, g1, g2⟩ := hl.2.2 a ha
    cases Option.some.inj (g1.symm.trans h3)
    exact g2
  · obtain ⟨w, g1, g2⟩ := hl.2.2 q hq
    exact ⟨w, g1, List.mem_filterMap.mpr ⟨q, hq, by rw [g1]; rfl⟩⟩
theorem ab_bq (a b : Nat) : (a == b) = Nat.beq a b := by
  cases h : Nat.beq a b
  · exact beq_eq_false_iff_ne.mpr (fun e => by rw [e, Nat.beq_refl] at h; cases h)
  · exact beq_iff_eq.mpr (Nat.eq_of_beq_eq_true h)
theorem ab_lR.put1 {X : ab_X} {z : ab_Z} {nL i : Nat} {ls' : Array Slot} {lv : List (Nat × ab_V)} {lc : List (Nat × Value)} {v : ab_V} {x : Value} (hz : X.2.2.2.2.2.category = 1) (hv : ab_ev X z v = some x) (hlc : ∀ q ∈ lv, ∃ v, ab_ev X z q.2 = some v ∧ (q.1, v) ∈ lc)
    (h : lv_has ls' nL ((i, x) :: lc.filter (fun q => !(q.1 == i) && !(q.1 + 1 == i && q.2.category == 2)))) : ab_lR X z nL ls' ((i, v) :: lv.filter (ab_kp false i)) := by
  refine ⟨h.1, h.2.1, fun q hq => ?_⟩
  rcases List.mem_cons.mp hq with rfl | hq
  · exact ⟨x, hv, h.2.2 (i, x) List.mem_cons_self⟩
  · obtain ⟨h1, h2⟩ := List.mem_filter.mp hq
    obtain ⟨w, g1, g2⟩ := hlc q h1
    refine ⟨w, g1, h.2.2 (q.1, w) (List.mem_cons_of_mem _ (List.mem_filter.mpr ⟨g2, ?_⟩))⟩
    have hc := ab_cat hz g1
    simp only [ab_kp, Bool.and_eq_true, Bool.not_eq_true', Bool.and_eq_false_iff] at h2
    obtain ⟨⟨a1, a2⟩, -⟩ := h2
    have b1 : (q.1 == i) = false := (ab_bq _ _).trans a1
    have b2 : (q.1 + 1 == i && w.category == 2) = false := by
      rcases a2 with a2 | a2
      · rw [a2] at hc
        rw [show w.category = 1 from hc]; simp
      · rw [show (q.1 + 1 == i) = false from (ab_bq _ _).trans a2]; rfl
    simp only [b1, b2]; rfl
theorem ab_lR.put2 {X : ab_X} {z : ab_Z} {nL i : Nat} {ls' : Array Slot} {lv : List (Nat × ab_V)} {lc : List (Nat × Value)} {v : ab_V} {x : Value} (hz : X.2.2.2.2.2.category = 1) (hv : ab_ev X z v = some x) (hlc : ∀ q ∈ lv, ∃ v, ab_ev X z q.2 = some v ∧ (q.1, v) ∈ lc)
    (h : lv_has ls' nL ((i, x) :: lc.filter (fun q => !(q.1 == i) && (!(q.1 == i + 1) && !(q.1 + 1 == i && q.2.category == 2))))) : ab_lR X z nL ls' ((i, v) :: lv.filter (ab_kp true i)) := by
  refine ⟨h.1, h.2.1, fun q hq => ?_⟩
  rcases List.mem_cons.mp hq with rfl | hq
  · exact ⟨x, hv, h.2.2 (i, x) List.mem_cons_self⟩
  · obtain ⟨h1, h2⟩ := List.mem_filter.mp hq
    obtain ⟨w, g1, g2⟩ := hlc q h1
    refine ⟨w, g1, h.2.2 (q.1, w) (List.mem_cons_of_mem _ (List.mem_filter.mpr ⟨g2, ?_⟩))⟩
    have hc := ab_cat hz g1
    simp only [ab_kp, Bool.and_eq_true, Bool.not_eq_true', Bool.and_eq_false_iff, Bool.true_and] at h2
    obtain ⟨⟨a1, a2⟩, a3⟩ := h2
    have b1 : (q.1 == i) = false := (ab_bq _ _).trans a1
    have b3 : (q.1 == i + 1) = false := (ab_bq _ _).trans a3
    have b2 : (q.1 + 1 == i && w.category == 2) = false := by
      rcases a2 with a2 | a2
      · rw [a2] at hc
        rw [show w.category = 1 from hc]; simp
      · rw [show (q.1 + 1 == i) = false from (ab_bq _ _).trans a2]; rfl
    simp only [b1, b2, b3]; rfl
end
section
/-! What a method finds around it, and the simple instructions. -/
def ab_TG : List Cond := lw_tbl.filter goodWord
def ab_nest (w : Cond) : Bool := match w with
  | .fieldLinkNest .. => true
  | .methodLinkNest .. => true
  | .declares .. => true
  | .castable .. => true
  | _ => false
/-- texts: whose pool, place, text -/
def ab_str : List (String × Nat × String) := [("SundialTreaty$Reader", 60, "town fast slow term train limit change frost bend shade clear freeze day or and not right shaded breach ahead broken number "), ("SundialTreaty", 133, "no such town"), ("SundialTreaty", 167, "nothing such is told of a town"), ("SundialTreaty", 169, "no such town or day"), ("SundialTreaty", 175, "it has no due"), ("SundialTreaty", 180, "no such train"), ("SundialTreaty", 200, "nothing such is told of a train"), ("SundialTreaty", 202, "no such town or minute, or it is shaded"), ("SundialTreaty", 225, "nothing such is told"), ("SundialTreaty", 264, "no dial tells noon"), ("SundialTreaty", 276, "no such town, or nothing was evened"), ("SundialTreaty", 284, "no such trains, or they do not meet"), ("SundialTreaty", 302, "no such town or bend"), ("SundialTreaty", 313, "no such town, or none came nearer")]
def ab_byt : List Int32 := [116, 111, 119, 110, 32, 102, 97, 115, 116, 32, 115, 108, 111, 119, 32, 116, 101, 114, 109, 32, 116, 114, 97, 105, 110, 32, 108, 105, 109, 105, 116, 32, 99, 104, 97, 110, 103, 101, 32, 102, 114, 111, 115, 116, 32, 98, 101, 110, 100, 32, 115, 104, 97, 100, 101, 32, 99, 108, 101, 97, 114, 32, 102, 114, 101, 101, 122, 101, 32, 100, 97, 121, 32, 111, 114, 32, 97, 110, 100, 32, 110, 111, 116, 32, 114, 105, 103, 104, 116, 32, 115, 104, 97, 100, 101, 100, 32, 98, 114, 101, 97, 99, 104, 32, 97, 104, 101, 97, 100, 32, 98, 114, 111, 107, 101, 110, 32, 110, 117, 109, 98, 101, 114, 32]
def ab_hi : List Int32 := [10, 30, 12]
def ab_ES (X : ab_X) (U : State) (H : Heap) : Prop :=
  X.2.2.2.2.2.category = 1 ∧ (∀ (i : Nat) (q : String × Nat × String), ab_str[i]? = some q → vk_R q.1 q.2.1 q.2.2 (X.2.2.1 i) U) ∧ vk_S 1 [124] [ab_byt] X.2.2.1 X.2.2.2.1 (ab_Ar X) U H ∧
  va_Z "java/lang/String" "COMPACT_STRINGS" "Z" (.int 1) (ab_Ar X) U H ∧ va_Z "jdk/internal/util/Preconditions" "SIOOBE_FORMATTER" "Ljava/util/function/BiFunction;" X.2.2.2.2.2 (ab_Ar X) U H ∧
  va_Z "SundialTreaty$ValleyText" "HIGHEST" "[I" (.ref (X.2.2.2.2.1 0)) (ab_Ar X) U H ∧ va_T .int (X.2.2.2.2.1 0) 3 (fun j => .int (ab_hi.getD j 0)) (ab_Ar X) U H ∧
  vx_Zq Bundle.tN "UNASSIGNED_STACK" Bundle.steD (ab_Ar X) U H ∧ vx_Zq Bundle.tN "SUPPRESSED_SENTINEL" Bundle.listD (ab_Ar X) U H ∧ va_AO "SundialTreaty$State" U ∧ va_AO "SundialTreaty$Image" U
def ab_EX (X : ab_X) (D : va_G) (U : State) (H : Heap) : Prop :=
  X.1.2.2 ≤ H.size ∧ va_K D vwCl [] U ∧ (∀ w ∈ lw_tbl, ab_nest w = true → va_Nw w U) ∧ (va_X X.1.1 X.1.2.1 X.2.1 U H ∧ X.1.1 < X.1.2.2) ∧ ab_ES X U H
theorem ab_EX.enter {X : ab_X} {D : va_G} {s U : State} {H : Heap} {locs : List Loc} (h : ab_EX X D s s.heap) (hW : s.WarmedH U.vm) (hS : va_S (ab_Ar X) s.heap H locs) : ab_EX X D U H := by
  obtain ⟨h1, h2, h3, ⟨h4, h5⟩, g0, g1, g2, g3, g4, g5, g6, g7, g8, g9, g10⟩ := h
  have hvm := hW.alike
  have hb : ¬ ab_Ar X X.1.1 := Nat.not_le.mpr h5
  refine ⟨Nat.le_trans h1 hS.1, h2.moved hvm, fun w hw hn => ?_, ⟨(h4.kept (hS.2.1 _ (Nat.lt_of_lt_of_le h5 h1) hb)).moved hvm, h5⟩, g0, fun i q hq => (g1 i q hq).warm hW, (g2.kept hS.2.1).moved hvm, va_Z.moved hvm (g3.kept hS.2.1), va_Z.moved hvm (g4.kept hS.2.1), va_Z.moved hvm (g5.kept hS.2.1), va_T.moved hvm (g6.kept hS.2.1), vx_Zq.moved hvm (g7.kept hS.2.1), vx_Zq.moved hvm (g8.kept hS.2.1), va_AO.moved hvm g9, va_AO.moved hvm g10⟩
  have h := h3 w hw hn
  unfold ab_nest at hn
  split at hn
  · exact va_Nw.warmF hW h
  · exact va_Nw.warmM hW h
  · exact va_Nw.warmD hW h
  · exact va_tabs rfl (rfl : (s.setVm U.vm).vm = U.vm) (by rw [Cond.castable_setVm hvm]; exact h)
  · cases hn
theorem ab_EX.Kt {X : ab_X} {D : va_G} {s : State} (h : ab_EX X D s s.heap) {cA : ClassId} {ty : FieldType} (ha : ArrOfT s cA ty ∧ va_RA s cA ty) : va_K D vwCl [(cA, ty)] s :=
  ⟨h.2.1.1, fun k q hk => by
    have hz : k < 1 := (List.getElem?_eq_some_iff.mp hk).1
    rw [show k = 0 by omega] at hk
    cases hk
    exact ha⟩
theorem ab_EX.up {X : ab_X} {D : va_G} {s : State} (h : ab_EX X D s s.heap) : ∀ q, s.heap.size ≤ q → ab_Ar X q := fun q hq => Nat.le_trans h.1 hq
def ab_ok (p : Program) (l : Launch) (e : Env) (R : Room) (s : State) (m : MethodId) (args : Array Value) (below : List Frame) (meth : Method) (c : Code) (Q : State → Prop) (nL : Nat) (X : ab_X) (D : va_G) (z0 : ab_Z) (S : ab_S) : Prop :=
  ∀ (z : ab_Z) (ws : va_W) (H : Heap) (locs : List Loc) (ls : Array Slot) (cst : List Value), ab_R X D s z0 S.1.1 S.1.2.1 S.1.2.2.1 z ws H locs → ab_lR X z nL ls S.2.2.1 → S.2.2.2.map (ab_ev X z) = cst.map some → W p l e R s m args below meth c H locs S.1.2.2.2.1 S.1.2.2.2.2 Q (F0 m S.2.1 ls cst)
def ab_so (p : Program) (l : Launch) (e : Env) (R : Room) (s : State) (m : MethodId) (args : Array Value) (below : List Frame) (meth : Method) (c : Code) (Q : State → Prop) (nL : Nat) (X : ab_X) (D : va_G) (z0 : ab_Z) (cal : ab_K) (pc : Nat) (f : ab_P) : Prop :=
  ∀ (env : ab_E) (nl : Nat) (aw : List ab_C) (cl sl : Nat) (lv : List (Nat × ab_V)) (st : List ab_V) (r : List ab_S), f cal env nl aw cl sl lv st = some r → (∀ S ∈ r, ab_ok p l e R s m args below meth c Q nL X D z0 S) → ab_ok p l e R s m args below meth c Q nL X D z0 ((env, nl, aw, cl, sl), pc, lv, st)
def ab_cx (p : Program) (R : Room) (s : State) (m : MethodId) (args : Array Value) (c : Code) (cc : ByteArray) (own : String) (nL : Nat) (X : ab_X) (D : va_G) : Prop :=
  p.tables.exec = Jvm.exec ∧ c.code = cc ∧ c.maxLocals = nL ∧ s.vm.findClass own = some m.cls ∧ (∀ w ∈ ab_TG, w.before args s = true) ∧ ab_EX X D s s.heap ∧ 16 ≤ R.frames ∧ 200 ≤ R.locals
theorem ab_st1 {X : ab_X} {z : ab_Z} {v : ab_V} {st : List ab_V} {cst : List Value} (h : (v :: st).map (ab_ev X z) = cst.map some) : ∃ x r, cst = x :: r ∧ ab_ev X z v = some x ∧ st.map (ab_ev X z) = r.map some := by
  cases cst with
  | nil => simp at h
  | cons x r => simp only [List.map_cons, List.cons.injEq] at h; exact ⟨x, r, rfl, h.1, h.2⟩
theorem ab_evi {X : ab_X} {z : ab_Z} {a : ab_I} {x : Value} (h : ab_ev X z (.inl a) = some x) : ∃ y, x = .int y ∧ ab_evI z.1 a = some y := by
  simp only [ab_ev, Option.map_eq_some_iff] at h
  obtain ⟨y, h1, h2⟩ := h
  exact ⟨y, h2.symm, h1⟩
theorem ab_evl {X : ab_X} {z : ab_Z} {a : ab_L} {x : Value} (h : ab_ev X z (.inr (.inl a)) = some x) : ∃ y, x = .long y ∧ ab_evL z a = some y := by
  simp only [ab_ev, Option.map_eq_some_iff] at h
  obtain ⟨y, h1, h2⟩ := h
  exact ⟨y, h2.symm, h1⟩
theorem ab_evc {X : ab_X} {z : ab_Z} {a : ab_I} {y : Int32} (h : ab_evI z.1 a = some y) : ab_ev X z (.inl a) = some (.int y) := by simp only [ab_ev, h]; rfl
/-- a reference that isn't null -/
def ab_nn (r : Nat × Nat) : Bool := match r with
  | (1, _) => true
  | (2, _) => true
  | (3, _) => true
  | (4, _) => true
  | (5, _) => true
  | _ => false
theorem ab_nn_ref {X : ab_X} {z : ab_Z} {r : Nat × Nat} {x : Value} (h : ab_nn r = true) (he : ab_ev X z (.inr (.inr r)) = some x) : ∃ a, x = .ref a := by
  obtain ⟨t, k⟩ := r
  match t, h, he with
  | 1, _, he => cases he; exact ⟨_, rfl⟩
  | 2, _, he =>
    simp only [ab_ev, ab_evR, Option.map_eq_some_iff] at he
    obtain ⟨y, -, rfl⟩ := he; exact ⟨_, rfl⟩
  | 3, _, he => cases he; exact ⟨_, rfl⟩
  | 4, _, he => cases he; exact ⟨_, rfl⟩
  | 5, _, he => cases he; exact ⟨_, rfl⟩
  | 0, h, _ => cases h
  | _ + 6, h, _ => cases h
def op_push (v : ab_V) (np : Nat) : ab_P := fun _ env nl aw cl sl lv st => some [((env, nl, aw, cl, sl), np, lv, v :: st)]
def op_il (i np : Nat) : ab_P := fun _ env nl aw cl sl lv st => match ab_lk lv i with
  | some (.inl a) => some [((env, nl, aw, cl, sl), np, lv, .inl a :: st)]
  | _ => none
def op_al (i np : Nat) : ab_P := fun _ env nl aw cl sl lv st => match ab_lk lv i with
  | some (.inr (.inr r)) => bif ab_nn r then some [((env, nl, aw, cl, sl), np, lv, .inr (.inr r) :: st)] else none
  | _ => none
def op_is (i np : Nat) : ab_P := fun _ env nl aw cl sl lv st => match st with
  | .inl a :: st => ab_flK false i lv (fun lv => some [((env, nl, aw, cl, sl), np, (i, .inl a) :: lv, st)])
  | _ => none
def op_as (i np : Nat) : ab_P := fun _ env nl aw cl sl lv st => match st with
  | .inr (.inr r) :: st => bif ab_nn r then ab_flK false i lv (fun lv => some [((env, nl, aw, cl, sl), np, (i, .inr (.inr r)) :: lv, st)]) else none
  | _ => none
def op_inc (i : Nat) (n : Int) (np : Nat) : ab_P := fun _ env nl aw cl sl lv st => match ab_lk lv i with
  | some (.inl a) => ab_addK env a (none, n) (fun env a => ab_flK false i lv (fun lv => some [((env, nl, aw, cl, sl), np, (i, .inl a) :: lv, st)]))
  | _ => none
def op_b2 (K : ab_E → ab_I → ab_I → (ab_E → ab_I → ab_A) → ab_A) (np : Nat) : ab_P := fun _ env nl aw cl sl lv st => match st with
  | .inl y :: .inl x :: st => K env x y (fun env a => some [((env, nl, aw, cl, sl), np, lv, .inl a :: st)])
  | _ => none
def ab_frk (nl : Nat) (aw : List ab_C) (cl sl : Nat) (lv : List (Nat × ab_V)) (st : List ab_V) : List ab_E → Nat → List ab_S → List ab_S
  | [], _, k => k
  | a :: T, tgt, k => ((a, nl, aw, cl, sl), tgt, lv, st) :: ab_frk nl aw cl sl lv st T tgt k
def op_if (n tgt np : Nat) : ab_P := fun _ env nl aw cl sl lv st => match st with
  | .inl a :: st => ab_brK n env a (none, 0) (fun T F => some (ab_frk nl aw cl sl lv st T tgt (ab_frk nl aw cl sl lv st F np [])))
  | _ => none
def op_icmp (n tgt np : Nat) : ab_P := fun _ env nl aw cl sl lv st => match st with
  | .inl b :: .inl a :: st => ab_brK n env a b (fun T F => some (ab_frk nl aw cl sl lv st T tgt (ab_frk nl aw cl sl lv st F np [])))
  | _ => none
def op_goto (tgt : Nat) : ab_P := fun _ env nl aw cl sl lv st => some [((env, nl, aw, cl, sl), tgt, lv, st)]
def op_dup (np : Nat) : ab_P := fun _ env nl aw cl sl lv st => match st with
  | v :: st => bif ab_lg v then none else some [((env, nl, aw, cl, sl), np, lv, v :: v :: st)]
  | _ => none
def op_pop (np : Nat) : ab_P := fun _ env nl aw cl sl lv st => match st with
  | v :: st => bif ab_lg v then none else some [((env, nl, aw, cl, sl), np, lv, st)]
  | _ => none
def op_dup2 (np : Nat) : ab_P := fun _ env nl aw cl sl lv st => match st with
  | v :: u :: st => bif ab_lg v || ab_lg u then none else some [((env, nl, aw, cl, sl), np, lv, v :: u :: v :: u :: st)]
  | _ => none
def op_i2l (np : Nat) : ab_P := fun _ env nl aw cl sl lv st => match st with
  | .inl a :: st => some [((env, nl, aw, cl, sl), np, lv, .inr (.inl (.inl a)) :: st)]
  | _ => none
/-- a long that isn't looked at -/
def op_lfr (np : Nat) : ab_P := fun _ env nl aw cl sl lv st => ab_fn (nl + 1) (fun nl' => some [((env, nl', aw, cl, sl), np, lv, .inr (.inl (.inr nl)) :: st)])
def op_l2 (np : Nat) : ab_P := fun K env nl aw cl sl lv st => match st with
  | .inr (.inl _) :: .inr (.inl _) :: st => op_lfr np K env nl aw cl sl lv st
  | _ => none
def op_lsh (np : Nat) : ab_P := fun K env nl aw cl sl lv st => match st with
  | .inl _ :: .inr (.inl _) :: st => op_lfr np K env nl aw cl sl lv st
  | _ => none
/-- i2b, i2c: the same int where it fits, else one between -/
def op_cv (lo hi : Int) (np : Nat) : ab_P := fun _ env nl aw cl sl lv st => match st with
  | .inl a :: st => ab_ivK env a (fun x y => bif ab_le lo x && ab_le y hi then some [((env, nl, aw, cl, sl), np, lv, .inl a :: st)] else ab_frK env lo hi (fun env a => some [((env, nl, aw, cl, sl), np, lv, .inl a :: st)]))
  | _ => none
def op_lcmp (np : Nat) : ab_P := fun _ env nl aw cl sl lv st => match st with
  | .inr (.inl y) :: .inr (.inl x) :: st => (match x, y with
    | .inl a, .inl b => ab_cnK env a (fun a => ab_cnK env b (fun b => bif ab_eqI a b then some [((env, nl, aw, cl, sl), np, lv, .inl (none, 0) :: st)] else ab_frK env (-1) 1 (fun env a => some [((env, nl, aw, cl, sl), np, lv, .inl a :: st)])))
    | _, _ => ab_frK env (-1) 1 (fun env a => some [((env, nl, aw, cl, sl), np, lv, .inl a :: st)]))
  | _ => none
section
variable {p : Program} {l : Launch} {e : Env} {R : Room} {s : State} {m : MethodId} {args : Array Value} {below : List Frame} {meth : Method} {c : Code} {Q : State → Prop} {cc : ByteArray} {own : String} {nL : Nat} {X : ab_X} {D : va_G} {z0 : ab_Z} {cal : ab_K} {pc : Nat}
theorem so_push_k {n : Int} {np : Nat} (hp : ∀ (H : Heap) (locs : List Loc) (cl sl : Nat) (ls : Array Slot) (rest : List Value) (y : Int32), y = Int32.ofInt n → W p l e R s m args below meth c H locs cl sl Q (F0 m np ls (.int y :: rest)) → W p l e R s m args below meth c H locs cl sl Q (F0 m pc ls rest)) : ab_so p l e R s m args below meth c Q nL X D z0 cal pc (op_push (.inl (none, n)) np) := by
  intro env nl aw cl sl lv st r hr hk z ws H locs ls cst hR hl hs
  dsimp only at hR hl hs
  simp only [op_push, Option.some.injEq] at hr
  subst hr
  refine hp _ _ _ _ _ _ _ rfl ?_
  exact hk _ List.mem_cons_self z ws H locs ls (.int (Int32.ofInt n) :: cst) hR hl (by simp only [List.map_cons, ab_ev, ab_evI, Option.map_some]; rw [hs])
theorem so_iconst (C : ab_cx p R s m args c cc own nL X D) {n : Int} (d : decode cc pc = .ok (.iconst n, 1)) : ab_so p l e R s m args below meth c Q nL X D z0 cal pc (op_push (.inl (none, n)) (pc + 1)) :=
  so_push_k (fun _ _ _ _ _ _ y hy k => lv_iconst C.1 C.2.1 d (hy.symm) k)
theorem so_bipush (C : ab_cx p R s m args c cc own nL X D) {n : Int} (d : decode cc pc = .ok (.bipush n, 2)) (hv : (Int8.ofInt n).toInt32 = Int32.ofInt n) : ab_so p l e R s m args below meth c Q nL X D z0 cal pc (op_push (.inl (none, n)) (pc + 2)) :=
  so_push_k (fun _ _ _ _ _ _ y hy k => lv_bipush C.1 C.2.1 d (hv.trans hy.symm) k)
theorem so_sipush (C : ab_cx p R s m args c cc own nL X D) {n : Int} (d : decode cc pc = .ok (.sipush n, 3)) (hv : (Int16.ofInt n).toInt32 = Int32.ofInt n) : ab_so p l e R s m args below meth c Q nL X D z0 cal pc (op_push (.inl (none, n)) (pc + 3)) :=
  so_push_k (fun _ _ _ _ _ _ y hy k => lv_sipush C.1 C.2.1 d (hv.trans hy.symm) k)
theorem so_ldc (C : ab_cx p R s m args c cc own nL X D) {n : Int} {i : Nat} (hw : Cond.constant own i (Int32.ofInt n) ∈ ab_TG) (d : decode cc pc = .ok (.ldc i, 2)) : ab_so p l e R s m args below meth c Q nL X D z0 cal pc (op_push (.inl (none, n)) (pc + 2)) :=
  so_push_k (fun _ _ _ _ _ _ y hy k => by subst hy; exact lv_ldc C.1 C.2.1 C.2.2.2.1 (C.2.2.2.2.1 _ hw) d k)
theorem so_ldcw (C : ab_cx p R s m args c cc own nL X D) {n : Int} {i : Nat} (hw : Cond.constant own i (Int32.ofInt n) ∈ ab_TG) (d : decode cc pc = .ok (.ldc_w i, 3)) : ab_so p l e R s m args below meth c Q nL X D z0 cal pc (op_push (.inl (none, n)) (pc + 3)) :=
  so_push_k (fun _ _ _ _ _ _ y hy k => by subst hy; exact lv_ldcw C.1 C.2.1 C.2.2.2.1 (C.2.2.2.2.1 _ hw) d k)
theorem so_lconst0 (C : ab_cx p R s m args c cc own nL X D) (d : decode cc pc = .ok (.lconst 0, 1)) : ab_so p l e R s m args below meth c Q nL X D z0 cal pc (op_push (.inr (.inl (.inl (none, 0)))) (pc + 1)) := by
  intro env nl aw cl sl lv st r hr hk z ws H locs ls cst hR hl hs
  dsimp only at hR hl hs
  simp only [op_push, Option.some.injEq] at hr
  subst hr
  refine lv_lconst (v := 0) C.1 C.2.1 d (by decide +kernel) ?_
  exact hk _ List.mem_cons_self z ws H locs ls (.long 0 :: cst) hR hl (by simp only [List.map_cons, ab_ev, ab_evL, ab_evI, Option.map_some]; rw [hs]; rfl)
theorem so_iload (C : ab_cx p R s m args c cc own nL X D) {i : Nat} (d : decode cc pc = .ok (.iload i, 2)) : ab_so p l e R s m args below meth c Q nL X D z0 cal pc (op_il i (pc + 2)) := by
  intro env nl aw cl sl lv st r hr hk z ws H locs ls cst hR hl hs
  dsimp only at hR hl hs
  unfold op_il at hr
  split at hr
  · rename_i a ha
    cases hr
    obtain ⟨x, h1, h2⟩ := hl.at ha
    obtain ⟨y, rfl, h3⟩ := ab_evi h1
    refine lv_iload C.1 C.2.1 d h2 ?_
    exact hk _ List.mem_cons_self z ws H locs ls (.int y :: cst) hR hl (by simp only [List.map_cons, h1]; rw [hs])
  · cases hr
theorem so_iload_n (C : ab_cx p R s m args c cc own nL X D) {i : Nat} {k : Fin 4} (hki : (k : Nat) = i) (d : decode cc pc = .ok (.iload_n k, 1)) : ab_so p l e R s m args below meth c Q nL X D z0 cal pc (op_il i (pc + 1)) := by
  intro env nl aw cl sl lv st r hr hk z ws H locs ls cst hR hl hs
  dsimp only at hR hl hs
  unfold op_il at hr
  split at hr
  · rename_i a ha
    cases hr
    obtain ⟨x, h1, h2⟩ := hl.at ha
    obtain ⟨y, rfl, h3⟩ := ab_evi h1
    refine lv_iload_n C.1 C.2.1 d hki h2 ?_
    exact hk _ List.mem_cons_self z ws H locs ls (.int y :: cst) hR hl (by simp only [List.map_cons, h1]; rw [hs])
  · cases hr
theorem so_aload (C : ab_cx p R s m args c cc own nL X D) {i : Nat} (d : decode cc pc = .ok (.aload i, 2)) : ab_so p l e R s m args below meth c Q nL X D z0 cal pc (op_al i (pc + 2)) := by
  intro env nl aw cl sl lv st r hr hk z ws H locs ls cst hR hl hs
  dsimp only at hR hl hs
  unfold op_al at hr
  split at hr
  · rename_i r0 ha
    cases hn : ab_nn r0
    · rw [hn] at hr; cases hr
    · rw [hn] at hr
      cases hr
      obtain ⟨x, h1, h2⟩ := hl.at ha
      obtain ⟨a, rfl⟩ := ab_nn_ref hn h1
      refine lv_aload C.1 C.2.1 d h2 ?_
      exact hk _ List.mem_cons_self z ws H locs ls (.ref a :: cst) hR hl (by simp only [List.map_cons, h1]; rw [hs])
  · cases hr
theorem so_aload_n (C : ab_cx p R s m args c cc own nL X D) {i : Nat} {k : Fin 4} (hki : (k : Nat) = i) (d : decode cc pc = .ok (.aload_n k, 1)) : ab_so p l e R s m args below meth c Q nL X D z0 cal pc (op_al i (pc + 1)) := by
  intro env nl aw cl sl lv st r hr hk z ws H locs ls cst hR hl hs
  dsimp only at hR hl hs
  unfold op_al at hr
  split at hr
  · rename_i r0 ha
    cases hn : ab_nn r0
    · rw [hn] at hr; cases hr
    · rw [hn] at hr
      cases hr
      obtain ⟨x, h1, h2⟩ := hl.at ha
      obtain ⟨a, rfl⟩ := ab_nn_ref hn h1
      refine lv_aload_n C.1 C.2.1 d hki h2 ?_
      exact hk _ List.mem_cons_self z ws H locs ls (.ref a :: cst) hR hl (by simp only [List.map_cons, h1]; rw [hs])
  · cases hr
theorem so_istore (C : ab_cx p R s m args c cc own nL X D) {i : Nat} (hn : i < nL) (d : decode cc pc = .ok (.istore i, 2)) : ab_so p l e R s m args below meth c Q nL X D z0 cal pc (op_is i (pc + 2)) := by
  intro env nl aw cl sl lv st r hr hk z ws H locs ls cst hR hl hs
  dsimp only at hR hl hs
  unfold op_is at hr
  split at hr
  · rename_i a st'
    rw [ab_flK_eq] at hr
    cases hr
    obtain ⟨x, r, rfl, h1, h2⟩ := ab_st1 hs
    obtain ⟨y, rfl, h3⟩ := ab_evi h1
    obtain ⟨lc, g1, g2⟩ := hl.list
    refine lv_istore C.1 C.2.1 d g1 hn rfl (fun ls' hl' => ?_)
    exact hk _ List.mem_cons_self z ws H locs ls' r hR (ab_lR.put1 C.2.2.2.2.2.1.2.2.2.2.1 h1 g2 hl') h2
  · cases hr
theorem so_istore_n (C : ab_cx p R s m args c cc own nL X D) {i : Nat} {k : Fin 4} (hki : (k : Nat) = i) (hn : i < nL) (d : decode cc pc = .ok (.istore_n k, 1)) : ab_so p l e R s m args below meth c Q nL X D z0 cal pc (op_is i (pc + 1)) := by
  intro env nl aw cl sl lv st r hr hk z ws H locs ls cst hR hl hs
  dsimp only at hR hl hs
  unfold op_is at hr
  split at hr
  · rename_i a st'
    rw [ab_flK_eq] at hr
    cases hr
    obtain ⟨x, r, rfl, h1, h2⟩ := ab_st1 hs
    obtain ⟨y, rfl, h3⟩ := ab_evi h1
    obtain ⟨lc, g1, g2⟩ := hl.list
    refine lv_istore_n C.1 C.2.1 d hki g1 hn rfl (fun ls' hl' => ?_)
    exact hk _ List.mem_cons_self z ws H locs ls' r hR (ab_lR.put1 C.2.2.2.2.2.1.2.2.2.2.1 h1 g2 hl') h2
  · cases hr
theorem so_astore (C : ab_cx p R s m args c cc own nL X D) {i : Nat} (hn : i < nL) (d : decode cc pc = .ok (.astore i, 2)) : ab_so p l e R s m args below meth c Q nL X D z0 cal pc (op_as i (pc + 2)) := by
  intro env nl aw cl sl lv st r hr hk z ws H locs ls cst hR hl hs
  dsimp only at hR hl hs
  unfold op_as at hr
  split at hr
  · rename_i r0 st'
    cases hnn : ab_nn r0
    · rw [hnn] at hr; cases hr
    · rw [hnn, cond_true, ab_flK_eq] at hr
      cases hr
      obtain ⟨x, r, rfl, h1, h2⟩ := ab_st1 hs
      obtain ⟨a, rfl⟩ := ab_nn_ref hnn h1
      obtain ⟨lc, g1, g2⟩ := hl.list
      refine lv_astore C.1 C.2.1 d g1 hn rfl (fun ls' hl' => ?_)
      exact hk _ List.mem_cons_self z ws H locs ls' r hR (ab_lR.put1 C.2.2.2.2.2.1.2.2.2.2.1 h1 g2 hl') h2
  · cases hr
theorem so_astore_n (C : ab_cx p R s m args c cc own nL X D) {i : Nat} {k : Fin 4} (hki : (k : Nat) = i) (hn : i < nL) (d : decode cc pc = .ok (.astore_n k, 1)) : ab_so p l e R s m args below meth c Q nL X D z0 cal pc (op_as i (pc + 1)) := by
  intro env nl aw cl sl lv st r hr hk z ws H locs ls cst hR hl hs
  dsimp only at hR hl hs
  unfold op_as at hr
  split at hr
  · rename_i r0 st'
    cases hnn : ab_nn r0
    · rw [hnn] at hr; cases hr
    · rw [hnn, cond_true, ab_flK_eq] at hr
      cases hr
      obtain ⟨x, r, rfl, h1, h2⟩ := ab_st1 hs
      obtain ⟨a, rfl⟩ := ab_nn_ref hnn h1
      obtain ⟨lc, g1, g2⟩ := hl.list
      refine lv_astore_n C.1 C.2.1 d hki g1 hn rfl (fun ls' hl' => ?_)
      exact hk _ List.mem_cons_self z ws H locs ls' r hR (ab_lR.put1 C.2.2.2.2.2.1.2.2.2.2.1 h1 g2 hl') h2
  · cases hr
theorem so_iinc (C : ab_cx p R s m args c cc own nL X D) {i : Nat} {n : Int} (hn : i < nL) (d : decode cc pc = .ok (.iinc i n, 3)) : ab_so p l e R s m args below meth c Q nL X D z0 cal pc (op_inc i n (pc + 3)) := by
  intro env nl aw cl sl lv st r hr hk z ws H locs ls cst hR hl hs
  dsimp only at hR hl hs
  unfold op_inc at hr
  split at hr
  · rename_i a ha
    obtain ⟨env', a', q1, q2⟩ := ab_addK_eq (β := ab_A) env a (none, n)
    rw [q1, ab_flK_eq] at hr
    cases hr
    obtain ⟨x, h1, h2⟩ := hl.at ha
    obtain ⟨y, rfl, h3⟩ := ab_evi h1
    obtain ⟨t, t1, t2⟩ := q2 z.1 y (Int32.ofInt n) hR.1 h3 rfl
    obtain ⟨lc, g1, g2⟩ := (hl.ext (ab_ext_v (t := t))).list
    obtain ⟨w, e1, e2⟩ := g2 (i, .inl a) (ab_lk_mem ha)
    cases Option.some.inj (e1.symm.trans (ab_ev.ext (ab_ext_v (t := t)) h1))
    obtain ⟨kk, hkk⟩ := List.getElem?_of_mem e2
    refine lv_iinc C.1 C.2.1 d g1 hkk rfl hn rfl (fun ls' hl' => ?_)
    exact hk _ List.mem_cons_self _ ws H locs ls' cst (hR.vars t1) (ab_lR.put1 C.2.2.2.2.2.1.2.2.2.2.1 (ab_evc t2) g2 hl') (ab_evs.ext (ab_ext_v (t := t)) hs)
  · cases hr
theorem so_b2 (C : ab_cx p R s m args c cc own nL X D) {K : ab_E → ab_I → ab_I → (ab_E → ab_I → ab_A) → ab_A} {f : Int32 → Int32 → Int32} {np : Nat} (hK : ∀ env x y, ∃ env' a', (∀ k, K env x y k = k env' a') ∧ ab_res env x y f env' a') (hp : ∀ (H : Heap) (locs : List Loc) (cl sl : Nat) (ls : Array Slot) (rest : List Value) (x y : Int32), W p l e R s m args below meth c H locs cl sl Q (F0 m np ls (.int (f x y) :: rest)) → W p l e R s m args below meth c H locs cl sl Q (F0 m pc ls (.int y :: .int x :: rest))) : ab_so p l e R s m args below meth c Q nL X D z0 cal pc (op_b2 K np) := by
  intro env nl aw cl sl lv st r hr hk z ws H locs ls cst hR hl hs
  dsimp only at hR hl hs
  unfold op_b2 at hr
  split at hr
  · rename_i b a st'
    obtain ⟨env', a', q1, q2⟩ := hK env a b
    rw [q1] at hr
    cases hr
    obtain ⟨x, r, rfl, h1, h2⟩ := ab_st1 hs
    obtain ⟨y, rfl, h3⟩ := ab_evi h1
    obtain ⟨x2, r2, rfl, h4, h5⟩ := ab_st1 h2
    obtain ⟨y2, rfl, h6⟩ := ab_evi h4
    obtain ⟨t, t1, t2⟩ := q2 z.1 y2 y hR.1 h6 h3
    refine hp _ _ _ _ _ _ _ _ ?_
    exact hk _ List.mem_cons_self _ ws H locs ls (.int (f y2 y) :: r2) (hR.vars t1) (hl.ext ab_ext_v) (by simp only [List.map_cons]; rw [ab_evc (z := (z.1 ++ t, z.2)) t2, ab_evs.ext (ab_ext_v (t := t)) h5])
  · cases hr
theorem so_iadd (C : ab_cx p R s m args c cc own nL X D) (d : decode cc pc = .ok (.iadd, 1)) : ab_so p l e R s m args below meth c Q nL X D z0 cal pc (op_b2 (ab_addK) (pc + 1)) :=
  so_b2 (f := fun u v => u + v) C (fun env x y => ab_addK_eq env x y) (fun _ _ _ _ _ _ x y k => lv_iadd C.1 C.2.1 d k)
theorem so_isub (C : ab_cx p R s m args c cc own nL X D) (d : decode cc pc = .ok (.isub, 1)) : ab_so p l e R s m args below meth c Q nL X D z0 cal pc (op_b2 (ab_subK) (pc + 1)) :=
  so_b2 (f := fun u v => u - v) C (fun env x y => ab_subK_eq env x y) (fun _ _ _ _ _ _ x y k => lv_isub C.1 C.2.1 d k)
theorem so_iand (C : ab_cx p R s m args c cc own nL X D) (d : decode cc pc = .ok (.iand, 1)) : ab_so p l e R s m args below meth c Q nL X D z0 cal pc (op_b2 (ab_andK) (pc + 1)) :=
  so_b2 (f := fun u v => u &&& v) C (fun env x y => ab_andK_eq env x y) (fun _ _ _ _ _ _ x y k => lv_iand C.1 C.2.1 d k)
theorem so_imul (C : ab_cx p R s m args c cc own nL X D) (d : decode cc pc = .ok (.imul, 1)) : ab_so p l e R s m args below meth c Q nL X D z0 cal pc (op_b2 (ab_binK (fun u v => u * v)) (pc + 1)) :=
  so_b2 (f := fun u v => u * v) C (fun env x y => ab_binK_eq _ env x y) (fun _ _ _ _ _ _ x y k => lv_imul C.1 C.2.1 d k)
theorem so_ior (C : ab_cx p R s m args c cc own nL X D) (d : decode cc pc = .ok (.ior, 1)) : ab_so p l e R s m args below meth c Q nL X D z0 cal pc (op_b2 (ab_binK (fun u v => u ||| v)) (pc + 1)) :=
  so_b2 (f := fun u v => u ||| v) C (fun env x y => ab_binK_eq _ env x y) (fun _ _ _ _ _ _ x y k => lv_ior C.1 C.2.1 d k)
theorem so_ixor (C : ab_cx p R s m args c cc own nL X D) (d : decode cc pc = .ok (.ixor, 1)) : ab_so p l e R s m args below meth c Q nL X D z0 cal pc (op_b2 (ab_binK (fun u v => u ^^^ v)) (pc + 1)) :=
  so_b2 (f := fun u v => u ^^^ v) C (fun env x y => ab_binK_eq _ env x y) (fun _ _ _ _ _ _ x y k => lv_ixor C.1 C.2.1 d k)
theorem so_ishr (C : ab_cx p R s m args c cc own nL X D) (d : decode cc pc = .ok (.ishr, 1)) : ab_so p l e R s m args below meth c Q nL X D z0 cal pc (op_b2 (ab_binK (fun u v => u >>> (v &&& 31))) (pc + 1)) :=
  so_b2 (f := fun u v => u >>> (v &&& 31)) C (fun env x y => ab_binK_eq _ env x y) (fun _ _ _ _ _ _ x y k => lv_ishr C.1 C.2.1 d k)
theorem so_ishl (C : ab_cx p R s m args c cc own nL X D) (d : decode cc pc = .ok (.ishl, 1)) : ab_so p l e R s m args below meth c Q nL X D z0 cal pc (op_b2 (ab_binK (fun u v => u <<< (v &&& 31))) (pc + 1)) :=
  so_b2 (f := fun u v => u <<< (v &&& 31)) C (fun env x y => ab_binK_eq _ env x y) (fun _ _ _ _ _ _ x y k => lv_ishl C.1 C.2.1 d k)
theorem so_iushr (C : ab_cx p R s m args c cc own nL X D) (d : decode cc pc = .ok (.iushr, 1)) : ab_so p l e R s m args below meth c Q nL X D z0 cal pc (op_b2 (ab_binK (fun u v => (u.toUInt32 >>> (v.toUInt32 &&& Int32.toUInt32 31)).toInt32)) (pc + 1)) :=
  so_b2 (f := fun u v => (u.toUInt32 >>> (v.toUInt32 &&& Int32.toUInt32 31)).toInt32) C (fun env x y => ab_binK_eq _ env x y) (fun _ _ _ _ _ _ x y k => lv_iushr C.1 C.2.1 d rfl k)
theorem ab_frk_in {nl : Nat} {aw : List ab_C} {cl sl : Nat} {lv : List (Nat × ab_V)} {st : List ab_V} : ∀ {T : List ab_E} {tgt : Nat} {k : List ab_S} {e : ab_E}, e ∈ T → ((e, nl, aw, cl, sl), tgt, lv, st) ∈ ab_frk nl aw cl sl lv st T tgt k
  | [], _, _, _, h => by cases h
  | a :: T, tgt, k, e, h => by
    rcases List.mem_cons.mp h with rfl | h
    · exact List.mem_cons_self
    · exact List.mem_cons_of_mem _ (ab_frk_in h)
theorem ab_frk_rest {nl : Nat} {aw : List ab_C} {cl sl : Nat} {lv : List (Nat × ab_V)} {st : List ab_V} : ∀ {T : List ab_E} {tgt : Nat} {k : List ab_S} {S : ab_S}, S ∈ k → S ∈ ab_frk nl aw cl sl lv st T tgt k
  | [], _, _, _, h => h
  | _ :: _, _, _, _, h => List.mem_cons_of_mem _ (ab_frk_rest h)
theorem so_if_eq (C : ab_cx p R s m args c cc own nL X D) {off : Int} {tgt : Nat} (d : decode cc pc = .ok (.ifCond .eq off, 3)) (ht : (pc : Int) + off = (tgt : Int)) : ab_so p l e R s m args below meth c Q nL X D z0 cal pc (op_if 0 tgt (pc + 3)) := by
  intro env nl aw cl sl lv st r hr hk z ws H locs ls cst hR hl hs
  dsimp only at hR hl hs
  unfold op_if at hr
  split at hr
  · rename_i a st'
    obtain ⟨T, F, q1, q2, q3⟩ := ab_brK_eq (β := ab_A) 0 env a (none, 0)
    rw [q1] at hr
    cases hr
    obtain ⟨x, r, rfl, h1, h2⟩ := ab_st1 hs
    obtain ⟨y, rfl, h3⟩ := ab_evi h1
    refine lv_if_eq C.1 C.2.1 d ht (fun hP => ?_) (fun hP => ?_)
    · obtain ⟨e1, m1, m2⟩ := q2 z.1 y 0 hR.1 h3 rfl (congrArg Int32.toInt hP)
      exact hk _ (ab_frk_in m1) z ws H locs ls r (hR.ref m2) hl h2
    · obtain ⟨e1, m1, m2⟩ := q3 z.1 y 0 hR.1 h3 rfl (fun q => hP (Int32.toInt_inj.mp q))
      exact hk _ (ab_frk_rest (ab_frk_in m1)) z ws H locs ls r (hR.ref m2) hl h2
  · cases hr
theorem so_icmp_eq (C : ab_cx p R s m args c cc own nL X D) {off : Int} {tgt : Nat} (d : decode cc pc = .ok (.if_icmp .eq off, 3)) (ht : (pc : Int) + off = (tgt : Int)) : ab_so p l e R s m args below meth c Q nL X D z0 cal pc (op_icmp 0 tgt (pc + 3)) := by
  intro env nl aw cl sl lv st r hr hk z ws H locs ls cst hR hl hs
  dsimp only at hR hl hs
  unfold op_icmp at hr
  split at hr
  · rename_i b a st'
    obtain ⟨T, F, q1, q2, q3⟩ := ab_brK_eq (β := ab_A) 0 env a b
    rw [q1] at hr
    cases hr
    obtain ⟨x, r, rfl, h1, h2⟩ := ab_st1 hs
    obtain ⟨y, rfl, h3⟩ := ab_evi h1
    obtain ⟨x2, r2, rfl, h4, h5⟩ := ab_st1 h2
    obtain ⟨y2, rfl, h6⟩ := ab_evi h4
    refine lv_icmp_eq C.1 C.2.1 d ht (fun hP => ?_) (fun hP => ?_)
    · obtain ⟨e1, m1, m2⟩ := q2 z.1 y2 y hR.1 h6 h3 (congrArg Int32.toInt hP)
      exact hk _ (ab_frk_in m1) z ws H locs ls r2 (hR.ref m2) hl h5
    · obtain ⟨e1, m1, m2⟩ := q3 z.1 y2 y hR.1 h6 h3 (fun q => hP (Int32.toInt_inj.mp q))
      exact hk _ (ab_frk_rest (ab_frk_in m1)) z ws H locs ls r2 (hR.ref m2) hl h5
  · cases hr
theorem so_if_ne (C : ab_cx p R s m args c cc own nL X D) {off : Int} {tgt : Nat} (d : decode cc pc = .ok (.ifCond .ne off, 3)) (ht : (pc : Int) + off = (tgt : Int)) : ab_so p l e R s m args below meth c Q nL X D z0 cal pc (op_if 1 tgt (pc + 3)) := by
  intro env nl aw cl sl lv st r hr hk z ws H locs ls cst hR hl hs
  dsimp only at hR hl hs
  unfold op_if at hr
  split at hr
  · rename_i a st'
    obtain ⟨T, F, q1, q2, q3⟩ := ab_brK_eq (β := ab_A) 1 env a (none, 0)
    rw [q1] at hr
    cases hr
    obtain ⟨x, r, rfl, h1, h2⟩ := ab_st1 hs
    obtain ⟨y, rfl, h3⟩ := ab_evi h1
    refine lv_if_ne C.1 C.2.1 d ht (fun hP => ?_) (fun hP => ?_)
    · obtain ⟨e1, m1, m2⟩ := q2 z.1 y 0 hR.1 h3 rfl (fun q => hP (Int32.toInt_inj.mp q))
      exact hk _ (ab_frk_in m1) z ws H locs ls r (hR.ref m2) hl h2
    · obtain ⟨e1, m1, m2⟩ := q3 z.1 y 0 hR.1 h3 rfl (fun q => q (congrArg Int32.toInt hP))
      exact hk _ (ab_frk_rest (ab_frk_in m1)) z ws H locs ls r (hR.ref m2) hl h2
  · cases hr
theorem so_icmp_ne (C : ab_cx p R s m args c cc own nL X D) {off : Int} {tgt : Nat} (d : decode cc pc = .ok (.if_icmp .ne off, 3)) (ht : (pc : Int) + off = (tgt : Int)) : ab_so p l e R s m args below meth c Q nL X D z0 cal pc (op_icmp 1 tgt (pc + 3)) := by
  intro env nl aw cl sl lv st r hr hk z ws H locs ls cst hR hl hs
  dsimp only at hR hl hs
  unfold op_icmp at hr
  split at hr
  · rename_i b a st'
    obtain ⟨T, F, q1, q2, q3⟩ := ab_brK_eq (β := ab_A) 1 env a b
    rw [q1] at hr
    cases hr
    obtain ⟨x, r, rfl, h1, h2⟩ := ab_st1 hs
    obtain ⟨y, rfl, h3⟩ := ab_evi h1
    obtain ⟨x2, r2, rfl, h4, h5⟩ := ab_st1 h2
    obtain ⟨y2, rfl, h6⟩ := ab_evi h4
    refine lv_icmp_ne C.1 C.2.1 d ht (fun hP => ?_) (fun hP => ?_)
    · obtain ⟨e1, m1, m2⟩ := q2 z.1 y2 y hR.1 h6 h3 (fun q => hP (Int32.toInt_inj.mp q))
      exact hk _ (ab_frk_in m1) z ws H locs ls r2 (hR.ref m2) hl h5
    · obtain ⟨e1, m1, m2⟩ := q3 z.1 y2 y hR.1 h6 h3 (fun q => q (congrArg Int32.toInt hP))
      exact hk _ (ab_frk_rest (ab_frk_in m1)) z ws H locs ls r2 (hR.ref m2) hl h5
  · cases hr
theorem so_if_lt (C : ab_cx p R s m args c cc own nL X D) {off : Int} {tgt : Nat} (d : decode cc pc = .ok (.ifCond .lt off, 3)) (ht : (pc : Int) + off = (tgt : Int)) : ab_so p l e R s m args below meth c Q nL X D z0 cal pc (op_if 2 tgt (pc + 3)) := by
  intro env nl aw cl sl lv st r hr hk z ws H locs ls cst hR hl hs
  dsimp only at hR hl hs
  unfold op_if at hr
  split at hr
  · rename_i a st'
    obtain ⟨T, F, q1, q2, q3⟩ := ab_brK_eq (β := ab_A) 2 env a (none, 0)
    rw [q1] at hr
    cases hr
    obtain ⟨x, r, rfl, h1, h2⟩ := ab_st1 hs
    obtain ⟨y, rfl, h3⟩ := ab_evi h1
    refine lv_if_lt C.1 C.2.1 d ht (fun hP => ?_) (fun hP => ?_)
    · obtain ⟨e1, m1, m2⟩ := q2 z.1 y 0 hR.1 h3 rfl (Int32.lt_iff_toInt_lt.mp hP)
      exact hk _ (ab_frk_in m1) z ws H locs ls r (hR.ref m2) hl h2
    · obtain ⟨e1, m1, m2⟩ := q3 z.1 y 0 hR.1 h3 rfl (fun q => hP (Int32.lt_iff_toInt_lt.mpr q))
      exact hk _ (ab_frk_rest (ab_frk_in m1)) z ws H locs ls r (hR.ref m2) hl h2
  · cases hr
theorem so_icmp_lt (C : ab_cx p R s m args c cc own nL X D) {off : Int} {tgt : Nat} (d : decode cc pc = .ok (.if_icmp .lt off, 3)) (ht : (pc : Int) + off = (tgt : Int)) : ab_so p l e R s m args below meth c Q nL X D z0 cal pc (op_icmp 2 tgt (pc + 3)) := by
  intro env nl aw cl sl lv st r hr hk z ws H locs ls cst hR hl hs
  dsimp only at hR hl hs
  unfold op_icmp at hr
  split at hr
  · rename_i b a st'
    obtain ⟨T, F, q1, q2, q3⟩ := ab_brK_eq (β := ab_A) 2 env a b
    rw [q1] at hr
    cases hr
    obtain ⟨x, r, rfl, h1, h2⟩ := ab_st1 hs
    obtain ⟨y, rfl, h3⟩ := ab_evi h1
    obtain ⟨x2, r2, rfl, h4, h5⟩ := ab_st1 h2
    obtain ⟨y2, rfl, h6⟩ := ab_evi h4
    refine lv_icmp_lt C.1 C.2.1 d ht (fun hP => ?_) (fun hP => ?_)
    · obtain ⟨e1, m1, m2⟩ := q2 z.1 y2 y hR.1 h6 h3 (Int32.lt_iff_toInt_lt.mp hP)
      exact hk _ (ab_frk_in m1) z ws H locs ls r2 (hR.ref m2) hl h5
    · obtain ⟨e1, m1, m2⟩ := q3 z.1 y2 y hR.1 h6 h3 (fun q => hP (Int32.lt_iff_toInt_lt.mpr q))
      exact hk _ (ab_frk_rest (ab_frk_in m1)) z ws H locs ls r2 (hR.ref m2) hl h5
  · cases hr
theorem so_if_ge (C : ab_cx p R s m args c cc own nL X D) {off : Int} {tgt : Nat} (d : decode cc pc = .ok (.ifCond .ge off, 3)) (ht : (pc : Int) + off = (tgt : Int)) : ab_so p l e R s m args below meth c Q nL X D z0 cal pc (op_if 3 tgt (pc + 3)) := by
  intro env nl aw cl sl lv st r hr hk z ws H locs ls cst hR hl hs
  dsimp only at hR hl hs
  unfold op_if at hr
  split at hr
  · rename_i a st'
    obtain ⟨T, F, q1, q2, q3⟩ := ab_brK_eq (β := ab_A) 3 env a (none, 0)
    rw [q1] at hr
    cases hr
    obtain ⟨x, r, rfl, h1, h2⟩ := ab_st1 hs
    obtain ⟨y, rfl, h3⟩ := ab_evi h1
    refine lv_if_ge C.1 C.2.1 d ht (fun hP => ?_) (fun hP => ?_)
    · obtain ⟨e1, m1, m2⟩ := q2 z.1 y 0 hR.1 h3 rfl (fun q => Int.not_le.mpr q (Int32.le_iff_toInt_le.mp hP))
      exact hk _ (ab_frk_in m1) z ws H locs ls r (hR.ref m2) hl h2
    · obtain ⟨e1, m1, m2⟩ := q3 z.1 y 0 hR.1 h3 rfl (fun q => hP (Int32.le_iff_toInt_le.mpr (Int.not_lt.mp q)))
      exact hk _ (ab_frk_rest (ab_frk_in m1)) z ws H locs ls r (hR.ref m2) hl h2
  · cases hr
theorem so_icmp_ge (C : ab_cx p R s m args c cc own nL X D) {off : Int} {tgt : Nat} (d : decode cc pc = .ok (.if_icmp .ge off, 3)) (ht : (pc : Int) + off = (tgt : Int)) : ab_so p l e R s m args below meth c Q nL X D z0 cal pc (op_icmp 3 tgt (pc + 3)) := by
  intro env nl aw cl sl lv st r hr hk z ws H locs ls cst hR hl hs
  dsimp only at hR hl hs
  unfold op_icmp at hr
  split at hr
  · rename_i b a st'
    obtain ⟨T, F, q1, q2, q3⟩ := ab_brK_eq (β := ab_A) 3 env a b
    rw [q1] at hr
    cases hr
    obtain ⟨x, r, rfl, h1, h2⟩ := ab_st1 hs
    obtain ⟨y, rfl, h3⟩ := ab_evi h1
    obtain ⟨x2, r2, rfl, h4, h5⟩ := ab_st1 h2
    obtain ⟨y2, rfl, h6⟩ := ab_evi h4
    refine lv_icmp_ge C.1 C.2.1 d ht (fun hP => ?_) (fun hP => ?_)
    · obtain ⟨e1, m1, m2⟩ := q2 z.1 y2 y hR.1 h6 h3 (fun q => Int.not_le.mpr q (Int32.le_iff_toInt_le.mp hP))
      exact hk _ (ab_frk_in m1) z ws H locs ls r2 (hR.ref m2) hl h5
    · obtain ⟨e1, m1, m2⟩ := q3 z.1 y2 y hR.1 h6 h3 (fun q => hP (Int32.le_iff_toInt_le.mpr (Int.not_lt.mp q)))
      exact hk _ (ab_frk_rest (ab_frk_in m1)) z ws H locs ls r2 (hR.ref m2) hl h5
  · cases hr
theorem so_if_gt (C : ab_cx p R s m args c cc own nL X D) {off : Int} {tgt : Nat} (d : decode cc pc = .ok (.ifCond .gt off, 3)) (ht : (pc : Int) + off = (tgt : Int)) : ab_so p l e R s m args below meth c Q nL X D z0 cal pc (op_if 4 tgt (pc + 3)) := by
  intro env nl aw cl sl lv st r hr hk z ws H locs ls cst hR hl hs
  dsimp only at hR hl hs
  unfold op_if at hr
  split at hr
  · rename_i a st'
    obtain ⟨T, F, q1, q2, q3⟩ := ab_brK_eq (β := ab_A) 4 env a (none, 0)
    rw [q1] at hr
    cases hr
    obtain ⟨x, r, rfl, h1, h2⟩ := ab_st1 hs
    obtain ⟨y, rfl, h3⟩ := ab_evi h1
    refine lv_if_gt C.1 C.2.1 d ht (fun hP => ?_) (fun hP => ?_)
    · obtain ⟨e1, m1, m2⟩ := q2 z.1 y 0 hR.1 h3 rfl (Int32.lt_iff_toInt_lt.mp hP)
      exact hk _ (ab_frk_in m1) z ws H locs ls r (hR.ref m2) hl h2
    · obtain ⟨e1, m1, m2⟩ := q3 z.1 y 0 hR.1 h3 rfl (fun q => hP (Int32.lt_iff_toInt_lt.mpr q))
      exact hk _ (ab_frk_rest (ab_frk_in m1)) z ws H locs ls r (hR.ref m2) hl h2
  · cases hr
theorem so_icmp_gt (C : ab_cx p R s m args c cc own nL X D) {off : Int} {tgt : Nat} (d : decode cc pc = .ok (.if_icmp .gt off, 3)) (ht : (pc : Int) + off = (tgt : Int)) : ab_so p l e R s m args below meth c Q nL X D z0 cal pc (op_icmp 4 tgt (pc + 3)) := by
  intro env nl aw cl sl lv st r hr hk z ws H locs ls cst hR hl hs
  dsimp only at hR hl hs
  unfold op_icmp at hr
  split at hr
  · rename_i b a st'
    obtain ⟨T, F, q1, q2, q3⟩ := ab_brK_eq (β := ab_A) 4 env a b
    rw [q1] at hr
    cases hr
    obtain ⟨x, r, rfl, h1, h2⟩ := ab_st1 hs
    obtain ⟨y, rfl, h3⟩ := ab_evi h1
    obtain ⟨x2, r2, rfl, h4, h5⟩ := ab_st1 h2
    obtain ⟨y2, rfl, h6⟩ := ab_evi h4
    refine lv_icmp_gt C.1 C.2.1 d ht (fun hP => ?_) (fun hP => ?_)
    · obtain ⟨e1, m1, m2⟩ := q2 z.1 y2 y hR.1 h6 h3 (Int32.lt_iff_toInt_lt.mp hP)
      exact hk _ (ab_frk_in m1) z ws H locs ls r2 (hR.ref m2) hl h5
    · obtain ⟨e1, m1, m2⟩ := q3 z.1 y2 y hR.1 h6 h3 (fun q => hP (Int32.lt_iff_toInt_lt.mpr q))
      exact hk _ (ab_frk_rest (ab_frk_in m1)) z ws H locs ls r2 (hR.ref m2) hl h5
  · cases hr
theorem so_if_le (C : ab_cx p R s m args c cc own nL X D) {off : Int} {tgt : Nat} (d : decode cc pc = .ok (.ifCond .le off, 3)) (ht : (pc : Int) + off = (tgt : Int)) : ab_so p l e R s m args below meth c Q nL X D z0 cal pc (op_if 5 tgt (pc + 3)) := by
  intro env nl aw cl sl lv st r hr hk z ws H locs ls cst hR hl hs
  dsimp only at hR hl hs
  unfold op_if at hr
  split at hr
  · rename_i a st'
    obtain ⟨T, F, q1, q2, q3⟩ := ab_brK_eq (β := ab_A) 5 env a (none, 0)
    rw [q1] at hr
    cases hr
    obtain ⟨x, r, rfl, h1, h2⟩ := ab_st1 hs
    obtain ⟨y, rfl, h3⟩ := ab_evi h1
    refine lv_if_le C.1 C.2.1 d ht (fun hP => ?_) (fun hP => ?_)
    · obtain ⟨e1, m1, m2⟩ := q2 z.1 y 0 hR.1 h3 rfl (fun q => Int.not_le.mpr q (Int32.le_iff_toInt_le.mp hP))
      exact hk _ (ab_frk_in m1) z ws H locs ls r (hR.ref m2) hl h2
    · obtain ⟨e1, m1, m2⟩ := q3 z.1 y 0 hR.1 h3 rfl (fun q => hP (Int32.le_iff_toInt_le.mpr (Int.not_lt.mp q)))
      exact hk _ (ab_frk_rest (ab_frk_in m1)) z ws H locs ls r (hR.ref m2) hl h2
  · cases hr
theorem so_icmp_le (C : ab_cx p R s m args c cc own nL X D) {off : Int} {tgt : Nat} (d : decode cc pc = .ok (.if_icmp .le off, 3)) (ht : (pc : Int) + off = (tgt : Int)) : ab_so p l e R s m args below meth c Q nL X D z0 cal pc (op_icmp 5 tgt (pc + 3)) := by
  intro env nl aw cl sl lv st r hr hk z ws H locs ls cst hR hl hs
  dsimp only at hR hl hs
  unfold op_icmp at hr
  split at hr
  · rename_i b a st'
    obtain ⟨T, F, q1, q2, q3⟩ := ab_brK_eq (β := ab_A) 5 env a b
    rw [q1] at hr
    cases hr
    obtain ⟨x, r, rfl, h1, h2⟩ := ab_st1 hs
    obtain ⟨y, rfl, h3⟩ := ab_evi h1
    obtain ⟨x2, r2, rfl, h4, h5⟩ := ab_st1 h2
    obtain ⟨y2, rfl, h6⟩ := ab_evi h4
    refine lv_icmp_le C.1 C.2.1 d ht (fun hP => ?_) (fun hP => ?_)
    · obtain ⟨e1, m1, m2⟩ := q2 z.1 y2 y hR.1 h6 h3 (fun q => Int.not_le.mpr q (Int32.le_iff_toInt_le.mp hP))
      exact hk _ (ab_frk_in m1) z ws H locs ls r2 (hR.ref m2) hl h5
    · obtain ⟨e1, m1, m2⟩ := q3 z.1 y2 y hR.1 h6 h3 (fun q => hP (Int32.le_iff_toInt_le.mpr (Int.not_lt.mp q)))
      exact hk _ (ab_frk_rest (ab_frk_in m1)) z ws H locs ls r2 (hR.ref m2) hl h5
  · cases hr
theorem so_goto (C : ab_cx p R s m args c cc own nL X D) {off : Int} {tgt : Nat} (d : decode cc pc = .ok (.goto off, 3)) (ht : (pc : Int) + off = (tgt : Int)) : ab_so p l e R s m args below meth c Q nL X D z0 cal pc (op_goto tgt) := by
  intro env nl aw cl sl lv st r hr hk z ws H locs ls cst hR hl hs
  dsimp only at hR hl hs
  simp only [op_goto, Option.some.injEq] at hr
  subst hr
  exact lv_goto C.1 C.2.1 d ht (hk _ List.mem_cons_self z ws H locs ls cst hR hl hs)
theorem so_dup (C : ab_cx p R s m args c cc own nL X D) (d : decode cc pc = .ok (.dup, 1)) : ab_so p l e R s m args below meth c Q nL X D z0 cal pc (op_dup (pc + 1)) := by
  intro env nl aw cl sl lv st r hr hk z ws H locs ls cst hR hl hs
  dsimp only at hR hl hs
  unfold op_dup at hr
  split at hr
  · rename_i v st'
    cases hg : ab_lg v
    · rw [hg] at hr
      cases hr
      obtain ⟨x, r, rfl, h1, h2⟩ := ab_st1 hs
      have hc := ab_cat C.2.2.2.2.2.1.2.2.2.2.1 h1
      rw [hg] at hc
      refine lv_dup C.1 C.2.1 d hc ?_
      exact hk _ List.mem_cons_self z ws H locs ls (x :: x :: r) hR hl (by simp only [List.map_cons, h1]; rw [h2])
    · rw [hg] at hr; cases hr
  · cases hr
theorem so_pop (C : ab_cx p R s m args c cc own nL X D) (d : decode cc pc = .ok (.pop, 1)) : ab_so p l e R s m args below meth c Q nL X D z0 cal pc (op_pop (pc + 1)) := by
  intro env nl aw cl sl lv st r hr hk z ws H locs ls cst hR hl hs
  dsimp only at hR hl hs
  unfold op_pop at hr
  split at hr
  · rename_i v st'
    cases hg : ab_lg v
    · rw [hg] at hr
      cases hr
      obtain ⟨x, r, rfl, h1, h2⟩ := ab_st1 hs
      have hc := ab_cat C.2.2.2.2.2.1.2.2.2.2.1 h1
      rw [hg] at hc
      refine lv_pop C.1 C.2.1 d hc ?_
      exact hk _ List.mem_cons_self z ws H locs ls r hR hl h2
    · rw [hg] at hr; cases hr
  · cases hr
theorem so_dup2 (C : ab_cx p R s m args c cc own nL X D) (d : decode cc pc = .ok (.dup2, 1)) : ab_so p l e R s m args below meth c Q nL X D z0 cal pc (op_dup2 (pc + 1)) := by
  intro env nl aw cl sl lv st r hr hk z ws H locs ls cst hR hl hs
  dsimp only at hR hl hs
  unfold op_dup2 at hr
  split at hr
  · rename_i v u st'
    cases hg : ab_lg v
    · cases hg2 : ab_lg u
      · rw [hg, hg2] at hr
        cases hr
        obtain ⟨x, r, rfl, h1, h2⟩ := ab_st1 hs
        obtain ⟨x2, r2, rfl, h3, h4⟩ := ab_st1 h2
        have hc := ab_cat C.2.2.2.2.2.1.2.2.2.2.1 h1
        have hc2 := ab_cat C.2.2.2.2.2.1.2.2.2.2.1 h3
        rw [hg] at hc
        rw [hg2] at hc2
        refine lv_dup2_11 C.1 C.2.1 d hc hc2 ?_
        exact hk _ List.mem_cons_self z ws H locs ls (x :: x2 :: x :: x2 :: r2) hR hl (by simp only [List.map_cons, h1, h3]; rw [h4])
      · rw [hg, hg2] at hr; cases hr
    · rw [hg] at hr; cases hr
  · cases hr
theorem so_i2l (C : ab_cx p R s m args c cc own nL X D) (d : decode cc pc = .ok (.i2l, 1)) : ab_so p l e R s m args below meth c Q nL X D z0 cal pc (op_i2l (pc + 1)) := by
  intro env nl aw cl sl lv st r hr hk z ws H locs ls cst hR hl hs
  dsimp only at hR hl hs
  unfold op_i2l at hr
  split at hr
  · rename_i a st'
    cases hr
    obtain ⟨x, r, rfl, h1, h2⟩ := ab_st1 hs
    obtain ⟨y, rfl, h3⟩ := ab_evi h1
    refine lv_i2l C.1 C.2.1 d rfl ?_
    exact hk _ List.mem_cons_self z ws H locs ls (.long y.toInt64 :: r) hR hl (by simp only [List.map_cons, ab_ev, ab_evL, h3, Option.map_some]; rw [h2])
  · cases hr
theorem so_lfr {np : Nat} {rest : List Value} {lv : List (Nat × ab_V)} {st : List ab_V} {env : ab_E} {nl : Nat} {aw : List ab_C} {cl sl : Nat} {z : ab_Z} {ws : va_W} {H : Heap} {locs : List Loc} {ls : Array Slot} {r : List ab_S} (hr : op_lfr np cal env nl aw cl sl lv st = some r) (hk : ∀ S ∈ r, ab_ok p l e R s m args below meth c Q nL X D z0 S) (hR : ab_R X D s z0 env nl aw z ws H locs) (hl : ab_lR X z nL ls lv) (hs : st.map (ab_ev X z) = rest.map some) (y : Int64) : W p l e R s m args below meth c H locs cl sl Q (F0 m np ls (.long y :: rest)) := by
  simp only [op_lfr, ab_fn_eq, Option.some.injEq] at hr
  subst hr
  refine hk _ List.mem_cons_self (z.1, z.2.1 ++ [y], z.2.2) ws H locs ls (.long y :: rest) (hR.lng y) (hl.ext ab_ext_l) ?_
  simp only [List.map_cons, ab_ev, ab_evL]
  rw [ab_evs.ext ab_ext_l hs, List.getElem?_append_right (by rw [hR.2.1]; exact Nat.le_refl _), hR.2.1, Nat.sub_self]; rfl
theorem so_lor (C : ab_cx p R s m args c cc own nL X D) (d : decode cc pc = .ok (.lor, 1)) : ab_so p l e R s m args below meth c Q nL X D z0 cal pc (op_l2 (pc + 1)) := by
  intro env nl aw cl sl lv st r hr hk z ws H locs ls cst hR hl hs
  dsimp only at hR hl hs
  unfold op_l2 at hr
  split at hr
  · obtain ⟨x, r, rfl, h1, h2⟩ := ab_st1 hs
    obtain ⟨y, rfl, h3⟩ := ab_evl h1
    obtain ⟨x2, r2, rfl, h4, h5⟩ := ab_st1 h2
    obtain ⟨y2, rfl, h6⟩ := ab_evl h4
    exact lv_lor C.1 C.2.1 d (so_lfr hr hk hR hl h5 _)
  · cases hr
theorem so_land (C : ab_cx p R s m args c cc own nL X D) (d : decode cc pc = .ok (.land, 1)) : ab_so p l e R s m args below meth c Q nL X D z0 cal pc (op_l2 (pc + 1)) := by
  intro env nl aw cl sl lv st r hr hk z ws H locs ls cst hR hl hs
  dsimp only at hR hl hs
  unfold op_l2 at hr
  split at hr
  · obtain ⟨x, r, rfl, h1, h2⟩ := ab_st1 hs
    obtain ⟨y, rfl, h3⟩ := ab_evl h1
    obtain ⟨x2, r2, rfl, h4, h5⟩ := ab_st1 h2
    obtain ⟨y2, rfl, h6⟩ := ab_evl h4
    exact lv_land C.1 C.2.1 d (so_lfr hr hk hR hl h5 _)
  · cases hr
theorem so_lxor (C : ab_cx p R s m args c cc own nL X D) (d : decode cc pc = .ok (.lxor, 1)) : ab_so p l e R s m args below meth c Q nL X D z0 cal pc (op_l2 (pc + 1)) := by
  intro env nl aw cl sl lv st r hr hk z ws H locs ls cst hR hl hs
  dsimp only at hR hl hs
  unfold op_l2 at hr
  split at hr
  · obtain ⟨x, r, rfl, h1, h2⟩ := ab_st1 hs
    obtain ⟨y, rfl, h3⟩ := ab_evl h1
    obtain ⟨x2, r2, rfl, h4, h5⟩ := ab_st1 h2
    obtain ⟨y2, rfl, h6⟩ := ab_evl h4
    exact lv_lxor C.1 C.2.1 d (so_lfr hr hk hR hl h5 _)
  · cases hr
theorem so_ladd (C : ab_cx p R s m args c cc own nL X D) (d : decode cc pc = .ok (.ladd, 1)) : ab_so p l e R s m args below meth c Q nL X D z0 cal pc (op_l2 (pc + 1)) := by
  intro env nl aw cl sl lv st r hr hk z ws H locs ls cst hR hl hs
  dsimp only at hR hl hs
  unfold op_l2 at hr
  split at hr
  · obtain ⟨x, r, rfl, h1, h2⟩ := ab_st1 hs
    obtain ⟨y, rfl, h3⟩ := ab_evl h1
    obtain ⟨x2, r2, rfl, h4, h5⟩ := ab_st1 h2
    obtain ⟨y2, rfl, h6⟩ := ab_evl h4
    exact lv_ladd C.1 C.2.1 d (so_lfr hr hk hR hl h5 _)
  · cases hr
theorem so_lshl (C : ab_cx p R s m args c cc own nL X D) (d : decode cc pc = .ok (.lshl, 1)) : ab_so p l e R s m args below meth c Q nL X D z0 cal pc (op_lsh (pc + 1)) := by
  intro env nl aw cl sl lv st r hr hk z ws H locs ls cst hR hl hs
  dsimp only at hR hl hs
  unfold op_lsh at hr
  split at hr
  · obtain ⟨x, r, rfl, h1, h2⟩ := ab_st1 hs
    obtain ⟨y, rfl, h3⟩ := ab_evi h1
    obtain ⟨x2, r2, rfl, h4, h5⟩ := ab_st1 h2
    obtain ⟨y2, rfl, h6⟩ := ab_evl h4
    exact lv_lshl C.1 C.2.1 d rfl (so_lfr hr hk hR hl h5 _)
  · cases hr
theorem so_lshr (C : ab_cx p R s m args c cc own nL X D) (d : decode cc pc = .ok (.lshr, 1)) : ab_so p l e R s m args below meth c Q nL X D z0 cal pc (op_lsh (pc + 1)) := by
  intro env nl aw cl sl lv st r hr hk z ws H locs ls cst hR hl hs
  dsimp only at hR hl hs
  unfold op_lsh at hr
  split at hr
  · obtain ⟨x, r, rfl, h1, h2⟩ := ab_st1 hs
    obtain ⟨y, rfl, h3⟩ := ab_evi h1
    obtain ⟨x2, r2, rfl, h4, h5⟩ := ab_st1 h2
    obtain ⟨y2, rfl, h6⟩ := ab_evl h4
    exact lv_lshr C.1 C.2.1 d rfl (so_lfr hr hk hR hl h5 _)
  · cases hr
theorem so_ldc2 (C : ab_cx p R s m args c cc own nL X D) {i : Nat} {v : Int64} (hw : Cond.constantLong own i v ∈ ab_TG) (d : decode cc pc = .ok (.ldc2_w i, 3)) : ab_so p l e R s m args below meth c Q nL X D z0 cal pc (op_lfr (pc + 3)) := by
  intro env nl aw cl sl lv st r hr hk z ws H locs ls cst hR hl hs
  dsimp only at hR hl hs
  exact lv_ldc2 C.1 C.2.1 C.2.2.2.1 (C.2.2.2.2.1 _ hw) d (so_lfr hr hk hR hl hs v)
theorem so_i2b (C : ab_cx p R s m args c cc own nL X D) (hid : ∀ x : Int32, -128 ≤ x.toInt → x.toInt ≤ 127 → x.toInt8.toInt32 = x) (hin : ∀ x : Int32, -128 ≤ (x.toInt8.toInt32).toInt ∧ (x.toInt8.toInt32).toInt ≤ 127) (d : decode cc pc = .ok (.i2b, 1)) : ab_so p l e R s m args below meth c Q nL X D z0 cal pc (op_cv (-128) 127 (pc + 1)) := by
  intro env nl aw cl sl lv st r hr hk z ws H locs ls cst hR hl hs
  dsimp only at hR hl hs
  unfold op_cv at hr
  split at hr
  · rename_i a st'
    obtain ⟨x0, r, rfl, h1, h2⟩ := ab_st1 hs
    obtain ⟨x, rfl, h3⟩ := ab_evi h1
    have hi := ab_iv_spec hR.1 h3
    rw [ab_ivK_eq] at hr
    cases hc : (ab_le (-128) (ab_iv env a).1 && ab_le (ab_iv env a).2 127)
    · rw [hc, cond_false, ab_frK_eq] at hr
      cases hr
      refine lv_i2b C.1 C.2.1 d rfl ?_
      have e1 : ab_eR (env ++ [(-128, 127)]) (z.1 ++ [x.toInt8.toInt32]) := hR.1.push (hin x).1 (hin x).2
      refine hk _ List.mem_cons_self (z.1 ++ [x.toInt8.toInt32], z.2) ws H locs ls (.int (x.toInt8.toInt32) :: r) (hR.vars e1) (hl.ext ab_ext_v) ?_
      simp only [List.map_cons, ab_ev, ab_evI]
      rw [ab_evs.ext (ab_ext_v (t := [x.toInt8.toInt32])) h2, List.getElem?_append_right (by rw [hR.1.1]; exact Nat.le_refl _), hR.1.1, Nat.sub_self]
      simp
    · rw [hc, cond_true] at hr
      cases hr
      rw [Bool.and_eq_true, ab_le_iff, ab_le_iff] at hc
      refine lv_i2b (v := x) C.1 C.2.1 d (hid x (by omega) (by omega)) ?_
      exact hk _ List.mem_cons_self z ws H locs ls (.int x :: r) hR hl (by simp only [List.map_cons, h1]; rw [h2])
  · cases hr
theorem so_i2c (C : ab_cx p R s m args c cc own nL X D) (hid : ∀ x : Int32, 0 ≤ x.toInt → x.toInt ≤ 65535 → (x.toUInt32 % 65536).toInt32 = x) (hin : ∀ x : Int32, 0 ≤ ((x.toUInt32 % 65536).toInt32).toInt ∧ ((x.toUInt32 % 65536).toInt32).toInt ≤ 65535) (d : decode cc pc = .ok (.i2c, 1)) : ab_so p l e R s m args below meth c Q nL X D z0 cal pc (op_cv (0) 65535 (pc + 1)) := by
  intro env nl aw cl sl lv st r hr hk z ws H locs ls cst hR hl hs
  dsimp only at hR hl hs
  unfold op_cv at hr
  split at hr
  · rename_i a st'
    obtain ⟨x0, r, rfl, h1, h2⟩ := ab_st1 hs
    obtain ⟨x, rfl, h3⟩ := ab_evi h1
    have hi := ab_iv_spec hR.1 h3
    rw [ab_ivK_eq] at hr
    cases hc : (ab_le (0) (ab_iv env a).1 && ab_le (ab_iv env a).2 65535)
    · rw [hc, cond_false, ab_frK_eq] at hr
      cases hr
      refine lv_i2c C.1 C.2.1 d rfl ?_
      have e1 : ab_eR (env ++ [(0, 65535)]) (z.1 ++ [(x.toUInt32 % 65536).toInt32]) := hR.1.push (hin x).1 (hin x).2
      refine hk _ List.mem_cons_self (z.1 ++ [(x.toUInt32 % 65536).toInt32], z.2) ws H locs ls (.int ((x.toUInt32 % 65536).toInt32) :: r) (hR.vars e1) (hl.ext ab_ext_v) ?_
      simp only [List.map_cons, ab_ev, ab_evI]
      rw [ab_evs.ext (ab_ext_v (t := [(x.toUInt32 % 65536).toInt32])) h2, List.getElem?_append_right (by rw [hR.1.1]; exact Nat.le_refl _), hR.1.1, Nat.sub_self]
      simp
    · rw [hc, cond_true] at hr
      cases hr
      rw [Bool.and_eq_true, ab_le_iff, ab_le_iff] at hc
      refine lv_i2c (v := x) C.1 C.2.1 d (hid x (by omega) (by omega)) ?_
      exact hk _ List.mem_cons_self z ws H locs ls (.int x :: r) hR hl (by simp only [List.map_cons, h1]; rw [h2])
  · cases hr
theorem ab_cmp_in (x y : Int64) : -1 ≤ (lg_cmp x y).toInt ∧ (lg_cmp x y).toInt ≤ 1 := by
  unfold lg_cmp
  split
  · decide +kernel
  · split
    · decide +kernel
    · decide +kernel
theorem so_lcmp (C : ab_cx p R s m args c cc own nL X D) (d : decode cc pc = .ok (.lcmp, 1)) : ab_so p l e R s m args below meth c Q nL X D z0 cal pc (op_lcmp (pc + 1)) := by
  intro env nl aw cl sl lv st r hr hk z ws H locs ls cst hR hl hs
  dsimp only at hR hl hs
  unfold op_lcmp at hr
  split at hr
  · rename_i b a st'
    obtain ⟨x, r, rfl, h1, h2⟩ := ab_st1 hs
    obtain ⟨y, rfl, h3⟩ := ab_evl h1
    obtain ⟨x2, r2, rfl, h4, h5⟩ := ab_st1 h2
    obtain ⟨y2, rfl, h6⟩ := ab_evl h4
    refine W.lcmp C.1 C.2.1 d ?_
    have fin : ∀ r0 : List ab_S, ab_frK env (-1) 1 (fun env a => some [((env, nl, aw, cl, sl), pc + 1, lv, .inl a :: st')]) = some r0 → (∀ S ∈ r0, ab_ok p l e R s m args below meth c Q nL X D z0 S) → W p l e R s m args below meth c H locs cl sl Q (F0 m (pc + 1) ls (.int (lg_cmp y2 y) :: r2)) := by
      intro r0 h0 hk0
      rw [ab_frK_eq] at h0
      cases h0
      have e1 : ab_eR (env ++ [(-1, 1)]) (z.1 ++ [lg_cmp y2 y]) := hR.1.push (ab_cmp_in y2 y).1 (ab_cmp_in y2 y).2
      refine hk0 _ List.mem_cons_self (z.1 ++ [lg_cmp y2 y], z.2) ws H locs ls (.int (lg_cmp y2 y) :: r2) (hR.vars e1) (hl.ext ab_ext_v) ?_
      simp only [List.map_cons, ab_ev, ab_evI]
      rw [ab_evs.ext (ab_ext_v (t := [lg_cmp y2 y])) h5, List.getElem?_append_right (by rw [hR.1.1]; exact Nat.le_refl _), hR.1.1, Nat.sub_self]
      simp
    split at hr
    · rename_i a0 b0
      obtain ⟨a1, u1, u2⟩ := ab_cnK_eq (β := ab_A) env a0
      obtain ⟨b1, v1, v2⟩ := ab_cnK_eq (β := ab_A) env b0
      rw [u1, v1] at hr
      cases hc : ab_eqI a1 b1
      · rw [hc, cond_false] at hr; exact fin r hr hk
      · rw [hc, cond_true] at hr
        cases hr
        cases ab_eqI_eq hc
        simp only [ab_evL, Option.map_eq_some_iff] at h3 h6
        obtain ⟨i1, j1, rfl⟩ := h3
        obtain ⟨i2, j2, rfl⟩ := h6
        have k1 := v2 z.1 i1 hR.1 j1
        have k2 := u2 z.1 i2 hR.1 j2
        cases Option.some.inj (k1.symm.trans k2)
        have e0 : lg_cmp i1.toInt64 i1.toInt64 = 0 := by unfold lg_cmp; rw [if_neg (Int64.lt_irrefl), if_pos rfl]
        rw [e0]
        exact hk _ List.mem_cons_self z ws H locs ls (.int 0 :: r2) hR hl (by simp only [List.map_cons, ab_ev, ab_evI, Option.map_some]; rw [h5]; rfl)
    · exact fin r hr hk
  · cases hr
end
end
section
/-! Fields, arrays, new cells, switches, texts and statics. -/
theorem ab_b8in (x : Int32) : -128 ≤ (x.toInt8.toInt32).toInt ∧ (x.toInt8.toInt32).toInt ≤ 127 := by
  rw [Int8.toInt_toInt32]
  have h1 := Int8.minValue_le_toInt x.toInt8
  have h2 := Int8.toInt_le x.toInt8
  have e1 : Int8.minValue.toInt = -128 := by decide +kernel
  have e2 : Int8.maxValue.toInt = 127 := by decide +kernel
  omega
theorem ab_b8 (x : Int32) (h1 : -128 ≤ x.toInt) (h2 : x.toInt ≤ 127) : x.toInt8.toInt32 = x := by
  apply Int32.toInt_inj.mp
  rw [Int8.toInt_toInt32, Int32.toInt_toInt8]
  exact Int.bmod_eq_of_le (by omega) (by omega)
theorem ab_nn32 (x : Int32) (h1 : 0 ≤ x.toInt) : x = nI x.toInt.toNat := by
  have h := ab_i32 x
  apply Int32.toInt_inj.mp
  rw [nI_toInt (by omega)]; omega
theorem ab_c16 (x : Int32) (h1 : 0 ≤ x.toInt) (h2 : x.toInt ≤ 65535) : (x.toUInt32 % 65536).toInt32 = x := by
  rw [pk_char]
  have e := ab_nn32 x h1
  have e2 : x.toBitVec.toNat = x.toInt.toNat := by
    conv => lhs; rw [e]
    exact pk_tn (by omega)
  rw [e2, Nat.mod_eq_of_lt (by omega)]; exact e.symm
theorem ab_c16in (x : Int32) : 0 ≤ ((x.toUInt32 % 65536).toInt32).toInt ∧ ((x.toUInt32 % 65536).toInt32).toInt ≤ 65535 := by
  rw [pk_char, nI_toInt (by omega)]; omega
/-- may a field or a row of this type hold it -/
def ab_fit (ty : FieldType) (env : ab_E) (v : ab_V) : Bool := match ty, v with
  | .int, .inl _ => true
  | .boolean, .inl a => ab_ivK env a (fun lo hi => ab_le 0 lo && ab_le hi 1)
  | .byte, .inl a => ab_ivK env a (fun lo hi => ab_le (-128) lo && ab_le hi 127)
  | .char, .inl a => ab_ivK env a (fun lo hi => ab_le 0 lo && ab_le hi 65535)
  | .long, .inr (.inl _) => true
  | .object _, .inr (.inr r) => ab_nn r
  | .array _, .inr (.inr r) => ab_nn r
  | _, _ => false
theorem ab_fit_ok {ty : FieldType} {env : ab_E} {v : ab_V} {X : ab_X} {z : ab_Z} {x : Value} (hR : ab_eR env z.1) (h : ab_fit ty env v = true) (hv : ab_ev X z v = some x) : narrow ty x = x ∧ fits ty x = true := by
  unfold ab_fit at h
  split at h
  · obtain ⟨y, rfl, -⟩ := ab_evi hv
    exact ⟨rfl, rfl⟩
  · obtain ⟨y, rfl, h3⟩ := ab_evi hv
    have hi := ab_iv_spec hR h3
    rw [ab_ivK_eq, Bool.and_eq_true, ab_le_iff, ab_le_iff] at h
    have e := ab_nn32 y (by omega)
    have e2 : y.toInt.toNat = 0 ∨ y.toInt.toNat = 1 := by omega
    rcases e2 with e2 | e2
    · rw [e, e2]; exact ⟨rfl, by decide +kernel⟩
    · rw [e, e2]; exact ⟨rfl, by decide +kernel⟩
  · obtain ⟨y, rfl, h3⟩ := ab_evi hv
    have hi := ab_iv_spec hR h3
    rw [ab_ivK_eq, Bool.and_eq_true, ab_le_iff, ab_le_iff] at h
    refine ⟨?_, ?_⟩
    · show Value.int y.toInt8.toInt32 = _
      rw [ab_b8 y (by omega) (by omega)]
    · have h1 : (-128 : Int32) ≤ y := Int32.le_iff_toInt_le.mpr (by rw [show (-128 : Int32).toInt = -128 from by decide +kernel]; omega)
      have h2 : y ≤ (127 : Int32) := Int32.le_iff_toInt_le.mpr (by rw [show (127 : Int32).toInt = 127 from by decide +kernel]; omega)
      show (decide ((-128 : Int32) ≤ y) && decide (y ≤ 127)) = true
      rw [decide_eq_true h1, decide_eq_true h2]; rfl
  · obtain ⟨y, rfl, h3⟩ := ab_evi hv
    have hi := ab_iv_spec hR h3
    rw [ab_ivK_eq, Bool.and_eq_true, ab_le_iff, ab_le_iff] at h
    rw [ab_nn32 y (by omega)]
    exact pk_charN (by omega)
  · obtain ⟨y, rfl, -⟩ := ab_evl hv
    exact ⟨rfl, rfl⟩
  · obtain ⟨a, rfl⟩ := ab_nn_ref h hv
    exact ⟨rfl, rfl⟩
  · obtain ⟨a, rfl⟩ := ab_nn_ref h hv
    exact ⟨rfl, rfl⟩
  · cases h
theorem ab_map_get {X : ab_X} {z : ab_Z} : ∀ {l : List ab_V} {c : List Value} {k : Nat} {a : ab_V}, l.map (ab_ev X z) = c.map some → l[k]? = some a → ∃ x, c[k]? = some x ∧ ab_ev X z a = some x
  | [], c, k, a, _, h => by simp at h
  | b :: l, [], k, a, e, h => by simp at e
  | b :: l, x :: c, 0, a, e, h => by
    simp only [List.map_cons, List.cons.injEq] at e
    rw [List.getElem?_cons_zero] at h
    cases h
    exact ⟨x, rfl, e.1⟩
  | b :: l, x :: c, k + 1, a, e, h => by
    simp only [List.map_cons, List.cons.injEq] at e
    rw [List.getElem?_cons_succ] at h ⊢
    exact ab_map_get e.2 h
theorem ab_map_set {X : ab_X} {z : ab_Z} : ∀ {l : List ab_V} {c : List Value} {k : Nat} {a : ab_V} {x : Value}, l.map (ab_ev X z) = c.map some → ab_ev X z a = some x → (l.set k a).map (ab_ev X z) = (c.set k x).map some
  | [], [], k, a, x, _, _ => rfl
  | [], _ :: _, k, a, x, e, h => by simp at e
  | b :: l, [], k, a, x, e, h => by simp at e
  | b :: l, y :: c, 0, a, x, e, h => by
    simp only [List.map_cons, List.cons.injEq] at e
    simp only [List.set, List.map_cons, h, e.2]
  | b :: l, y :: c, k + 1, a, x, e, h => by
    simp only [List.map_cons, List.cons.injEq] at e
    simp only [List.set, List.map_cons, e.1, ab_map_set e.2 h]
theorem ab_map_len {X : ab_X} {z : ab_Z} {l : List ab_V} {c : List Value} (e : l.map (ab_ev X z) = c.map some) : l.length = c.length := by
  have h := congrArg List.length e
  simpa using h
/-- a reference to a cell of the world -/
theorem ab_ref2 {X : ab_X} {z : ab_Z} {j : Nat} {x : Value} (h : ab_ev X z (.inr (.inr (2, j))) = some x) : ∃ a, x = .ref a ∧ z.2.2[j]? = some a := by
  simp only [ab_ev, ab_evR, Option.map_eq_some_iff] at h
  obtain ⟨y, h1, h2⟩ := h
  exact ⟨y, h2.symm, h1⟩
def ab_atK {β : Type} (d : ab_V) : List (Nat × ab_V) → Nat → (ab_V → β) → β
  | [], _, k => k d
  | (i, v) :: r, j, k => bif Nat.beq i j then k v else ab_atK d r j k
theorem ab_atK_eq {β : Type} (d : ab_V) : ∀ (l : List (Nat × ab_V)) (j : Nat) (k : ab_V → β), ab_atK d l j k = k (ab_at d l j)
  | [], j, k => rfl
  | (i, v) :: r, j, k => by
    simp only [ab_atK, ab_at]
    cases Nat.beq i j
    · exact ab_atK_eq d r j k
    · rfl
/-- an index that is one number, below n -/
def ab_ixK (env : ab_E) (i : ab_I) (n : Nat) (k : Nat → ab_A) : ab_A := ab_ivK env i (fun lo hi => bif ab_ie lo hi then (match lo with
  | .ofNat q => bif Nat.blt q n then k q else none
  | .negSucc _ => none) else none)
theorem ab_ixK_ok {env : ab_E} {i : ab_I} {n : Nat} {k : Nat → ab_A} {r : List ab_S} (h : ab_ixK env i n k = some r) {rho : List Int32} {x : Int32} (hR : ab_eR env rho) (hx : ab_evI rho i = some x) (hn : n < 2 ^ 31) : k x.toNatClampNeg = some r ∧ x.toNatClampNeg < n ∧ vp_in x n := by
  unfold ab_ixK at h
  rw [ab_ivK_eq] at h
  have hi := ab_iv_spec hR hx
  cases hc : ab_ie (ab_iv env i).1 (ab_iv env i).2
  · rw [hc] at h; cases h
  · rw [hc, cond_true] at h
    rw [ab_ie_iff] at hc
    split at h
    · rename_i q hq
      cases hb : Nat.blt q n
      · rw [hb] at h; cases h
      · rw [hb, cond_true] at h
        have hb2 : q < n := Nat.le_of_ble_eq_true hb
        have e1 : x.toInt = (q : Int) := by have : (ab_iv env i).1 = (q : Int) := hq; omega
        have e : x = nI q := by
          have := ab_nn32 x (by omega)
          rw [this, e1]; rfl
        have e3 : x.toNatClampNeg = q := by rw [e]; exact nI_clamp (by omega)
        rw [e3]
        exact ⟨h, hb2, by rw [e]; exact vp_in_nI hb2 hn⟩
    · cases h
def op_gf (ci k np : Nat) : ab_P := fun _ env nl aw cl sl lv st => match st with
  | .inr (.inr (2, j)) :: st => (match ab_get aw j with
    | some (.inl (cj, fs)) => bif Nat.beq ci cj then (match ab_get fs k with
      | some v => some [((env, nl, aw, cl, sl), np, lv, v :: st)]
      | none => none) else none
    | _ => none)
  | _ => none
def op_pf (ty : FieldType) (ci k np : Nat) : ab_P := fun _ env nl aw cl sl lv st => match st with
  | v :: .inr (.inr (2, j)) :: st => bif ab_fit ty env v then (match ab_get aw j with
    | some (.inl (cj, fs)) => bif Nat.beq ci cj then (match ab_get fs k with
      | some _ => ab_setK fs k v (fun fs => ab_setK aw j (.inl (cj, fs)) (fun aw => some [((env, nl, aw, cl, sl), np, lv, st)]))
      | none => none) else none
    | _ => none) else none
  | _ => none
def op_ald (t np : Nat) : ab_P := fun _ env nl aw cl sl lv st => match st with
  | .inl i :: .inr (.inr (2, j)) :: st => (match ab_get aw j with
    | some (.inr (t', n, d, ov)) => bif Nat.beq t t' && Nat.ble n 100000 then ab_ixK env i n (fun q => ab_atK d ov q (fun v => some [((env, nl, aw, cl, sl), np, lv, v :: st)])) else none
    | _ => none)
  | _ => none
def op_ast (t np : Nat) : ab_P := fun _ env nl aw cl sl lv st => match st with
  | v :: .inl i :: .inr (.inr (2, j)) :: st => (match ab_get aw j with
    | some (.inr (t', n, d, ov)) => bif Nat.beq t t' && Nat.ble n 100000 && ab_fit (ab_ft t) env v then ab_ixK env i n (fun q => ab_putK d ov q v (fun ov => ab_setK aw j (.inr (t', n, d, ov)) (fun aw => some [((env, nl, aw, cl, sl), np, lv, st)]))) else none
    | _ => none)
  | _ => none
/-- aastore -/
def op_aast (ci np : Nat) : ab_P := fun _ env nl aw cl sl lv st => match st with
  | .inr (.inr (2, q)) :: .inl i :: .inr (.inr (2, j)) :: st => (match ab_get aw q with
    | some (.inl (cj, _)) => bif Nat.beq ci cj then (match ab_get aw j with
      | some (.inr (t', n, d, ov)) => bif Nat.beq (ci + 4) t' && Nat.ble n 100000 then ab_ixK env i n (fun x => ab_putK d ov x (.inr (.inr (2, q))) (fun ov => ab_setK aw j (.inr (t', n, d, ov)) (fun aw => some [((env, nl, aw, cl, sl), np, lv, st)]))) else none
      | _ => none) else none
    | _ => none)
  | _ => none
/-- aaload: each place that the index can be -/
def ab_fkK (i : ab_I) (d : ab_V) (ov : List (Nat × ab_V)) (env : ab_E) (nl : Nat) (aw : List ab_C) (cl sl np : Nat) (lv : List (Nat × ab_V)) (st : List ab_V) : Nat → (List ab_S → ab_A) → ab_A
  | 0, k => k []
  | q + 1, k => ab_rfK env i q q (fun o => match o with
    | none => ab_fkK i d ov env nl aw cl sl np lv st q k
    | some env' => ab_atK d ov q (fun v => ab_fkK i d ov env nl aw cl sl np lv st q (fun L => k (((env', nl, aw, cl, sl), np, lv, v :: st) :: L))))
def op_aald (ci np : Nat) : ab_P := fun _ env nl aw cl sl lv st => match st with
  | .inl i :: .inr (.inr (2, j)) :: st => (match ab_get aw j with
    | some (.inr (t', n, d, ov)) => bif Nat.beq (ci + 4) t' && Nat.ble n 100000 then ab_ivK env i (fun lo hi => bif ab_le 0 lo && ab_le (hi + 1) n then ab_fkK i d ov env nl aw cl sl np lv st n (fun L => some L) else none) else none
    | _ => none)
  | _ => none
def op_len (np : Nat) : ab_P := fun _ env nl aw cl sl lv st => match st with
  | .inr (.inr (2, j)) :: st => (match ab_get aw j with
    | some (.inr (_, n, _, _)) => some [((env, nl, aw, cl, sl), np, lv, .inl (none, (n : Int)) :: st)]
    | _ => none)
  | _ => none
def op_na (t : Nat) (d : ab_V) (mc ms np : Nat) : ab_P := fun _ env nl aw cl sl lv st => match st with
  | .inl i :: st => ab_ixK env i 100001 (fun q => bif Nat.ble (cl + 1) mc && Nat.ble (sl + q) ms then ab_lenK aw 0 (fun j => ab_appK aw (.inr (t, q, d, [])) (fun aw => ab_fn (cl + 1) (fun cl => ab_fn (sl + q) (fun sl => some [((env, nl, aw, cl, sl), np, lv, .inr (.inr (2, j)) :: st)])))) else none)
  | _ => none
def op_new (ci n : Nat) (fs : List ab_V) (mc ms np : Nat) : ab_P := fun _ env nl aw cl sl lv st =>
  bif Nat.ble (cl + 1) mc && Nat.ble (sl + n) ms then ab_lenK aw 0 (fun j => ab_appK aw (.inl (ci, fs)) (fun aw => ab_fn (cl + 1) (fun cl => ab_fn (sl + n) (fun sl => some [((env, nl, aw, cl, sl), np, lv, .inr (.inr (2, j)) :: st)])))) else none
/-- the script's length; its ints -/
def op_slen (np : Nat) : ab_P := fun _ env nl aw cl sl lv st => match st with
  | .inr (.inr (1, _)) :: st => some [((env, nl, aw, cl, sl), np, lv, .inl (some 6, 0) :: st)]
  | _ => none
def op_sld (np : Nat) : ab_P := fun _ env nl aw cl sl lv st => match st with
  | .inl i :: .inr (.inr (1, _)) :: st => ab_ixK env i 6 (fun q => ab_ivK env (some 6, 0) (fun lo _ => bif ab_le (q + 1) lo then some [((env, nl, aw, cl, sl), np, lv, .inl (some q, 0) :: st)] else none))
  | _ => none
/-- a text's fields, bytes; a table's length -/
def op_gval (np : Nat) : ab_P := fun _ env nl aw cl sl lv st => match st with
  | .inr (.inr (3, 0)) :: st => some [((env, nl, aw, cl, sl), np, lv, .inr (.inr (4, 0)) :: st)]
  | _ => none
def op_gcod (np : Nat) : ab_P := fun _ env nl aw cl sl lv st => match st with
  | .inr (.inr (3, 0)) :: st => some [((env, nl, aw, cl, sl), np, lv, .inl (none, 0) :: st)]
  | _ => none
def op_tlen (np : Nat) : ab_P := fun _ env nl aw cl sl lv st => match st with
  | .inr (.inr (4, 0)) :: st => some [((env, nl, aw, cl, sl), np, lv, .inl (none, 124) :: st)]
  | _ => none
def op_tb (np : Nat) : ab_P := fun _ env nl aw cl sl lv st => match st with
  | .inl i :: .inr (.inr (4, 0)) :: st => ab_ixK env i 124 (fun q => match ab_get ab_byt q with
    | some x => ab_fi x.toInt (fun x => some [((env, nl, aw, cl, sl), np, lv, .inl (none, x) :: st)])
    | none => none)
  | _ => none
def op_hlen (np : Nat) : ab_P := fun _ env nl aw cl sl lv st => match st with
  | .inr (.inr (5, 0)) :: st => some [((env, nl, aw, cl, sl), np, lv, .inl (none, 3) :: st)]
  | _ => none
/-- tableswitch: the targets in their order, the other one -/
def ab_twK (a : ab_I) (env : ab_E) (nl : Nat) (aw : List ab_C) (cl sl : Nat) (lv : List (Nat × ab_V)) (st : List ab_V) : List Nat → Int → (List ab_S → ab_A) → ab_A
  | [], _, k => k []
  | t :: r, q, k => ab_rfK env a q q (fun o => match o with
    | none => ab_fi (q + 1) (fun q => ab_twK a env nl aw cl sl lv st r q k)
    | some env' => ab_fi (q + 1) (fun q => ab_twK a env nl aw cl sl lv st r q (fun L => k (((env', nl, aw, cl, sl), t, lv, st) :: L))))
def op_tsw (lo hi : Int) (tg : List Nat) (dt : Nat) : ab_P := fun _ env nl aw cl sl lv st => match st with
  | .inl a :: st => ab_twK a env nl aw cl sl lv st tg lo (fun L => ab_rfK env a (-2147483648) (lo - 1) (fun o1 => ab_rfK env a (hi + 1) 2147483647 (fun o2 => ab_o1 o1 (fun r1 => ab_o1 o2 (fun r2 => some (ab_frk nl aw cl sl lv st r1 dt (ab_frk nl aw cl sl lv st r2 dt L)))))))
  | _ => none
section
variable {p : Program} {l : Launch} {e : Env} {R : Room} {s : State} {m : MethodId} {args : Array Value} {below : List Frame} {meth : Method} {c : Code} {Q : State → Prop} {cc : ByteArray} {own : String} {nL : Nat} {X : ab_X} {D : va_G} {z0 : ab_Z} {cal : ab_K} {pc : Nat}
theorem ab_cxE (C : ab_cx p R s m args c cc own nL X D) : ab_EX X D s s.heap := C.2.2.2.2.2.1
theorem so_gf_k (C : ab_cx p R s m args c cc own nL X D) {ci k np : Nat} (hrow : ∀ (ws : va_W) (H : Heap) (locs : List Loc) (cl sl : Nat) (ls : Array Slot) (rest : List Value) (a j : Nat) (fs : List Value) (v : Value), ws[j]? = some (a, .inr (ci, fs)) → va_P D vwCl ws H → fs[k]? = some v → W p l e R s m args below meth c H locs cl sl Q (F0 m np ls (v :: rest)) → W p l e R s m args below meth c H locs cl sl Q (F0 m pc ls (.ref a :: rest))) : ab_so p l e R s m args below meth c Q nL X D z0 cal pc (op_gf ci k np) := by
  intro env nl aw cl sl lv st r hr hk z ws H locs ls cst hR hl hs
  dsimp only at hR hl hs
  unfold op_gf at hr
  split at hr
  · rename_i j st'
    rw [ab_get_eq] at hr
    split at hr
    · rename_i cj fs hj
      cases hb : Nat.beq ci cj
      · rw [hb] at hr; cases hr
      · rw [hb, cond_true, ab_get_eq] at hr
        cases Nat.eq_of_beq_eq_true hb
        split at hr
        · rename_i v hv
          cases hr
          obtain ⟨x, r, rfl, h1, h2⟩ := ab_st1 hs
          obtain ⟨a, rfl, h3⟩ := ab_ref2 h1
          obtain ⟨a', e', c1, c2, vs, rfl, c4⟩ := hR.cell hj
          cases Option.some.inj (c2.symm.trans h3)
          obtain ⟨y, y1, y2⟩ := ab_map_get c4 hv
          refine hrow ws H locs cl sl ls r a j vs y c1 hR.2.2.2.2.1 y1 ?_
          exact hk _ List.mem_cons_self z ws H locs ls (y :: r) hR hl (by simp only [List.map_cons, y2]; rw [h2])
        · cases hr
    · cases hr
  · cases hr
theorem so_getf (C : ab_cx p R s m args c cc own nL X D) {ci k i N : Nat} {cn : String} {T : u_T} (hc : vwCl[ci]? = some (cn, T, N)) (hin : ∀ w ∈ u_ws cn T N, w ∈ ab_TG) (hkN : k < N) (hw : Cond.fieldLink own i (T k).1 (T k).2.1 (T k).2.2.1 ∈ ab_TG) (d : decode cc pc = .ok (.getfield i, 3)) : ab_so p l e R s m args below meth c Q nL X D z0 cal pc (op_gf ci k (pc + 3)) :=
  so_gf_k C (fun ws H locs cl sl ls rest a j fs v h1 h2 h3 kk => va_get (cl := vwCl) (D := D) C.1 C.2.1 C.2.2.2.2.1 hin C.2.2.2.1 (ab_cxE C).2.1 h2 j h1 hc k hkN (C.2.2.2.2.1 _ hw) (fun _ h => h) h3 d kk)
theorem so_getfN (C : ab_cx p R s m args c cc own nL X D) {ci k i N : Nat} {cn : String} {T : u_T} (hc : vwCl[ci]? = some (cn, T, N)) (hin : ∀ w ∈ u_ws cn T N, w ∈ ab_TG) (hkN : k < N) {host : String} (hw : Cond.fieldLinkNest own i (T k).1 (T k).2.1 (T k).2.2.1 host ∈ lw_tbl) (d : decode cc pc = .ok (.getfield i, 3)) : ab_so p l e R s m args below meth c Q nL X D z0 cal pc (op_gf ci k (pc + 3)) :=
  so_gf_k C (fun ws H locs cl sl ls rest a j fs v h1 h2 h3 kk => va_getN (cl := vwCl) (D := D) C.1 C.2.1 C.2.2.2.2.1 hin C.2.2.2.1 (ab_cxE C).2.1 h2 j h1 hc k hkN (va_Nw.use rfl ((ab_cxE C).2.2.1 _ hw rfl)) (fun _ h => h) h3 d kk)
theorem so_pf_k (C : ab_cx p R s m args c cc own nL X D) {ty : FieldType} {ci k np : Nat} (hrow : ∀ (ws : va_W) (H : Heap) (locs : List Loc) (cl sl : Nat) (ls : Array Slot) (rest : List Value) (a j : Nat) (fs : List Value) (v : Value), ws[j]? = some (a, .inr (ci, fs)) → va_P D vwCl ws H → va_D (ab_Ar X) ws → va_S (ab_Ar X) s.heap H locs → narrow ty v = v → fits ty v = true → k < fs.length → (∀ (H1 : Heap) (locs1 : List Loc), va_P D vwCl (ws.set j (a, .inr (ci, fs.set k v))) H1 → va_D (ab_Ar X) (ws.set j (a, .inr (ci, fs.set k v))) → va_S (ab_Ar X) s.heap H1 locs1 → W p l e R s m args below meth c H1 locs1 cl sl Q (F0 m np ls rest)) → W p l e R s m args below meth c H locs cl sl Q (F0 m pc ls (v :: .ref a :: rest))) : ab_so p l e R s m args below meth c Q nL X D z0 cal pc (op_pf ty ci k np) := by
  intro env nl aw cl sl lv st r hr hk z ws H locs ls cst hR hl hs
  dsimp only at hR hl hs
  unfold op_pf at hr
  split at hr
  · rename_i v j st'
    cases hf : ab_fit ty env v
    · rw [hf] at hr; cases hr
    · rw [hf, cond_true, ab_get_eq] at hr
      split at hr
      · rename_i cj fs hj
        cases hb : Nat.beq ci cj
        · rw [hb] at hr; cases hr
        · rw [hb, cond_true, ab_get_eq] at hr
          cases Nat.eq_of_beq_eq_true hb
          split at hr
          · rename_i v0 hv
            simp only [ab_setK_eq, Option.some.injEq] at hr
            subst hr
            obtain ⟨x, r0, rfl, h1, h2⟩ := ab_st1 hs
            obtain ⟨x2, r, rfl, h4, h5⟩ := ab_st1 h2
            obtain ⟨a, rfl, h3⟩ := ab_ref2 h4
            obtain ⟨a', e', c1, c2, vs, rfl, c4⟩ := hR.cell hj
            cases Option.some.inj (c2.symm.trans h3)
            obtain ⟨n1, n2⟩ := ab_fit_ok hR.1 hf h1
            refine hrow ws H locs cl sl ls r a j vs x c1 hR.2.2.2.2.1 hR.2.2.2.2.2.1 hR.2.2.2.2.2.2.1 n1 n2 (by rw [← ab_map_len c4]; exact (List.getElem?_eq_some_iff.mp hv).1) (fun H1 locs1 g1 g2 g3 => ?_)
            exact hk _ List.mem_cons_self z _ H1 locs1 ls r (hR.set c1 (c := .inl (ci, fs.set k v)) ⟨vs.set k x, rfl, ab_map_set c4 h1⟩ g1 g2 g3) hl h5
          · cases hr
      · cases hr
  · cases hr
theorem so_putf (C : ab_cx p R s m args c cc own nL X D) {ci k i N : Nat} {cn : String} {T : u_T} (hc : vwCl[ci]? = some (cn, T, N)) (hin : ∀ w ∈ u_ws cn T N, w ∈ ab_TG) (hkN : k < N) {ty0 : Nat → FieldType} (hty : ∀ k, k < N → parseFieldDescriptor (T k).2.2.1 = some (ty0 k)) (hnm : ∀ a, a < N → ∀ b, b < N → a ≠ b → (T a).2.1 ≠ (T b).2.1) (hw : Cond.fieldLink own i (T k).1 (T k).2.1 (T k).2.2.1 ∈ ab_TG) (hfin : (T k).2.2.2 = false) (d : decode cc pc = .ok (.putfield i, 3)) : ab_so p l e R s m args below meth c Q nL X D z0 cal pc (op_pf (ty0 k) ci k (pc + 3)) :=
  so_pf_k C (fun ws H locs cl sl ls rest a j fs v h1 h2 h3 h4 h5 h6 h7 kk => va_put (cl := vwCl) (D := D) C.1 C.2.1 C.2.2.2.2.1 hin ty0 hty hnm C.2.2.2.1 (ab_cxE C).2.1 h2 h3 h4 j h1 hc k hkN (C.2.2.2.2.1 _ hw) (fun _ h => h) hfin (hty k hkN) h5 h6 h7 d kk)
theorem so_putfF (C : ab_cx p R s m args c cc own nL X D) {ci k i N : Nat} {cn : String} {T : u_T} (hc : vwCl[ci]? = some (cn, T, N)) (hin : ∀ w ∈ u_ws cn T N, w ∈ ab_TG) (hkN : k < N) {ty0 : Nat → FieldType} (hty : ∀ k, k < N → parseFieldDescriptor (T k).2.2.1 = some (ty0 k)) (hnm : ∀ a, a < N → ∀ b, b < N → a ≠ b → (T a).2.1 ≠ (T b).2.1) (hw : Cond.fieldLink own i (T k).1 (T k).2.1 (T k).2.2.1 ∈ ab_TG) (hfin : (T k).2.2.2 = true) (hini : meth.name = "<init>") (hdecl : (T k).1 = own) (d : decode cc pc = .ok (.putfield i, 3)) : ab_so p l e R s m args below meth c Q nL X D z0 cal pc (op_pf (ty0 k) ci k (pc + 3)) :=
  so_pf_k C (fun ws H locs cl sl ls rest a j fs v h1 h2 h3 h4 h5 h6 h7 kk => va_putF (cl := vwCl) (D := D) C.1 C.2.1 C.2.2.2.2.1 hin ty0 hty hnm C.2.2.2.1 (ab_cxE C).2.1 h2 h3 h4 j h1 hc k hkN (C.2.2.2.2.1 _ hw) (fun _ h => h) hfin hini hdecl (hty k hkN) h5 h6 h7 d kk)
theorem so_putfN (C : ab_cx p R s m args c cc own nL X D) {ci k i N : Nat} {cn : String} {T : u_T} (hc : vwCl[ci]? = some (cn, T, N)) (hin : ∀ w ∈ u_ws cn T N, w ∈ ab_TG) (hkN : k < N) {ty0 : Nat → FieldType} (hty : ∀ k, k < N → parseFieldDescriptor (T k).2.2.1 = some (ty0 k)) (hnm : ∀ a, a < N → ∀ b, b < N → a ≠ b → (T a).2.1 ≠ (T b).2.1) {host : String} (hw : Cond.fieldLinkNest own i (T k).1 (T k).2.1 (T k).2.2.1 host ∈ lw_tbl) (hfin : (T k).2.2.2 = false) (d : decode cc pc = .ok (.putfield i, 3)) : ab_so p l e R s m args below meth c Q nL X D z0 cal pc (op_pf (ty0 k) ci k (pc + 3)) :=
  so_pf_k C (fun ws H locs cl sl ls rest a j fs v h1 h2 h3 h4 h5 h6 h7 kk => va_putN (cl := vwCl) (D := D) C.1 C.2.1 C.2.2.2.2.1 hin ty0 hty hnm C.2.2.2.1 (ab_cxE C).2.1 h2 h3 h4 j h1 hc k hkN (va_Nw.use rfl ((ab_cxE C).2.2.1 _ hw rfl)) (fun _ h => h) hfin (hty k hkN) h5 h6 h7 d kk)
theorem so_iald (C : ab_cx p R s m args c cc own nL X D) (d : decode cc pc = .ok (.iaload, 1)) : ab_so p l e R s m args below meth c Q nL X D z0 cal pc (op_ald 0 (pc + 1)) := by
  intro env nl aw cl sl lv st r hr hk z ws H locs ls cst hR hl hs
  dsimp only at hR hl hs
  unfold op_ald at hr
  split at hr
  · rename_i i j st'
    rw [ab_get_eq] at hr
    split at hr
    · rename_i t' n dv ov hj
      cases hb : (Nat.beq 0 t' && Nat.ble n 100000)
      · rw [hb] at hr; cases hr
      · rw [hb, cond_true] at hr
        rw [Bool.and_eq_true] at hb
        have hn : n < 2 ^ 31 := Nat.lt_of_le_of_lt (Nat.le_of_ble_eq_true hb.2) (by decide)
        have ht := Nat.eq_of_beq_eq_true hb.1
        subst ht
        obtain ⟨x, r0, rfl, h1, h2⟩ := ab_st1 hs
        obtain ⟨y, rfl, h3⟩ := ab_evi h1
        obtain ⟨x2, r1, rfl, h4, h5⟩ := ab_st1 h2
        obtain ⟨a, rfl, h6⟩ := ab_ref2 h4
        obtain ⟨a', e', c1, c2, cA, xx, rfl, ⟨f, rfl⟩, c5, c6⟩ := hR.cell hj
        cases Option.some.inj (c2.symm.trans h6)
        obtain ⟨k1, k2, k3⟩ := ab_ixK_ok hr hR.1 h3 hn
        rw [ab_atK_eq] at k1
        cases k1
        refine va_iald (cl := vwCl) (D := D) (tys := [(cA, .int)]) C.1 C.2.1 ((ab_cxE C).Kt c5) hR.2.2.2.2.1 j 0 c1 rfl k3 d ?_
        have c7 := c6 _ k2
        exact hk _ List.mem_cons_self z ws H locs ls (.int (f y.toNatClampNeg) :: r1) hR hl (by simp only [List.map_cons]; rw [h5]; exact congrArg (· :: _) c7)
    · cases hr
  · cases hr
theorem so_bald (C : ab_cx p R s m args c cc own nL X D) (d : decode cc pc = .ok (.baload, 1)) : ab_so p l e R s m args below meth c Q nL X D z0 cal pc (op_ald 2 (pc + 1)) := by
  intro env nl aw cl sl lv st r hr hk z ws H locs ls cst hR hl hs
  dsimp only at hR hl hs
  unfold op_ald at hr
  split at hr
  · rename_i i j st'
    rw [ab_get_eq] at hr
    split at hr
    · rename_i t' n dv ov hj
      cases hb : (Nat.beq 2 t' && Nat.ble n 100000)
      · rw [hb] at hr; cases hr
      · rw [hb, cond_true] at hr
        rw [Bool.and_eq_true] at hb
        have hn : n < 2 ^ 31 := Nat.lt_of_le_of_lt (Nat.le_of_ble_eq_true hb.2) (by decide)
        have ht := Nat.eq_of_beq_eq_true hb.1
        subst ht
        obtain ⟨x, r0, rfl, h1, h2⟩ := ab_st1 hs
        obtain ⟨y, rfl, h3⟩ := ab_evi h1
        obtain ⟨x2, r1, rfl, h4, h5⟩ := ab_st1 h2
        obtain ⟨a, rfl, h6⟩ := ab_ref2 h4
        obtain ⟨a', e', c1, c2, cA, xx, rfl, ⟨f, rfl⟩, c5, c6⟩ := hR.cell hj
        cases Option.some.inj (c2.symm.trans h6)
        obtain ⟨k1, k2, k3⟩ := ab_ixK_ok hr hR.1 h3 hn
        rw [ab_atK_eq] at k1
        cases k1
        refine va_bald (cl := vwCl) (D := D) (tys := [(cA, .byte)]) C.1 C.2.1 ((ab_cxE C).Kt c5) hR.2.2.2.2.1 j 0 c1 rfl k3 d ?_
        have c7 := c6 _ k2
        exact hk _ List.mem_cons_self z ws H locs ls (.int (f y.toNatClampNeg) :: r1) hR hl (by simp only [List.map_cons]; rw [h5]; exact congrArg (· :: _) c7)
    · cases hr
  · cases hr
theorem so_zald (C : ab_cx p R s m args c cc own nL X D) (d : decode cc pc = .ok (.baload, 1)) : ab_so p l e R s m args below meth c Q nL X D z0 cal pc (op_ald 3 (pc + 1)) := by
  intro env nl aw cl sl lv st r hr hk z ws H locs ls cst hR hl hs
  dsimp only at hR hl hs
  unfold op_ald at hr
  split at hr
  · rename_i i j st'
    rw [ab_get_eq] at hr
    split at hr
    · rename_i t' n dv ov hj
      cases hb : (Nat.beq 3 t' && Nat.ble n 100000)
      · rw [hb] at hr; cases hr
      · rw [hb, cond_true] at hr
        rw [Bool.and_eq_true] at hb
        have hn : n < 2 ^ 31 := Nat.lt_of_le_of_lt (Nat.le_of_ble_eq_true hb.2) (by decide)
        have ht := Nat.eq_of_beq_eq_true hb.1
        subst ht
        obtain ⟨x, r0, rfl, h1, h2⟩ := ab_st1 hs
        obtain ⟨y, rfl, h3⟩ := ab_evi h1
        obtain ⟨x2, r1, rfl, h4, h5⟩ := ab_st1 h2
        obtain ⟨a, rfl, h6⟩ := ab_ref2 h4
        obtain ⟨a', e', c1, c2, cA, xx, rfl, ⟨f, rfl⟩, c5, c6⟩ := hR.cell hj
        cases Option.some.inj (c2.symm.trans h6)
        obtain ⟨k1, k2, k3⟩ := ab_ixK_ok hr hR.1 h3 hn
        rw [ab_atK_eq] at k1
        cases k1
        refine va_zald (cl := vwCl) (D := D) (tys := [(cA, .boolean)]) C.1 C.2.1 ((ab_cxE C).Kt c5) hR.2.2.2.2.1 j 0 c1 rfl k3 d ?_
        have c7 := c6 _ k2
        exact hk _ List.mem_cons_self z ws H locs ls (.int (f y.toNatClampNeg) :: r1) hR hl (by simp only [List.map_cons]; rw [h5]; exact congrArg (· :: _) c7)
    · cases hr
  · cases hr
theorem so_lald (C : ab_cx p R s m args c cc own nL X D) (d : decode cc pc = .ok (.laload, 1)) : ab_so p l e R s m args below meth c Q nL X D z0 cal pc (op_ald 1 (pc + 1)) := by
  intro env nl aw cl sl lv st r hr hk z ws H locs ls cst hR hl hs
  dsimp only at hR hl hs
  unfold op_ald at hr
  split at hr
  · rename_i i j st'
    rw [ab_get_eq] at hr
    split at hr
    · rename_i t' n dv ov hj
      cases hb : (Nat.beq 1 t' && Nat.ble n 100000)
      · rw [hb] at hr; cases hr
      · rw [hb, cond_true] at hr
        rw [Bool.and_eq_true] at hb
        have hn : n < 2 ^ 31 := Nat.lt_of_le_of_lt (Nat.le_of_ble_eq_true hb.2) (by decide)
        have ht := Nat.eq_of_beq_eq_true hb.1
        subst ht
        obtain ⟨x, r0, rfl, h1, h2⟩ := ab_st1 hs
        obtain ⟨y, rfl, h3⟩ := ab_evi h1
        obtain ⟨x2, r1, rfl, h4, h5⟩ := ab_st1 h2
        obtain ⟨a, rfl, h6⟩ := ab_ref2 h4
        obtain ⟨a', e', c1, c2, cA, xx, rfl, ⟨f, rfl⟩, c5, c6⟩ := hR.cell hj
        cases Option.some.inj (c2.symm.trans h6)
        obtain ⟨k1, k2, k3⟩ := ab_ixK_ok hr hR.1 h3 hn
        rw [ab_atK_eq] at k1
        cases k1
        refine va_lald (cl := vwCl) (D := D) (tys := [(cA, .long)]) C.1 C.2.1 ((ab_cxE C).Kt c5) hR.2.2.2.2.1 j 0 c1 rfl k3 d ?_
        have c7 := c6 _ k2
        exact hk _ List.mem_cons_self z ws H locs ls (.long (f y.toNatClampNeg) :: r1) hR hl (by simp only [List.map_cons]; rw [h5]; exact congrArg (· :: _) c7)
    · cases hr
  · cases hr
theorem so_iast (C : ab_cx p R s m args c cc own nL X D) (d : decode cc pc = .ok (.iastore, 1)) : ab_so p l e R s m args below meth c Q nL X D z0 cal pc (op_ast 0 (pc + 1)) := by
  intro env nl aw cl sl lv st r hr hk z ws H locs ls cst hR hl hs
  dsimp only at hR hl hs
  unfold op_ast at hr
  split at hr
  · rename_i v i j st'
    rw [ab_get_eq] at hr
    split at hr
    · rename_i t' n dv ov hj
      cases hb : (Nat.beq 0 t' && Nat.ble n 100000 && ab_fit (ab_ft 0) env v)
      · rw [hb] at hr; cases hr
      · rw [hb, cond_true] at hr
        rw [Bool.and_eq_true, Bool.and_eq_true] at hb
        obtain ⟨⟨hb1, hb2⟩, hb3⟩ := hb
        have hn : n < 2 ^ 31 := Nat.lt_of_le_of_lt (Nat.le_of_ble_eq_true hb2) (by decide)
        have ht := Nat.eq_of_beq_eq_true hb1
        subst ht
        obtain ⟨x, r0, rfl, h1, h2⟩ := ab_st1 hs
        obtain ⟨x3, r1, rfl, h4, h5⟩ := ab_st1 h2
        obtain ⟨y, rfl, h3⟩ := ab_evi h4
        obtain ⟨x4, r2, rfl, h7, h8⟩ := ab_st1 h5
        obtain ⟨a, rfl, h6⟩ := ab_ref2 h7
        obtain ⟨n1, n2⟩ := ab_fit_ok hR.1 hb3 h1
        obtain ⟨a', e', c1, c2, cA, xx, rfl, ⟨f, rfl⟩, c5, c6⟩ := hR.cell hj
        cases Option.some.inj (c2.symm.trans h6)
        obtain ⟨k1, k2, k3⟩ := ab_ixK_ok hr hR.1 h3 hn
        simp only [ab_putK_eq, ab_setK_eq, Option.some.injEq] at k1
        subst k1
        obtain ⟨y2, rfl⟩ : ∃ y2, x = .int y2 := by
          cases x <;> first | exact ⟨_, rfl⟩ | (cases n2)
        refine va_iast (cl := vwCl) (D := D) (tys := [(cA, .int)]) C.1 C.2.1 ((ab_cxE C).Kt c5) hR.2.2.2.2.1 hR.2.2.2.2.2.1 hR.2.2.2.2.2.2.1 j 0 c1 rfl k3 d (fun H1 locs1 g1 g2 g3 => ?_)
        refine hk _ List.mem_cons_self z _ H1 locs1 ls r2 (hR.set c1 (c := .inr (0, n, dv, ab_put dv ov y.toNatClampNeg v)) ⟨cA, _, rfl, ⟨_, rfl⟩, c5, fun q hq => ?_⟩ g1 g2 g3) hl h8
        rw [ab_at_put]
        by_cases hqe : q = y.toNatClampNeg
        · rw [if_pos hqe, h1]
          simp only [ab_cv, upd, hqe, if_true]
        · rw [if_neg hqe, c6 q hq]
          simp only [ab_cv, upd, hqe, if_false]
    · cases hr
  · cases hr
theorem so_bast (C : ab_cx p R s m args c cc own nL X D) (d : decode cc pc = .ok (.bastore, 1)) : ab_so p l e R s m args below meth c Q nL X D z0 cal pc (op_ast 2 (pc + 1)) := by
  intro env nl aw cl sl lv st r hr hk z ws H locs ls cst hR hl hs
  dsimp only at hR hl hs
  unfold op_ast at hr
  split at hr
  · rename_i v i j st'
    rw [ab_get_eq] at hr
    split at hr
    · rename_i t' n dv ov hj
      cases hb : (Nat.beq 2 t' && Nat.ble n 100000 && ab_fit (ab_ft 2) env v)
      · rw [hb] at hr; cases hr
      · rw [hb, cond_true] at hr
        rw [Bool.and_eq_true, Bool.and_eq_true] at hb
        obtain ⟨⟨hb1, hb2⟩, hb3⟩ := hb
        have hn : n < 2 ^ 31 := Nat.lt_of_le_of_lt (Nat.le_of_ble_eq_true hb2) (by decide)
        have ht := Nat.eq_of_beq_eq_true hb1
        subst ht
        obtain ⟨x, r0, rfl, h1, h2⟩ := ab_st1 hs
        obtain ⟨x3, r1, rfl, h4, h5⟩ := ab_st1 h2
        obtain ⟨y, rfl, h3⟩ := ab_evi h4
        obtain ⟨x4, r2, rfl, h7, h8⟩ := ab_st1 h5
        obtain ⟨a, rfl, h6⟩ := ab_ref2 h7
        obtain ⟨n1, n2⟩ := ab_fit_ok hR.1 hb3 h1
        obtain ⟨a', e', c1, c2, cA, xx, rfl, ⟨f, rfl⟩, c5, c6⟩ := hR.cell hj
        cases Option.some.inj (c2.symm.trans h6)
        obtain ⟨k1, k2, k3⟩ := ab_ixK_ok hr hR.1 h3 hn
        simp only [ab_putK_eq, ab_setK_eq, Option.some.injEq] at k1
        subst k1
        obtain ⟨y2, rfl⟩ : ∃ y2, x = .int y2 := by
          cases x <;> first | exact ⟨_, rfl⟩ | (cases n2)
        refine va_bast (cl := vwCl) (D := D) (tys := [(cA, .byte)]) C.1 C.2.1 ((ab_cxE C).Kt c5) hR.2.2.2.2.1 hR.2.2.2.2.2.1 hR.2.2.2.2.2.2.1 j 0 c1 rfl k3 d (fun H1 locs1 g1 g2 g3 => ?_)
        refine hk _ List.mem_cons_self z _ H1 locs1 ls r2 (hR.set c1 (c := .inr (2, n, dv, ab_put dv ov y.toNatClampNeg v)) ⟨cA, _, rfl, ⟨_, rfl⟩, c5, fun q hq => ?_⟩ g1 g2 g3) hl h8
        rw [ab_at_put]
        by_cases hqe : q = y.toNatClampNeg
        · rw [if_pos hqe, h1]
          simp only [ab_cv, upd, hqe, if_true]
          exact congrArg some (by have h9 : narrow (.byte) (.int y2) = .int y2 := n1; simp only [vp_nar, h9])
        · rw [if_neg hqe, c6 q hq]
          simp only [ab_cv, upd, hqe, if_false]
    · cases hr
  · cases hr
theorem so_zast (C : ab_cx p R s m args c cc own nL X D) (d : decode cc pc = .ok (.bastore, 1)) : ab_so p l e R s m args below meth c Q nL X D z0 cal pc (op_ast 3 (pc + 1)) := by
  intro env nl aw cl sl lv st r hr hk z ws H locs ls cst hR hl hs
  dsimp only at hR hl hs
  unfold op_ast at hr
  split at hr
  · rename_i v i j st'
    rw [ab_get_eq] at hr
    split at hr
    · rename_i t' n dv ov hj
      cases hb : (Nat.beq 3 t' && Nat.ble n 100000 && ab_fit (ab_ft 3) env v)
      · rw [hb] at hr; cases hr
      · rw [hb, cond_true] at hr
        rw [Bool.and_eq_true, Bool.and_eq_true] at hb
        obtain ⟨⟨hb1, hb2⟩, hb3⟩ := hb
        have hn : n < 2 ^ 31 := Nat.lt_of_le_of_lt (Nat.le_of_ble_eq_true hb2) (by decide)
        have ht := Nat.eq_of_beq_eq_true hb1
        subst ht
        obtain ⟨x, r0, rfl, h1, h2⟩ := ab_st1 hs
        obtain ⟨x3, r1, rfl, h4, h5⟩ := ab_st1 h2
        obtain ⟨y, rfl, h3⟩ := ab_evi h4
        obtain ⟨x4, r2, rfl, h7, h8⟩ := ab_st1 h5
        obtain ⟨a, rfl, h6⟩ := ab_ref2 h7
        obtain ⟨n1, n2⟩ := ab_fit_ok hR.1 hb3 h1
        obtain ⟨a', e', c1, c2, cA, xx, rfl, ⟨f, rfl⟩, c5, c6⟩ := hR.cell hj
        cases Option.some.inj (c2.symm.trans h6)
        obtain ⟨k1, k2, k3⟩ := ab_ixK_ok hr hR.1 h3 hn
        simp only [ab_putK_eq, ab_setK_eq, Option.some.injEq] at k1
        subst k1
        obtain ⟨y2, rfl⟩ : ∃ y2, x = .int y2 := by
          cases x <;> first | exact ⟨_, rfl⟩ | (cases n2)
        refine va_zast (cl := vwCl) (D := D) (tys := [(cA, .boolean)]) C.1 C.2.1 ((ab_cxE C).Kt c5) hR.2.2.2.2.1 hR.2.2.2.2.2.1 hR.2.2.2.2.2.2.1 j 0 c1 rfl k3 d (fun H1 locs1 g1 g2 g3 => ?_)
        refine hk _ List.mem_cons_self z _ H1 locs1 ls r2 (hR.set c1 (c := .inr (3, n, dv, ab_put dv ov y.toNatClampNeg v)) ⟨cA, _, rfl, ⟨_, rfl⟩, c5, fun q hq => ?_⟩ g1 g2 g3) hl h8
        rw [ab_at_put]
        by_cases hqe : q = y.toNatClampNeg
        · rw [if_pos hqe, h1]
          simp only [ab_cv, upd, hqe, if_true]
          exact congrArg some (by have h9 : narrow (.boolean) (.int y2) = .int y2 := n1; simp only [vp_nar, h9])
        · rw [if_neg hqe, c6 q hq]
          simp only [ab_cv, upd, hqe, if_false]
    · cases hr
  · cases hr
theorem so_last (C : ab_cx p R s m args c cc own nL X D) (d : decode cc pc = .ok (.lastore, 1)) : ab_so p l e R s m args below meth c Q nL X D z0 cal pc (op_ast 1 (pc + 1)) := by
  intro env nl aw cl sl lv st r hr hk z ws H locs ls cst hR hl hs
  dsimp only at hR hl hs
  unfold op_ast at hr
  split at hr
  · rename_i v i j st'
    rw [ab_get_eq] at hr
    split at hr
    · rename_i t' n dv ov hj
      cases hb : (Nat.beq 1 t' && Nat.ble n 100000 && ab_fit (ab_ft 1) env v)
      · rw [hb] at hr; cases hr
      · rw [hb, cond_true] at hr
        rw [Bool.and_eq_true, Bool.and_eq_true] at hb
        obtain ⟨⟨hb1, hb2⟩, hb3⟩ := hb
        have hn : n < 2 ^ 31 := Nat.lt_of_le_of_lt (Nat.le_of_ble_eq_true hb2) (by decide)
        have ht := Nat.eq_of_beq_eq_true hb1
        subst ht
        obtain ⟨x, r0, rfl, h1, h2⟩ := ab_st1 hs
        obtain ⟨x3, r1, rfl, h4, h5⟩ := ab_st1 h2
        obtain ⟨y, rfl, h3⟩ := ab_evi h4
        obtain ⟨x4, r2, rfl, h7, h8⟩ := ab_st1 h5
        obtain ⟨a, rfl, h6⟩ := ab_ref2 h7
        obtain ⟨n1, n2⟩ := ab_fit_ok hR.1 hb3 h1
        obtain ⟨a', e', c1, c2, cA, xx, rfl, ⟨f, rfl⟩, c5, c6⟩ := hR.cell hj
        cases Option.some.inj (c2.symm.trans h6)
        obtain ⟨k1, k2, k3⟩ := ab_ixK_ok hr hR.1 h3 hn
        simp only [ab_putK_eq, ab_setK_eq, Option.some.injEq] at k1
        subst k1
        obtain ⟨y2, rfl⟩ : ∃ y2, x = .long y2 := by
          cases x <;> first | exact ⟨_, rfl⟩ | (cases n2)
        refine va_last (cl := vwCl) (D := D) (tys := [(cA, .long)]) C.1 C.2.1 ((ab_cxE C).Kt c5) hR.2.2.2.2.1 hR.2.2.2.2.2.1 hR.2.2.2.2.2.2.1 j 0 c1 rfl k3 d (fun H1 locs1 g1 g2 g3 => ?_)
        refine hk _ List.mem_cons_self z _ H1 locs1 ls r2 (hR.set c1 (c := .inr (1, n, dv, ab_put dv ov y.toNatClampNeg v)) ⟨cA, _, rfl, ⟨_, rfl⟩, c5, fun q hq => ?_⟩ g1 g2 g3) hl h8
        rw [ab_at_put]
        by_cases hqe : q = y.toNatClampNeg
        · rw [if_pos hqe, h1]
          simp only [ab_cv, vp_updL, hqe, if_true]
        · rw [if_neg hqe, c6 q hq]
          simp only [ab_cv, vp_updL, hqe, if_false]
    · cases hr
  · cases hr
theorem so_aast (C : ab_cx p R s m args c cc own nL X D) {ci N : Nat} {cn : String} {T : u_T} (hc : vwCl[ci]? = some (cn, T, N)) (d : decode cc pc = .ok (.aastore, 1)) : ab_so p l e R s m args below meth c Q nL X D z0 cal pc (op_aast ci (pc + 1)) := by
  intro env nl aw cl sl lv st r hr hk z ws H locs ls cst hR hl hs
  dsimp only at hR hl hs
  unfold op_aast at hr
  split at hr
  · rename_i q0 i j st'
    rw [ab_get_eq] at hr
    split at hr
    · rename_i cj fs hq
      cases hb0 : Nat.beq ci cj
      · rw [hb0] at hr; cases hr
      · rw [hb0, cond_true, ab_get_eq] at hr
        cases Nat.eq_of_beq_eq_true hb0
        split at hr
        · rename_i t' n dv ov hj
          cases hb : (Nat.beq (ci + 4) t' && Nat.ble n 100000)
          · rw [hb] at hr; cases hr
          · rw [hb, cond_true] at hr
            rw [Bool.and_eq_true] at hb
            have hn : n < 2 ^ 31 := Nat.lt_of_le_of_lt (Nat.le_of_ble_eq_true hb.2) (by decide)
            have ht := Nat.eq_of_beq_eq_true hb.1
            subst ht
            obtain ⟨x, r0, rfl, h1, h2⟩ := ab_st1 hs
            obtain ⟨b, rfl, hb6⟩ := ab_ref2 h1
            obtain ⟨x3, r1, rfl, h4, h5⟩ := ab_st1 h2
            obtain ⟨y, rfl, h3⟩ := ab_evi h4
            obtain ⟨x4, r2, rfl, h7, h8⟩ := ab_st1 h5
            obtain ⟨a, rfl, h6⟩ := ab_ref2 h7
            obtain ⟨a', e', c1, c2, cA, xx, rfl, ⟨f, rfl⟩, c5, c6⟩ := hR.cell hj
            cases Option.some.inj (c2.symm.trans h6)
            obtain ⟨b', e'', p1, p2, vs, rfl, p4⟩ := hR.cell hq
            cases Option.some.inj (p2.symm.trans hb6)
            obtain ⟨k1, k2, k3⟩ := ab_ixK_ok hr hR.1 h3 hn
            simp only [ab_putK_eq, ab_setK_eq, Option.some.injEq] at k1
            subst k1
            have c5' : ArrOfT s cA (.object cn) ∧ va_RA s cA (.object cn) := by
              have e0 : ab_ft (ci + 4) = .object cn := by simp only [ab_ft, hc]
              rw [e0] at c5; exact c5
            refine va_astq (cl := vwCl) (D := D) (r := (cn, T, N)) (tys := [(cA, .object cn)]) C.1 C.2.1 ((ab_cxE C).Kt c5') hR.2.2.2.2.1 hR.2.2.2.2.2.1 hR.2.2.2.2.2.2.1 j 0 q0 ci c1 rfl p1 hc k3 d (fun H1 locs1 g1 g2 g3 => ?_)
            refine hk _ List.mem_cons_self z _ H1 locs1 ls r2 (hR.set c1 (c := .inr (ci + 4, n, dv, ab_put dv ov y.toNatClampNeg (.inr (.inr (2, q0))))) ⟨cA, _, rfl, ⟨_, rfl⟩, c5, fun q hqn => ?_⟩ g1 g2 g3) hl h8
            rw [ab_at_put]
            by_cases hqe : q = y.toNatClampNeg
            · rw [if_pos hqe, h1]
              simp only [ab_cv, va_up, hqe, if_true]; rfl
            · rw [if_neg hqe, c6 q hqn]
              simp only [ab_cv, va_up, hqe, if_false]
        · cases hr
    · cases hr
  · cases hr
theorem ab_fkK_ok {i : ab_I} {d : ab_V} {ov : List (Nat × ab_V)} {env : ab_E} {nl : Nat} {aw : List ab_C} {cl sl np : Nat} {lv : List (Nat × ab_V)} {st : List ab_V} : ∀ (n : Nat), ∃ L, (∀ k : List ab_S → ab_A, ab_fkK i d ov env nl aw cl sl np lv st n k = k L) ∧ ∀ (rho : List Int32) (x : Int32) (q : Nat), ab_eR env rho → ab_evI rho i = some x → x.toInt = (q : Int) → q < n → ∃ env', ab_eR env' rho ∧ ((env', nl, aw, cl, sl), np, lv, ab_at d ov q :: st) ∈ L
  | 0 => ⟨[], fun k => rfl, fun _ _ q _ _ _ h => absurd h (Nat.not_lt_zero q)⟩
  | n + 1 => by
    obtain ⟨L, h1, h2⟩ := ab_fkK_ok (i := i) (d := d) (ov := ov) (env := env) (nl := nl) (aw := aw) (cl := cl) (sl := sl) (np := np) (lv := lv) (st := st) n
    cases hc : ab_rf env i n n with
    | none =>
      refine ⟨L, fun k => by simp only [ab_fkK, ab_rfK_eq, hc, h1], fun rho x q hR hx e hq => ?_⟩
      by_cases hqn : q = n
      · subst hqn
        obtain ⟨e', g1, -⟩ := ab_rf_spec (lo := (q : Int)) (hi := (q : Int)) hR hx (by omega) (by omega)
        rw [hc] at g1; cases g1
      · exact h2 rho x q hR hx e (by omega)
    | some env' =>
      refine ⟨((env', nl, aw, cl, sl), np, lv, ab_at d ov n :: st) :: L, fun k => by simp only [ab_fkK, ab_rfK_eq, hc, ab_atK_eq, h1], fun rho x q hR hx e hq => ?_⟩
      by_cases hqn : q = n
      · subst hqn
        obtain ⟨e', g1, g2⟩ := ab_rf_spec (lo := (q : Int)) (hi := (q : Int)) hR hx (by omega) (by omega)
        rw [hc] at g1; cases g1
        exact ⟨_, g2, List.mem_cons_self⟩
      · obtain ⟨e', g1, g2⟩ := h2 rho x q hR hx e (by omega)
        exact ⟨e', g1, List.mem_cons_of_mem _ g2⟩
theorem so_aald (C : ab_cx p R s m args c cc own nL X D) {ci N : Nat} {cn : String} {T : u_T} (hc : vwCl[ci]? = some (cn, T, N)) (d : decode cc pc = .ok (.aaload, 1)) : ab_so p l e R s m args below meth c Q nL X D z0 cal pc (op_aald ci (pc + 1)) := by
  intro env nl aw cl sl lv st r hr hk z ws H locs ls cst hR hl hs
  dsimp only at hR hl hs
  unfold op_aald at hr
  split at hr
  · rename_i i j st'
    rw [ab_get_eq] at hr
    split at hr
    · rename_i t' n dv ov hj
      cases hb : (Nat.beq (ci + 4) t' && Nat.ble n 100000)
      · rw [hb] at hr; cases hr
      · rw [hb, cond_true, ab_ivK_eq] at hr
        rw [Bool.and_eq_true] at hb
        have hn : n < 2 ^ 31 := Nat.lt_of_le_of_lt (Nat.le_of_ble_eq_true hb.2) (by decide)
        have ht := Nat.eq_of_beq_eq_true hb.1
        subst ht
        cases hb2 : (ab_le 0 (ab_iv env i).1 && ab_le ((ab_iv env i).2 + 1) n)
        · rw [hb2] at hr; cases hr
        · rw [hb2, cond_true] at hr
          rw [Bool.and_eq_true, ab_le_iff, ab_le_iff] at hb2
          obtain ⟨L, f1, f2⟩ := ab_fkK_ok (i := i) (d := dv) (ov := ov) (env := env) (nl := nl) (aw := aw) (cl := cl) (sl := sl) (np := pc + 1) (lv := lv) (st := st') n
          rw [f1] at hr
          cases hr
          obtain ⟨x, r0, rfl, h1, h2⟩ := ab_st1 hs
          obtain ⟨y, rfl, h3⟩ := ab_evi h1
          obtain ⟨x2, r1, rfl, h4, h5⟩ := ab_st1 h2
          obtain ⟨a, rfl, h6⟩ := ab_ref2 h4
          obtain ⟨a', e', c1, c2, cA, xx, rfl, ⟨f, rfl⟩, c5, c6⟩ := hR.cell hj
          cases Option.some.inj (c2.symm.trans h6)
          have hi := ab_iv_spec hR.1 h3
          have e0 := ab_nn32 y (by omega)
          have e1 : y.toNatClampNeg = y.toInt.toNat := by conv => lhs; rw [e0]
                                                          exact nI_clamp (by omega)
          have k3 : vp_in y n := by rw [e0]; exact vp_in_nI (by omega) hn
          obtain ⟨env', m1, m2⟩ := f2 z.1 y y.toInt.toNat hR.1 h3 (by omega) (by omega)
          have c5' : ArrOfT s cA (.object cn) ∧ va_RA s cA (.object cn) := by
            have e0 : ab_ft (ci + 4) = .object cn := by simp only [ab_ft, hc]
            rw [e0] at c5; exact c5
          refine va_aldq (cl := vwCl) (D := D) (C := cn) (tys := [(cA, .object cn)]) C.1 C.2.1 ((ab_cxE C).Kt c5') hR.2.2.2.2.1 j 0 c1 rfl k3 d ?_
          rw [e1]
          have hlt : y.toInt.toNat < n := by omega
          have c7 := c6 y.toInt.toNat hlt
          exact hk _ m2 z ws H locs ls (va_rf (f y.toInt.toNat) :: r1) (hR.ref m1) hl (by simp only [List.map_cons]; rw [h5]; exact congrArg (· :: _) c7)
    · cases hr
  · cases hr
theorem so_len (C : ab_cx p R s m args c cc own nL X D) (d : decode cc pc = .ok (.arraylength, 1)) : ab_so p l e R s m args below meth c Q nL X D z0 cal pc (op_len (pc + 1)) := by
  intro env nl aw cl sl lv st r hr hk z ws H locs ls cst hR hl hs
  dsimp only at hR hl hs
  unfold op_len at hr
  split at hr
  · rename_i j st'
    rw [ab_get_eq] at hr
    split at hr
    · rename_i t' n dv ov hj
      cases hr
      obtain ⟨x, r0, rfl, h1, h2⟩ := ab_st1 hs
      obtain ⟨a, rfl, h6⟩ := ab_ref2 h1
      obtain ⟨a', e', c1, c2, cA, xx, rfl, c4, c5, c6⟩ := hR.cell hj
      cases Option.some.inj (c2.symm.trans h6)
      refine va_alen (cl := vwCl) (D := D) (tys := [(cA, ab_ft t')]) C.1 C.2.1 ((ab_cxE C).Kt c5) hR.2.2.2.2.1 j 0 c1 rfl rfl d ?_
      exact hk _ List.mem_cons_self z ws H locs ls (.int (Int32.ofNat n) :: r0) hR hl (by simp only [List.map_cons, ab_ev, ab_evI, Option.map_some]; rw [h2]; rfl)
    · cases hr
  · cases hr
theorem so_na_int (C : ab_cx p R s m args c cc own nL X D) {mc ms : Nat} (hmc : mc ≤ R.cells) (hms : ms ≤ R.slots) (hw : Cond.arrayClass .int ∈ ab_TG) (d : decode cc pc = .ok (.newarray .int, 2)) : ab_so p l e R s m args below meth c Q nL X D z0 cal pc (op_na 0 (.inl (none, 0)) mc ms (pc + 2)) := by
  intro env nl aw cl sl lv st r hr hk z ws H locs ls cst hR hl hs
  dsimp only at hR hl hs
  unfold op_na at hr
  split at hr
  · rename_i i st'
    obtain ⟨x, r0, rfl, h1, h2⟩ := ab_st1 hs
    obtain ⟨y, rfl, h3⟩ := ab_evi h1
    obtain ⟨k1, k2, k3⟩ := ab_ixK_ok hr hR.1 h3 (by decide)
    generalize hq : y.toNatClampNeg = q at k1 k2
    cases hb : (Nat.ble (cl + 1) mc && Nat.ble (sl + q) ms)
    · rw [hb] at k1; cases k1
    · rw [hb, cond_true] at k1
      rw [Bool.and_eq_true] at hb
      simp only [ab_lenK_eq, ab_appK_eq, ab_fn_eq, Nat.zero_add, Option.some.injEq] at k1
      subst k1
      have b1 := Nat.le_of_ble_eq_true hb.1
      have b2 := Nat.le_of_ble_eq_true hb.2
      refine va_newa (cl := vwCl) (D := D) (tys := []) (atype := .int) (a0 := (q, .inl (fun _ => 0))) C.1 C.2.1 (C.2.2.2.2.1 _ hw) rfl (ab_cxE C).2.1 hR.2.2.2.2.1 hR.2.2.2.2.2.1 hR.2.2.2.2.2.2.1 (ab_cxE C).up (fun cA => rfl) (fun h => k3 (Or.inl h)) hq ?_ (Nat.le_trans b1 hmc) (Nat.le_trans b2 hms) d (fun a cA H1 g0 g1 g2 g3 => ?_)
      · have hcb : componentBytes .int ≤ 8 := by decide +kernel
        exact Nat.le_trans (Nat.mul_le_mul (Nat.le_of_lt k2) hcb) (by decide)
      · refine hk _ List.mem_cons_self (z.1, z.2.1, z.2.2 ++ [a]) _ H1 _ ls (.ref a :: r0) (hR.push (c := .inr (0, q, .inl (none, 0), [])) ⟨cA, _, rfl, ⟨_, rfl⟩, g0.2 0 _ rfl, fun j hj => rfl⟩ g1 g2 g3) (hl.ext ab_ext_a) ?_
        simp only [List.map_cons, ab_ev, ab_evR]
        rw [ab_evs.ext ab_ext_a h2, List.getElem?_append_right (by rw [hR.num]; exact Nat.le_refl _), hR.num, Nat.sub_self]; rfl
  · cases hr
theorem so_na_long (C : ab_cx p R s m args c cc own nL X D) {mc ms : Nat} (hmc : mc ≤ R.cells) (hms : ms ≤ R.slots) (hw : Cond.arrayClass .long ∈ ab_TG) (d : decode cc pc = .ok (.newarray .long, 2)) : ab_so p l e R s m args below meth c Q nL X D z0 cal pc (op_na 1 (.inr (.inl (.inl (none, 0)))) mc ms (pc + 2)) := by
  intro env nl aw cl sl lv st r hr hk z ws H locs ls cst hR hl hs
  dsimp only at hR hl hs
  unfold op_na at hr
  split at hr
  · rename_i i st'
    obtain ⟨x, r0, rfl, h1, h2⟩ := ab_st1 hs
    obtain ⟨y, rfl, h3⟩ := ab_evi h1
    obtain ⟨k1, k2, k3⟩ := ab_ixK_ok hr hR.1 h3 (by decide)
    generalize hq : y.toNatClampNeg = q at k1 k2
    cases hb : (Nat.ble (cl + 1) mc && Nat.ble (sl + q) ms)
    · rw [hb] at k1; cases k1
    · rw [hb, cond_true] at k1
      rw [Bool.and_eq_true] at hb
      simp only [ab_lenK_eq, ab_appK_eq, ab_fn_eq, Nat.zero_add, Option.some.injEq] at k1
      subst k1
      have b1 := Nat.le_of_ble_eq_true hb.1
      have b2 := Nat.le_of_ble_eq_true hb.2
      refine va_newa (cl := vwCl) (D := D) (tys := []) (atype := .long) (a0 := (q, .inr (.inl (fun _ => 0)))) C.1 C.2.1 (C.2.2.2.2.1 _ hw) rfl (ab_cxE C).2.1 hR.2.2.2.2.1 hR.2.2.2.2.2.1 hR.2.2.2.2.2.2.1 (ab_cxE C).up (fun cA => rfl) (fun h => k3 (Or.inl h)) hq ?_ (Nat.le_trans b1 hmc) (Nat.le_trans b2 hms) d (fun a cA H1 g0 g1 g2 g3 => ?_)
      · have hcb : componentBytes .long ≤ 8 := by decide +kernel
        exact Nat.le_trans (Nat.mul_le_mul (Nat.le_of_lt k2) hcb) (by decide)
      · refine hk _ List.mem_cons_self (z.1, z.2.1, z.2.2 ++ [a]) _ H1 _ ls (.ref a :: r0) (hR.push (c := .inr (1, q, .inr (.inl (.inl (none, 0))), [])) ⟨cA, _, rfl, ⟨_, rfl⟩, g0.2 0 _ rfl, fun j hj => rfl⟩ g1 g2 g3) (hl.ext ab_ext_a) ?_
        simp only [List.map_cons, ab_ev, ab_evR]
        rw [ab_evs.ext ab_ext_a h2, List.getElem?_append_right (by rw [hR.num]; exact Nat.le_refl _), hR.num, Nat.sub_self]; rfl
  · cases hr
theorem so_na_byte (C : ab_cx p R s m args c cc own nL X D) {mc ms : Nat} (hmc : mc ≤ R.cells) (hms : ms ≤ R.slots) (hw : Cond.arrayClass .byte ∈ ab_TG) (d : decode cc pc = .ok (.newarray .byte, 2)) : ab_so p l e R s m args below meth c Q nL X D z0 cal pc (op_na 2 (.inl (none, 0)) mc ms (pc + 2)) := by
  intro env nl aw cl sl lv st r hr hk z ws H locs ls cst hR hl hs
  dsimp only at hR hl hs
  unfold op_na at hr
  split at hr
  · rename_i i st'
    obtain ⟨x, r0, rfl, h1, h2⟩ := ab_st1 hs
    obtain ⟨y, rfl, h3⟩ := ab_evi h1
    obtain ⟨k1, k2, k3⟩ := ab_ixK_ok hr hR.1 h3 (by decide)
    generalize hq : y.toNatClampNeg = q at k1 k2
    cases hb : (Nat.ble (cl + 1) mc && Nat.ble (sl + q) ms)
    · rw [hb] at k1; cases k1
    · rw [hb, cond_true] at k1
      rw [Bool.and_eq_true] at hb
      simp only [ab_lenK_eq, ab_appK_eq, ab_fn_eq, Nat.zero_add, Option.some.injEq] at k1
      subst k1
      have b1 := Nat.le_of_ble_eq_true hb.1
      have b2 := Nat.le_of_ble_eq_true hb.2
      refine va_newa (cl := vwCl) (D := D) (tys := []) (atype := .byte) (a0 := (q, .inl (fun _ => 0))) C.1 C.2.1 (C.2.2.2.2.1 _ hw) rfl (ab_cxE C).2.1 hR.2.2.2.2.1 hR.2.2.2.2.2.1 hR.2.2.2.2.2.2.1 (ab_cxE C).up (fun cA => rfl) (fun h => k3 (Or.inl h)) hq ?_ (Nat.le_trans b1 hmc) (Nat.le_trans b2 hms) d (fun a cA H1 g0 g1 g2 g3 => ?_)
      · have hcb : componentBytes .byte ≤ 8 := by decide +kernel
        exact Nat.le_trans (Nat.mul_le_mul (Nat.le_of_lt k2) hcb) (by decide)
      · refine hk _ List.mem_cons_self (z.1, z.2.1, z.2.2 ++ [a]) _ H1 _ ls (.ref a :: r0) (hR.push (c := .inr (2, q, .inl (none, 0), [])) ⟨cA, _, rfl, ⟨_, rfl⟩, g0.2 0 _ rfl, fun j hj => rfl⟩ g1 g2 g3) (hl.ext ab_ext_a) ?_
        simp only [List.map_cons, ab_ev, ab_evR]
        rw [ab_evs.ext ab_ext_a h2, List.getElem?_append_right (by rw [hR.num]; exact Nat.le_refl _), hR.num, Nat.sub_self]; rfl
  · cases hr
theorem so_na_bool (C : ab_cx p R s m args c cc own nL X D) {mc ms : Nat} (hmc : mc ≤ R.cells) (hms : ms ≤ R.slots) (hw : Cond.arrayClass .boolean ∈ ab_TG) (d : decode cc pc = .ok (.newarray .boolean, 2)) : ab_so p l e R s m args below meth c Q nL X D z0 cal pc (op_na 3 (.inl (none, 0)) mc ms (pc + 2)) := by
  intro env nl aw cl sl lv st r hr hk z ws H locs ls cst hR hl hs
  dsimp only at hR hl hs
  unfold op_na at hr
  split at hr
  · rename_i i st'
    obtain ⟨x, r0, rfl, h1, h2⟩ := ab_st1 hs
    obtain ⟨y, rfl, h3⟩ := ab_evi h1
    obtain ⟨k1, k2, k3⟩ := ab_ixK_ok hr hR.1 h3 (by decide)
    generalize hq : y.toNatClampNeg = q at k1 k2
    cases hb : (Nat.ble (cl + 1) mc && Nat.ble (sl + q) ms)
    · rw [hb] at k1; cases k1
    · rw [hb, cond_true] at k1
      rw [Bool.and_eq_true] at hb
      simp only [ab_lenK_eq, ab_appK_eq, ab_fn_eq, Nat.zero_add, Option.some.injEq] at k1
      subst k1
      have b1 := Nat.le_of_ble_eq_true hb.1
      have b2 := Nat.le_of_ble_eq_true hb.2
      refine va_newa (cl := vwCl) (D := D) (tys := []) (atype := .boolean) (a0 := (q, .inl (fun _ => 0))) C.1 C.2.1 (C.2.2.2.2.1 _ hw) rfl (ab_cxE C).2.1 hR.2.2.2.2.1 hR.2.2.2.2.2.1 hR.2.2.2.2.2.2.1 (ab_cxE C).up (fun cA => rfl) (fun h => k3 (Or.inl h)) hq ?_ (Nat.le_trans b1 hmc) (Nat.le_trans b2 hms) d (fun a cA H1 g0 g1 g2 g3 => ?_)
      · have hcb : componentBytes .boolean ≤ 8 := by decide +kernel
        exact Nat.le_trans (Nat.mul_le_mul (Nat.le_of_lt k2) hcb) (by decide)
      · refine hk _ List.mem_cons_self (z.1, z.2.1, z.2.2 ++ [a]) _ H1 _ ls (.ref a :: r0) (hR.push (c := .inr (3, q, .inl (none, 0), [])) ⟨cA, _, rfl, ⟨_, rfl⟩, g0.2 0 _ rfl, fun j hj => rfl⟩ g1 g2 g3) (hl.ext ab_ext_a) ?_
        simp only [List.map_cons, ab_ev, ab_evR]
        rw [ab_evs.ext ab_ext_a h2, List.getElem?_append_right (by rw [hR.num]; exact Nat.le_refl _), hR.num, Nat.sub_self]; rfl
  · cases hr
theorem so_anew (C : ab_cx p R s m args c cc own nL X D) {ci N i : Nat} {cn : String} {T : u_T} (hc : vwCl[ci]? = some (cn, T, N)) {mc ms : Nat} (hmc : mc ≤ R.cells) (hms : ms ≤ R.slots) (hw : Cond.classLink own i cn ∈ ab_TG) (ho : va_AO cn s) (d : decode cc pc = .ok (.anewarray i, 3)) : ab_so p l e R s m args below meth c Q nL X D z0 cal pc (op_na (ci + 4) (.inr (.inr (0, 0))) mc ms (pc + 3)) := by
  intro env nl aw cl sl lv st r hr hk z ws H locs ls cst hR hl hs
  dsimp only at hR hl hs
  unfold op_na at hr
  split at hr
  · rename_i i st'
    obtain ⟨x, r0, rfl, h1, h2⟩ := ab_st1 hs
    obtain ⟨y, rfl, h3⟩ := ab_evi h1
    obtain ⟨k1, k2, k3⟩ := ab_ixK_ok hr hR.1 h3 (by decide)
    generalize hq : y.toNatClampNeg = q at k1 k2
    cases hb : (Nat.ble (cl + 1) mc && Nat.ble (sl + q) ms)
    · rw [hb] at k1; cases k1
    · rw [hb, cond_true] at k1
      rw [Bool.and_eq_true] at hb
      simp only [ab_lenK_eq, ab_appK_eq, ab_fn_eq, Nat.zero_add, Option.some.injEq] at k1
      subst k1
      have b1 := Nat.le_of_ble_eq_true hb.1
      have b2 := Nat.le_of_ble_eq_true hb.2
      refine va_newq (cl := vwCl) (D := D) (tys := []) (C := cn) C.1 C.2.1 C.2.2.2.1 (C.2.2.2.2.1 _ hw) ho (ab_cxE C).2.1 hR.2.2.2.2.1 hR.2.2.2.2.2.1 hR.2.2.2.2.2.2.1 (ab_cxE C).up (fun h => k3 (Or.inl h)) hq ?_ (Nat.le_trans b1 hmc) (Nat.le_trans b2 hms) d (fun a cA H1 g0 g1 g2 g3 => ?_)
      · exact Nat.le_trans (Nat.mul_le_mul (Nat.le_of_lt k2) (Nat.le_refl 4)) (by decide)
      · have e0 : ab_ft (ci + 4) = .object cn := by simp only [ab_ft, hc]
        refine hk _ List.mem_cons_self (z.1, z.2.1, z.2.2 ++ [a]) _ H1 _ ls (.ref a :: r0) (hR.push (c := .inr (ci + 4, q, .inr (.inr (0, 0)), [])) ⟨cA, _, rfl, ⟨_, rfl⟩, by rw [e0]; exact g0.2 0 _ rfl, fun j hj => rfl⟩ g1 g2 g3) (hl.ext ab_ext_a) ?_
        simp only [List.map_cons, ab_ev, ab_evR]
        rw [ab_evs.ext ab_ext_a h2, List.getElem?_append_right (by rw [hR.num]; exact Nat.le_refl _), hR.num, Nat.sub_self]; rfl
  · cases hr
theorem so_new (C : ab_cx p R s m args c cc own nL X D) {ci N i : Nat} {cn : String} {T : u_T} (hc : vwCl[ci]? = some (cn, T, N)) (hin : ∀ w ∈ u_ws cn T N, w ∈ ab_TG) {ty0 : Nat → FieldType} (hty : ∀ k, k < N → parseFieldDescriptor (T k).2.2.1 = some (ty0 k)) {fs : List ab_V} {vs : List Value} (hfs : ∀ j, j < N → defaultValue (ty0 j) = vp_V vs j) (hev : ∀ (X : ab_X) (z : ab_Z), fs.map (ab_ev X z) = vs.map some) {mc ms : Nat} (hmc : mc ≤ R.cells) (hms : ms ≤ R.slots) (hw : Cond.classLink own i cn ∈ ab_TG) (hw2 : Cond.instantiable cn N ∈ ab_TG) (hw3 : Cond.initialized cn ∈ ab_TG) (d : decode cc pc = .ok (.new i, 3)) : ab_so p l e R s m args below meth c Q nL X D z0 cal pc (op_new ci N fs mc ms (pc + 3)) := by
  intro env nl aw cl sl lv st r hr hk z ws H locs ls cst hR hl hs
  dsimp only at hR hl hs
  unfold op_new at hr
  cases hb : (Nat.ble (cl + 1) mc && Nat.ble (sl + N) ms)
  · rw [hb] at hr; cases hr
  · rw [hb, cond_true] at hr
    rw [Bool.and_eq_true] at hb
    simp only [ab_lenK_eq, ab_appK_eq, ab_fn_eq, Nat.zero_add, Option.some.injEq] at hr
    subst hr
    have b1 := Nat.le_of_ble_eq_true hb.1
    have b2 := Nat.le_of_ble_eq_true hb.2
    refine va_new (cl := vwCl) (D := D) (ci := ci) (fs := vs) C.1 C.2.1 C.2.2.2.2.1 hin ty0 hty C.2.2.2.1 (C.2.2.2.2.1 _ hw) (C.2.2.2.2.1 _ hw2) (C.2.2.2.2.1 _ hw3) (ab_cxE C).2.1 hR.2.2.2.2.1 hR.2.2.2.2.2.1 hR.2.2.2.2.2.2.1 (ab_cxE C).up hc hfs (Nat.le_trans b1 hmc) (Nat.le_trans b2 hms) d (fun a H1 g1 g2 g3 => ?_)
    refine hk _ List.mem_cons_self (z.1, z.2.1, z.2.2 ++ [a]) _ H1 _ ls (.ref a :: cst) (hR.push (c := .inl (ci, fs)) ⟨vs, rfl, hev _ _⟩ g1 g2 g3) (hl.ext ab_ext_a) ?_
    simp only [List.map_cons, ab_ev, ab_evR]
    rw [ab_evs.ext ab_ext_a hs, List.getElem?_append_right (by rw [hR.num]; exact Nat.le_refl _), hR.num, Nat.sub_self]; rfl
theorem so_slen (C : ab_cx p R s m args c cc own nL X D) (d : decode cc pc = .ok (.arraylength, 1)) : ab_so p l e R s m args below meth c Q nL X D z0 cal pc (op_slen (pc + 1)) := by
  intro env nl aw cl sl lv st r hr hk z ws H locs ls cst hR hl hs
  dsimp only at hR hl hs
  unfold op_slen at hr
  split at hr
  · cases hr
    obtain ⟨x, r0, rfl, h1, h2⟩ := ab_st1 hs
    cases h1
    obtain ⟨q1, q2⟩ := (ab_cxE C).2.2.2.1
    refine va_slen (A := ab_Ar X) C.1 C.2.1 q1 (Nat.lt_of_lt_of_le q2 (ab_cxE C).1) (Nat.not_le.mpr q2) hR.2.2.2.2.2.2.1 d ?_
    exact hk _ List.mem_cons_self z ws H locs ls (.int (Int32.ofNat X.1.2.1) :: r0) hR hl (by simp only [List.map_cons, ab_ev, ab_evI, hR.2.2.2.2.2.2.2.1.2, Option.map_some]; rw [h2]; simp)
  · cases hr
theorem so_sld (C : ab_cx p R s m args c cc own nL X D) (hL : X.1.2.1 ≤ 6) (d : decode cc pc = .ok (.iaload, 1)) : ab_so p l e R s m args below meth c Q nL X D z0 cal pc (op_sld (pc + 1)) := by
  intro env nl aw cl sl lv st r hr hk z ws H locs ls cst hR hl hs
  dsimp only at hR hl hs
  unfold op_sld at hr
  split at hr
  · rename_i i j st'
    obtain ⟨x, r0, rfl, h1, h2⟩ := ab_st1 hs
    obtain ⟨y, rfl, h3⟩ := ab_evi h1
    obtain ⟨x2, r1, rfl, h4, h5⟩ := ab_st1 h2
    cases h4
    obtain ⟨k1, k2, k3⟩ := ab_ixK_ok hr hR.1 h3 (by decide)
    rw [ab_ivK_eq] at k1
    cases hb : ab_le ((y.toNatClampNeg : Int) + 1) (ab_iv env (some 6, 0)).1
    · rw [hb] at k1; cases k1
    · rw [hb, cond_true] at k1
      cases k1
      rw [ab_le_iff] at hb
      have h6 : ab_evI z.1 (some 6, 0) = some (Int32.ofNat X.1.2.1) := by simp only [ab_evI, hR.2.2.2.2.2.2.2.1.2, Option.map_some]; simp
      have hi := (ab_iv_spec hR.1 h6).1
      have e6 : (Int32.ofNat X.1.2.1).toInt = (X.1.2.1 : Int) := nI_toInt (by omega)
      have hin : vp_in y X.1.2.1 := vp_in_iff.mpr (by
        have h := vp_in_iff.mp k3
        have hcl : (y.toNatClampNeg : Int) = y.toInt := by
          have e0 := ab_nn32 y h.1
          have e1 : y.toNatClampNeg = y.toInt.toNat := by conv => lhs; rw [e0]
                                                          exact nI_clamp (by have := ab_i32 y; omega)
          rw [e1]; omega
        omega)
      obtain ⟨q1, q2⟩ := (ab_cxE C).2.2.2.1
      refine va_sld (A := ab_Ar X) C.1 C.2.1 q1 (Nat.lt_of_lt_of_le q2 (ab_cxE C).1) (Nat.not_le.mpr q2) hR.2.2.2.2.2.2.1 hin d ?_
      exact hk _ List.mem_cons_self z ws H locs ls (.int (X.2.1 y.toNatClampNeg) :: r1) hR hl (by simp only [List.map_cons, ab_ev, ab_evI, hR.2.2.2.2.2.2.2.1.1 _ k2, Option.map_some]; rw [h5]; simp)
  · cases hr
theorem so_gval (C : ab_cx p R s m args c cc own nL X D) {i : Nat} (hw : Cond.fieldLink own i "java/lang/String" "value" "[B" ∈ ab_TG) (d : decode cc pc = .ok (.getfield i, 3)) : ab_so p l e R s m args below meth c Q nL X D z0 cal pc (op_gval (pc + 3)) := by
  intro env nl aw cl sl lv st r hr hk z ws H locs ls cst hR hl hs
  dsimp only at hR hl hs
  unfold op_gval at hr
  split at hr
  · cases hr
    obtain ⟨x, r0, rfl, h1, h2⟩ := ab_st1 hs
    cases h1
    refine vk_getf (A := ab_Ar X) C.1 C.2.1 ((ab_cxE C).2.2.2.2.2.2.1.1 0 (by decide)).2.2.1 hR.2.2.2.2.2.2.1 C.2.2.2.1 (C.2.2.2.2.1 _ hw) (fun _ h => h) d ?_
    exact hk _ List.mem_cons_self z ws H locs ls (.ref _ :: r0) hR hl (by simp only [List.map_cons, ab_ev, ab_evR]; rw [h2])
  · cases hr
theorem so_gcod (C : ab_cx p R s m args c cc own nL X D) {i : Nat} (hw : Cond.fieldLink own i "java/lang/String" "coder" "B" ∈ ab_TG) (d : decode cc pc = .ok (.getfield i, 3)) : ab_so p l e R s m args below meth c Q nL X D z0 cal pc (op_gcod (pc + 3)) := by
  intro env nl aw cl sl lv st r hr hk z ws H locs ls cst hR hl hs
  dsimp only at hR hl hs
  unfold op_gcod at hr
  split at hr
  · cases hr
    obtain ⟨x, r0, rfl, h1, h2⟩ := ab_st1 hs
    cases h1
    refine vk_getf (A := ab_Ar X) C.1 C.2.1 ((ab_cxE C).2.2.2.2.2.2.1.1 0 (by decide)).2.1 hR.2.2.2.2.2.2.1 C.2.2.2.1 (C.2.2.2.2.1 _ hw) (fun _ h => h) d ?_
    exact hk _ List.mem_cons_self z ws H locs ls (.int 0 :: r0) hR hl (by simp only [List.map_cons, ab_ev, ab_evI, Option.map_some]; rw [h2]; rfl)
  · cases hr
theorem so_tlen (C : ab_cx p R s m args c cc own nL X D) (d : decode cc pc = .ok (.arraylength, 1)) : ab_so p l e R s m args below meth c Q nL X D z0 cal pc (op_tlen (pc + 1)) := by
  intro env nl aw cl sl lv st r hr hk z ws H locs ls cst hR hl hs
  dsimp only at hR hl hs
  unfold op_tlen at hr
  split at hr
  · cases hr
    obtain ⟨x, r0, rfl, h1, h2⟩ := ab_st1 hs
    cases h1
    refine va_tlen (A := ab_Ar X) C.1 C.2.1 ((ab_cxE C).2.2.2.2.2.2.1.1 0 (by decide)).2.2.2 hR.2.2.2.2.2.2.1 rfl d ?_
    exact hk _ List.mem_cons_self z ws H locs ls (.int (Int32.ofNat 124) :: r0) hR hl (by simp only [List.map_cons, ab_ev, ab_evI, Option.map_some]; rw [h2]; rfl)
  · cases hr
theorem so_hlen (C : ab_cx p R s m args c cc own nL X D) (d : decode cc pc = .ok (.arraylength, 1)) : ab_so p l e R s m args below meth c Q nL X D z0 cal pc (op_hlen (pc + 1)) := by
  intro env nl aw cl sl lv st r hr hk z ws H locs ls cst hR hl hs
  dsimp only at hR hl hs
  unfold op_hlen at hr
  split at hr
  · cases hr
    obtain ⟨x, r0, rfl, h1, h2⟩ := ab_st1 hs
    cases h1
    refine va_tlen (A := ab_Ar X) C.1 C.2.1 (ab_cxE C).2.2.2.2.2.2.2.2.2.2.1 hR.2.2.2.2.2.2.1 rfl d ?_
    exact hk _ List.mem_cons_self z ws H locs ls (.int (Int32.ofNat 3) :: r0) hR hl (by simp only [List.map_cons, ab_ev, ab_evI, Option.map_some]; rw [h2]; rfl)
  · cases hr
theorem so_tb (C : ab_cx p R s m args c cc own nL X D) (d : decode cc pc = .ok (.baload, 1)) : ab_so p l e R s m args below meth c Q nL X D z0 cal pc (op_tb (pc + 1)) := by
  intro env nl aw cl sl lv st r hr hk z ws H locs ls cst hR hl hs
  dsimp only at hR hl hs
  unfold op_tb at hr
  split at hr
  · rename_i i st'
    obtain ⟨x, r0, rfl, h1, h2⟩ := ab_st1 hs
    obtain ⟨y, rfl, h3⟩ := ab_evi h1
    obtain ⟨x2, r1, rfl, h4, h5⟩ := ab_st1 h2
    cases h4
    obtain ⟨k1, k2, k3⟩ := ab_ixK_ok hr hR.1 h3 (by decide)
    rw [ab_get_eq] at k1
    split at k1
    · rename_i x hx
      simp only [ab_fi_eq, Option.some.injEq] at k1
      subst k1
      refine va_tb (A := ab_Ar X) (v := .int x) C.1 C.2.1 ((ab_cxE C).2.2.2.2.2.2.1.1 0 (by decide)).2.2.2 hR.2.2.2.2.2.2.1 k3 ?_ d ?_
      · show Value.int (ab_byt.getD y.toNatClampNeg 0) = _
        rw [List.getD_eq_getElem?_getD, hx]; rfl
      · exact hk _ List.mem_cons_self z ws H locs ls (.int x :: r1) hR hl (by simp only [List.map_cons, ab_ev, ab_evI, Option.map_some, Int32.ofInt_toInt]; rw [h5])
    · cases k1
  · cases hr
theorem so_gCS (C : ab_cx p R s m args c cc own nL X D) {i : Nat} (hw : Cond.fieldLink own i "java/lang/String" "COMPACT_STRINGS" "Z" ∈ ab_TG) (d : decode cc pc = .ok (.getstatic i, 3)) : ab_so p l e R s m args below meth c Q nL X D z0 cal pc (op_push (.inl (none, 1)) (pc + 3)) := by
  intro env nl aw cl sl lv st r hr hk z ws H locs ls cst hR hl hs
  dsimp only at hR hl hs
  simp only [op_push, Option.some.injEq] at hr
  subst hr
  refine va_gets (A := ab_Ar X) C.1 C.2.1 (ab_cxE C).2.2.2.2.2.2.2.1 hR.2.2.2.2.2.2.1 C.2.2.2.1 (C.2.2.2.2.1 _ hw) (fun _ h => h) d ?_
  exact hk _ List.mem_cons_self z ws H locs ls (.int 1 :: cst) hR hl (by simp only [List.map_cons]; rw [hs]; rfl)
theorem so_gSF (C : ab_cx p R s m args c cc own nL X D) {i : Nat} (hw : Cond.fieldLink own i "jdk/internal/util/Preconditions" "SIOOBE_FORMATTER" "Ljava/util/function/BiFunction;" ∈ ab_TG) (d : decode cc pc = .ok (.getstatic i, 3)) : ab_so p l e R s m args below meth c Q nL X D z0 cal pc (op_push (.inr (.inr (6, 0))) (pc + 3)) := by
  intro env nl aw cl sl lv st r hr hk z ws H locs ls cst hR hl hs
  dsimp only at hR hl hs
  simp only [op_push, Option.some.injEq] at hr
  subst hr
  refine va_gets (A := ab_Ar X) C.1 C.2.1 (ab_cxE C).2.2.2.2.2.2.2.2.1 hR.2.2.2.2.2.2.1 C.2.2.2.1 (C.2.2.2.2.1 _ hw) (fun _ h => h) d ?_
  exact hk _ List.mem_cons_self z ws H locs ls (X.2.2.2.2.2 :: cst) hR hl (by simp only [List.map_cons]; rw [hs]; rfl)
theorem so_gHI (C : ab_cx p R s m args c cc own nL X D) {i : Nat} (hw : Cond.fieldLink own i "SundialTreaty$ValleyText" "HIGHEST" "[I" ∈ ab_TG) (d : decode cc pc = .ok (.getstatic i, 3)) : ab_so p l e R s m args below meth c Q nL X D z0 cal pc (op_push (.inr (.inr (5, 0))) (pc + 3)) := by
  intro env nl aw cl sl lv st r hr hk z ws H locs ls cst hR hl hs
  dsimp only at hR hl hs
  simp only [op_push, Option.some.injEq] at hr
  subst hr
  refine va_gets (A := ab_Ar X) C.1 C.2.1 (ab_cxE C).2.2.2.2.2.2.2.2.2.1 hR.2.2.2.2.2.2.1 C.2.2.2.1 (C.2.2.2.2.1 _ hw) (fun _ h => h) d ?_
  exact hk _ List.mem_cons_self z ws H locs ls (.ref (X.2.2.2.2.1 0) :: cst) hR hl (by simp only [List.map_cons]; rw [hs]; rfl)
theorem so_ldcS (C : ab_cx p R s m args c cc own nL X D) {i j : Nat} {tx : String} (hj : ab_str[j]? = some (own, i, tx)) (d : decode cc pc = .ok (.ldc i, 2)) : ab_so p l e R s m args below meth c Q nL X D z0 cal pc (op_push (.inr (.inr (3, j))) (pc + 2)) := by
  intro env nl aw cl sl lv st r hr hk z ws H locs ls cst hR hl hs
  dsimp only at hR hl hs
  simp only [op_push, Option.some.injEq] at hr
  subst hr
  refine va_ldcS C.1 C.2.1 C.2.2.2.1 ((ab_cxE C).2.2.2.2.2.1 j _ hj) d ?_
  exact hk _ List.mem_cons_self z ws H locs ls (.ref (X.2.2.1 j) :: cst) hR hl (by simp only [List.map_cons]; rw [hs]; rfl)
theorem ab_twK_ok {a : ab_I} {env : ab_E} {nl : Nat} {aw : List ab_C} {cl sl : Nat} {lv : List (Nat × ab_V)} {st : List ab_V} : ∀ (tg : List Nat) (lo : Int), ∃ L, (∀ k : List ab_S → ab_A, ab_twK a env nl aw cl sl lv st tg lo k = k L) ∧ ∀ (rho : List Int32) (x : Int32) (q t : Nat), ab_eR env rho → ab_evI rho a = some x → x.toInt = lo + q → tg[q]? = some t → ∃ env', ab_eR env' rho ∧ ((env', nl, aw, cl, sl), t, lv, st) ∈ L
  | [], lo => ⟨[], fun k => rfl, fun _ _ q t _ _ _ h => by simp at h⟩
  | t0 :: r, lo => by
    obtain ⟨L, h1, h2⟩ := ab_twK_ok (a := a) (env := env) (nl := nl) (aw := aw) (cl := cl) (sl := sl) (lv := lv) (st := st) r (lo + 1)
    cases hc : ab_rf env a lo lo with
    | none =>
      refine ⟨L, fun k => by simp only [ab_twK, ab_rfK_eq, hc, ab_fi_eq, h1], fun rho x q t hR hx e hq => ?_⟩
      cases q with
      | zero =>
        obtain ⟨e', g1, -⟩ := ab_rf_spec (lo := lo) (hi := lo) hR hx (by simp at e; omega) (by simp at e; omega)
        rw [hc] at g1; cases g1
      | succ q =>
        rw [List.getElem?_cons_succ] at hq
        exact h2 rho x q t hR hx (by rw [e]; push_cast; omega) hq
    | some env' =>
      refine ⟨((env', nl, aw, cl, sl), t0, lv, st) :: L, fun k => by simp only [ab_twK, ab_rfK_eq, hc, ab_fi_eq, h1], fun rho x q t hR hx e hq => ?_⟩
      cases q with
      | zero =>
        rw [List.getElem?_cons_zero] at hq
        cases hq
        obtain ⟨e', g1, g2⟩ := ab_rf_spec (lo := lo) (hi := lo) hR hx (by simp at e; omega) (by simp at e; omega)
        rw [hc] at g1; cases g1
        exact ⟨_, g2, List.mem_cons_self⟩
      | succ q =>
        rw [List.getElem?_cons_succ] at hq
        obtain ⟨e', g1, g2⟩ := h2 rho x q t hR hx (by rw [e]; push_cast; omega) hq
        exact ⟨e', g1, List.mem_cons_of_mem _ g2⟩
theorem so_tsw (C : ab_cx p R s m args c cc own nL X D) {df lo hi : Int} {offs : Array Int} {len dt : Nat} {tg : List Nat} (hn : (tg.length : Int) = hi - lo + 1) (htg : ∀ (q t : Nat), tg[q]? = some t → ∃ off, offs[q]? = some off ∧ (pc : Int) + off = t) (hdt : (pc : Int) + df = dt) (d : decode cc pc = .ok (.tableswitch df lo hi offs, len)) : ab_so p l e R s m args below meth c Q nL X D z0 cal pc (op_tsw lo hi tg dt) := by
  intro env nl aw cl sl lv st r hr hk z ws H locs ls cst hR hl hs
  dsimp only at hR hl hs
  unfold op_tsw at hr
  split at hr
  · rename_i a st'
    obtain ⟨L, f1, f2⟩ := ab_twK_ok (a := a) (env := env) (nl := nl) (aw := aw) (cl := cl) (sl := sl) (lv := lv) (st := st') tg lo
    rw [f1] at hr
    simp only [ab_rfK_eq] at hr
    obtain ⟨x, r0, rfl, h1, h2⟩ := ab_st1 hs
    obtain ⟨y, rfl, h3⟩ := ab_evi h1
    have hi32 := ab_i32 y
    by_cases hlo : y.toInt < lo
    · obtain ⟨e1, g1, g2⟩ := ab_rf_spec (lo := -2147483648) (hi := lo - 1) hR.1 h3 (by omega) (by omega)
      rw [g1] at hr
      refine lv_tableOut C.1 C.2.1 d (Or.inl hlo) hdt ?_
      cases ho : ab_rf env a (hi + 1) 2147483647 with
      | none =>
        rw [ho] at hr
        simp only [ab_o1, Option.some.injEq] at hr
        subst hr
        exact hk _ (ab_frk_in List.mem_cons_self) z ws H locs ls r0 (hR.ref g2) hl h2
      | some e2 =>
        rw [ho] at hr
        simp only [ab_o1, Option.some.injEq] at hr
        subst hr
        exact hk _ (ab_frk_in List.mem_cons_self) z ws H locs ls r0 (hR.ref g2) hl h2
    · by_cases hhi : hi < y.toInt
      · obtain ⟨e1, g1, g2⟩ := ab_rf_spec (lo := hi + 1) (hi := 2147483647) hR.1 h3 (by omega) (by omega)
        rw [g1] at hr
        refine lv_tableOut C.1 C.2.1 d (Or.inr hhi) hdt ?_
        cases ho : ab_rf env a (-2147483648) (lo - 1) with
        | none =>
          rw [ho] at hr
          simp only [ab_o1, Option.some.injEq] at hr
          subst hr
          exact hk _ (ab_frk_rest (ab_frk_in List.mem_cons_self)) z ws H locs ls r0 (hR.ref g2) hl h2
        | some e2 =>
          rw [ho] at hr
          simp only [ab_o1, Option.some.injEq] at hr
          subst hr
          exact hk _ (ab_frk_rest (ab_frk_in List.mem_cons_self)) z ws H locs ls r0 (hR.ref g2) hl h2
      · have hq : (y.toInt - lo).toNat < tg.length := by omega
        obtain ⟨off, o1, o2⟩ := htg (y.toInt - lo).toNat _ (List.getElem?_eq_getElem hq)
        obtain ⟨e1, g1, g2⟩ := f2 z.1 y (y.toInt - lo).toNat _ hR.1 h3 (by omega) (List.getElem?_eq_getElem hq)
        refine lv_tableIn C.1 C.2.1 d hlo hhi o1 o2 ?_
        have fin : ∀ r1 r2 : List ab_E, ab_frk nl aw cl sl lv st' r1 dt (ab_frk nl aw cl sl lv st' r2 dt L) = r → W p l e R s m args below meth c H locs cl sl Q (F0 m (tg[(y.toInt - lo).toNat]'hq) ls r0) := by
          intro r1 r2 e0
          subst e0
          exact hk _ (ab_frk_rest (ab_frk_rest g2)) z ws H locs ls r0 (hR.ref g1) hl h2
        generalize ab_rf env a (-2147483648) (lo - 1) = o1 at hr
        generalize ab_rf env a (hi + 1) 2147483647 = o2 at hr
        cases o1 <;> cases o2 <;> simp only [ab_o1, Option.some.injEq] at hr <;> exact fin _ _ hr
  · cases hr
end
end
section
/-! Runs of a method; contracts; calls. -/
abbrev ab_tab : Type := List (List (Nat × Nat × ab_P))
/-- a method: name, bytes, locals, answer, cells and fields that it makes, kind (0; 1: it may throw; 2: it catches), its handlers, its instructions -/
abbrev ab_ME : Type := MethodName × ByteArray × Nat × Option FieldType × Nat × Nat × Nat × List (Nat × Nat × Nat × Nat) × ab_tab
def ab_rm (d mc ms : Nat) : Room := { frames := 16 * d, cells := mc, slots := ms, locals := 200 * d }
def ab_ent : Nat → List ab_V → List (Nat × ab_V)
  | _, [] => []
  | i, v :: r => (i, v) :: ab_ent (bif ab_lg v then i + 2 else i + 1) r
def ab_entK {β : Type} : Nat → List ab_V → (List (Nat × ab_V) → β) → β
  | _, [], k => k []
  | i, v :: r, k => ab_fn (bif ab_lg v then i + 2 else i + 1) (fun j => ab_entK j r (fun t => k ((i, v) :: t)))
theorem ab_entK_eq {β : Type} : ∀ (i : Nat) (l : List ab_V) (k : List (Nat × ab_V) → β), ab_entK i l k = k (ab_ent i l)
  | _, [], k => rfl
  | i, v :: r, k => by simp only [ab_entK, ab_ent, ab_fn_eq]; exact ab_entK_eq _ r _
def ab_csum : List ab_V → Nat
  | [] => 0
  | v :: r => (bif ab_lg v then 2 else 1) + ab_csum r
def ab_as : List (Nat × Nat × ab_P) → Nat → Option (Nat × ab_P)
  | [], _ => none
  | (i, k, f) :: r, pc => bif Nat.beq i pc then some (k, f) else ab_as r pc
def ab_fd (tab : ab_tab) (pc : Nat) : Option (Nat × ab_P) := match ab_get tab (pc / 16) with
  | none => none
  | some b => ab_as b pc
theorem ab_as_mem : ∀ {b : List (Nat × Nat × ab_P)} {pc k : Nat} {f : ab_P}, ab_as b pc = some (k, f) → (pc, k, f) ∈ b
  | [], _, _, _, h => by cases h
  | (i, k', f') :: r, pc, k, f, h => by
    simp only [ab_as] at h
    cases hb : Nat.beq i pc
    · rw [hb] at h; exact List.mem_cons_of_mem _ (ab_as_mem h)
    · rw [hb] at h
      cases h
      rw [Nat.eq_of_beq_eq_true hb]; exact List.mem_cons_self
theorem ab_fd_mem {tab : ab_tab} {pc k : Nat} {f : ab_P} (h : ab_fd tab pc = some (k, f)) : ∃ b ∈ tab, (pc, k, f) ∈ b := by
  unfold ab_fd at h
  rw [ab_get_eq] at h
  split at h
  · cases h
  · rename_i b hb
    exact ⟨b, List.mem_of_getElem? hb, ab_as_mem h⟩
def ab_apK {β : Type} : List ab_S → List ab_S → (List ab_S → β) → β
  | [], w, k => k w
  | a :: t, w, k => ab_apK t w (fun q => k (a :: q))
theorem ab_apK_eq {β : Type} : ∀ (r w : List ab_S) (k : List ab_S → β), ab_apK r w k = k (r ++ w)
  | [], w, k => rfl
  | a :: t, w, k => by simp only [ab_apK, List.cons_append]; exact ab_apK_eq t w _
def ab_run (tab : ab_tab) (cal : ab_K) : Nat → List ab_S → List (Nat × ab_S) → Option (List (Nat × ab_S))
  | 0, _, _ => none
  | n + 1, wk, outs => match wk with
    | [] => some outs
    | ((env, nl, aw, cl, sl), pc, lv, st) :: w => match ab_fd tab pc with
      | none => none
      | some (k, f) => match k with
        | 0 => (match f cal env nl aw cl sl lv st with
          | none => none
          | some r => ab_apK r w (fun w => ab_run tab cal n w outs))
        | j + 1 => ab_run tab cal n w ((Nat.succ j, ((env, nl, aw, cl, sl), pc, lv, st)) :: outs)
/-- what the ends of a run answer -/
def ab_fin (ret : Option FieldType) (mc ms : Nat) : List (Nat × ab_S) → (List ab_O → Option (List ab_O)) → Option (List ab_O)
  | [], k => k []
  | (n, ((env, nl, aw, cl, sl), _, _, st)) :: r, k => match n with
    | 1 => (match ret, st with
      | some ty, [.inl a] => bif ab_fit ty env (.inl a) && Nat.ble cl mc && Nat.ble sl ms then ab_fin ret mc ms r (fun L => k ((1, some (.inl a), (env, nl, aw, 0, 0)) :: L)) else none
      | _, _ => none)
    | 2 => (match ret, st with
      | none, [] => bif Nat.ble cl mc && Nat.ble sl ms then ab_fin ret mc ms r (fun L => k ((2, none, (env, nl, aw, 0, 0)) :: L)) else none
      | _, _ => none)
    | 3 => (match st with
      | [] => bif Nat.ble (cl + 1) mc && Nat.ble (sl + 6) ms then ab_fin ret mc ms r (fun L => k ((3, none, (env, nl, aw, 0, 0)) :: L)) else none
      | _ => none)
    | _ => none
def ab_eval (ME : List ab_ME) (fuel : Nat) : Nat → ab_K
  | 0 => fun _ _ _ => none
  | d + 1 => fun mid g as => match ab_get ME mid with
    | none => none
    | some (_, _, maxL, ret, mc, ms, _, _, tab) => match g with
      | (env, nl, aw, _, _) => bif Nat.ble (ab_csum as) maxL then ab_entK 0 as (fun lv => match ab_run tab (ab_eval ME fuel d) fuel [((env, nl, aw, 0, 0), 0, lv, [])] [] with
        | none => none
        | some outs => ab_fin ret mc ms outs (fun L => some L)) else none
theorem ab_run_sub {tab : ab_tab} {cal : ab_K} : ∀ {n : Nat} {wk : List ab_S} {outs r : List (Nat × ab_S)}, ab_run tab cal n wk outs = some r → ∀ q ∈ outs, q ∈ r
  | 0, _, _, _, h => by cases h
  | n + 1, [], outs, r, h => by
    simp only [ab_run, Option.some.injEq] at h
    subst h
    exact fun q hq => hq
  | n + 1, ((env, nl, aw, cl, sl), pc, lv, st) :: w, outs, r, h => by
    simp only [ab_run] at h
    split at h
    · cases h
    · rename_i k f hf
      split at h
      · split at h
        · cases h
        · rw [ab_apK_eq] at h
          exact ab_run_sub h
      · exact fun q hq => ab_run_sub h q (List.mem_cons_of_mem _ hq)

section
variable {p : Program} {l : Launch} {e : Env} {R : Room} {s : State} {m : MethodId} {args : Array Value} {below : List Frame} {meth : Method} {c : Code} {Q : State → Prop} {cc : ByteArray} {own : String} {nL : Nat} {X : ab_X} {D : va_G} {z0 : ab_Z} {cal : ab_K} {pc : Nat}
/-- what is known of an instruction: it is sound; it returns; it throws -/
def ab_tv (p : Program) (l : Launch) (e : Env) (R : Room) (s : State) (m : MethodId) (args : Array Value) (below : List Frame) (meth : Method) (c : Code) (Q : State → Prop) (cc : ByteArray) (nL : Nat) (X : ab_X) (D : va_G) (z0 : ab_Z) (cal : ab_K) (th : Nat → Prop) (q : Nat × Nat × ab_P) : Prop := match q.2.1 with
  | 0 => ab_so p l e R s m args below meth c Q nL X D z0 cal q.1 q.2.2
  | 1 => decode cc q.1 = .ok (.ireturn, 1)
  | 2 => decode cc q.1 = .ok (.return_, 1)
  | 3 => th q.1
  | _ => True
theorem ab_run_ok {tab : ab_tab} {th : Nat → Prop} (hT : ∀ b ∈ tab, ∀ q ∈ b, ab_tv p l e R s m args below meth c Q cc nL X D z0 cal th q) : ∀ {n : Nat} {wk : List ab_S} {outs r : List (Nat × ab_S)}, ab_run tab cal n wk outs = some r → (∀ k pc S, (k, S) ∈ r → S.2.1 = pc → (∃ f, ∃ b ∈ tab, (pc, k, f) ∈ b) → ab_ok p l e R s m args below meth c Q nL X D z0 S) → ∀ S ∈ wk, ab_ok p l e R s m args below meth c Q nL X D z0 S
  | 0, _, _, _, h, _ => by cases h
  | n + 1, [], outs, r, h, _ => fun S hS => by cases hS
  | n + 1, ((env, nl, aw, cl, sl), pc, lv, st) :: w, outs, r, h, hr => by
    simp only [ab_run] at h
    split at h
    · cases h
    · rename_i k f hf
      obtain ⟨b, hb1, hb2⟩ := ab_fd_mem hf
      split at h
      · split at h
        · cases h
        · rename_i r' hf2
          rw [ab_apK_eq] at h
          have ih := ab_run_ok hT h hr
          intro S hS
          rcases List.mem_cons.mp hS with rfl | hS
          · exact hT b hb1 _ hb2 env nl aw cl sl lv st r' hf2 (fun S hS => ih S (List.mem_append_left _ hS))
          · exact ih S (List.mem_append_right _ hS)
      · have ih := ab_run_ok hT h hr
        intro S hS
        rcases List.mem_cons.mp hS with rfl | hS
        · exact hr _ pc _ (ab_run_sub h _ List.mem_cons_self) rfl ⟨f, b, hb1, hb2⟩
        · exact ih S hS
end
abbrev ab_U : Type := ab_O × ab_Z × va_W
def ab_Pr (X : ab_X) (D : va_G) (aw : List ab_C) (z : ab_Z) (ws : va_W) (vs : List Value) : Array Value → State → Prop := va_Pc vs (fun U => ab_EX X D U U.heap ∧ ab_wR X z U aw ws ∧ va_P D vwCl ws U.heap)
def ab_pu (X : ab_X) (z : ab_Z) (outs : List ab_O) (k : Nat) (u : ab_U) : Prop := u.1 ∈ outs ∧ u.1.1 = k ∧ ab_ext z u.2.1 ∧ ab_eR u.1.2.2.1 u.2.1.1 ∧ u.2.1.2.1.length = u.1.2.2.2.1 ∧ u.2.2.map Prod.fst = u.2.1.2.2 ∧ va_D (ab_Ar X) u.2.2 ∧ ab_sc X u.2.1.1
def ab_bu (X : ab_X) (D : va_G) (u : ab_U) (t : State) : Prop := ab_wR X u.2.1 t u.1.2.2.2.2.1 u.2.2 ∧ va_P D vwCl u.2.2 t.heap
def ab_pi (X : ab_X) (z : ab_Z) (outs : List ab_O) (r : Int32) (u : ab_U) : Prop := ab_pu X z outs 1 u ∧ ∃ v, u.1.2.1 = some v ∧ ab_ev X u.2.1 v = some (.int r)
def ab_Po (X : ab_X) (D : va_G) (z : ab_Z) (outs : List ab_O) (ret : Option FieldType) : Array Value → State → Outcome → State → Prop := match ret with
  | none => va_Qv (ab_pu X z outs 2) (ab_bu X D) (ab_Ar X)
  | some _ => va_Qi (ab_pi X z outs) (ab_bu X D) (ab_Ar X)
def ab_Nm : String := "java/util/NoSuchElementException"
def ab_Xo (X : ab_X) (D : va_G) (z : ab_Z) (outs : List ab_O) : String → State → State → Prop := vx_X (ab_pu X z outs 3) (fun E u t => E = ab_Nm ∧ ab_bu X D u t) (ab_Ar X)
def ab_inn (X : ab_X) (env : ab_E) (nl : Nat) (z : ab_Z) (ws : va_W) : Prop := ab_eR env z.1 ∧ z.2.1.length = nl ∧ ws.map Prod.fst = z.2.2 ∧ va_D (ab_Ar X) ws ∧ ab_sc X z.1
/-- a method's contract from an abstract start -/
def ab_ctr (l : Launch) (X : ab_X) (D : va_G) (d : Nat) (M : ab_ME) (env : ab_E) (nl : Nat) (aw : List ab_C) (as : List ab_V) (outs : List ab_O) : Prop :=
  ∀ (z : ab_Z) (ws : va_W) (vs : List Value), ab_inn X env nl z ws → as.map (ab_ev X z) = vs.map some → match M with
    | (y, cc, maxL, ret, mc, ms, kd, hh, _) => match kd with
      | 0 => Met l y (Cond.code y cc maxL ret :: ab_TG) (ab_rm d mc ms) (ab_Pr X D aw z ws vs) (ab_Po X D z outs ret) mc ms (ab_Ar X)
      | 1 => vx_Met l y (Cond.code y cc maxL ret :: ab_TG) (ab_rm d mc ms) (ab_Pr X D aw z ws vs) (ab_Po X D z outs ret) (ab_Xo X D z outs) mc ms (ab_Ar X)
      | _ => Met l y (Cond.codeWith y cc maxL ret hh :: ab_TG) (ab_rm d mc ms) (ab_Pr X D aw z ws vs) (ab_Po X D z outs ret) mc ms (ab_Ar X)
def ab_cal (l : Launch) (X : ab_X) (D : va_G) (d : Nat) (ME : List ab_ME) (cal : ab_K) : Prop := ∀ (mid : Nat) (M : ab_ME), ME[mid]? = some M → ∀ (env : ab_E) (nl : Nat) (aw : List ab_C) (as : List ab_V) (outs : List ab_O), cal mid (env, nl, aw, 0, 0) as = some outs → ab_ctr l X D d M env nl aw as outs
theorem ab_good {ws : List Cond} (h : ∀ w ∈ ws, w ∈ ab_TG) : GoodIn ab_TG ws := fun w hw => ⟨h w hw, good_of_word (List.mem_filter.mp (h w hw)).2⟩
theorem ab_Pr_blind {X : ab_X} {D : va_G} {aw : List ab_C} {z : ab_Z} {ws : va_W} {vs : List Value} : FrameBlind (ab_Pr X D aw z ws vs) := by
  intro a U g mk h
  obtain ⟨h0, h1, h2, h3⟩ := h
  exact ⟨h0, ab_EX.enter (U := U.calling g mk a) (locs := []) h1 (State.WarmedH.refl U) va_S.rf, h2.moved (Vm.Alike.refl U.vm), h3⟩
theorem ab_Pr_in {X : ab_X} {D : va_G} {s : State} {z0 z : ab_Z} {env : ab_E} {nl : Nat} {aw : List ab_C} {ws : va_W} {H : Heap} {locs : List Loc} {vs : List Value} (hE : ab_EX X D s s.heap) (hR : ab_R X D s z0 env nl aw z ws H locs) : ∀ U : State, U.heap = H → s.WarmedH U.vm → ab_Pr X D aw z ws vs vs.toArray U := by
  intro U hU hW
  refine ⟨rfl, ?_, hR.2.2.2.1.moved hW.alike, by rw [hU]; exact hR.2.2.2.2.1⟩
  rw [hU]
  exact hE.enter hW hR.2.2.2.2.2.2.1
theorem ab_R.inn {X : ab_X} {D : va_G} {s : State} {z0 z : ab_Z} {env : ab_E} {nl : Nat} {aw : List ab_C} {ws : va_W} {H : Heap} {locs : List Loc} (hR : ab_R X D s z0 env nl aw z ws H locs) : ab_inn X env nl z ws := ⟨hR.1, hR.2.1, hR.2.2.1, hR.2.2.2.2.2.1, hR.2.2.2.2.2.2.2.1⟩
/-- behind a call -/
theorem ab_R.back {X : ab_X} {D : va_G} {s t : State} {z0 z : ab_Z} {env : ab_E} {nl : Nat} {aw : List ab_C} {ws : va_W} {H H1 : Heap} {locs locs1 : List Loc} (hR : ab_R X D s z0 env nl aw z ws H locs) {outs : List ab_O} {k : Nat} {u : ab_U} (hp : ab_pu X z outs k u) (hb : ab_bu X D u t) (ht : t.heap = H1) (hvm : s.vm.Alike t.vm) (hS : va_S (ab_Ar X) s.heap H1 locs1) : ab_R X D s z0 u.1.2.2.1 u.1.2.2.2.1 u.1.2.2.2.2.1 u.2.1 u.2.2 H1 locs1 := by
  obtain ⟨-, -, h3, h4, h5, h6, h7, h8⟩ := hp
  exact ⟨h4, h5, h6, hb.1.moved hvm.symm, by rw [← ht]; exact hb.2, h7, hS, h8, hR.2.2.2.2.2.2.2.2.tr h3⟩
def ab_splK : Nat → List ab_V → List ab_V → (List ab_V → List ab_V → ab_A) → ab_A
  | 0, st, acc, k => k acc st
  | _ + 1, [], _, _ => none
  | n + 1, v :: st, acc, k => ab_splK n st (v :: acc) k
theorem ab_splK_ok {X : ab_X} {z : ab_Z} : ∀ {n : Nat} {st acc : List ab_V} {k : List ab_V → List ab_V → ab_A} {r : List ab_S} {cst cacc : List Value}, ab_splK n st acc k = some r → st.map (ab_ev X z) = cst.map some → acc.map (ab_ev X z) = cacc.map some → ∃ (as rest : List ab_V) (cas crest : List Value), k as rest = some r ∧ cacc.reverse ++ cst = cas.reverse ++ crest ∧ as.map (ab_ev X z) = cas.map some ∧ rest.map (ab_ev X z) = crest.map some ∧ as.length = n + acc.length
  | 0, st, acc, k, r, cst, cacc, h, h1, h2 => ⟨acc, st, cacc, cst, h, rfl, h2, h1, by simp⟩
  | n + 1, [], acc, k, r, cst, cacc, h, h1, h2 => by cases h
  | n + 1, v :: st, acc, k, r, cst, cacc, h, h1, h2 => by
    obtain ⟨x, r1, rfl, g1, g2⟩ := ab_st1 h1
    have h' : ab_splK n st (v :: acc) k = some r := h
    obtain ⟨as, rest, cas, crest, q1, q2, q3, q4, q5⟩ := ab_splK_ok (X := X) (z := z) (n := n) (st := st) (acc := v :: acc) (cst := r1) (cacc := x :: cacc) h' g2 (by simp only [List.map_cons, g1, h2])
    refine ⟨as, rest, cas, crest, q1, ?_, q3, q4, by rw [q5, List.length_cons]; omega⟩
    rw [← q2, List.reverse_cons, List.append_assoc]; rfl
theorem ab_csum_ok {X : ab_X} {z : ab_Z} (hz : X.2.2.2.2.2.category = 1) : ∀ {st : List ab_V} {cst : List Value}, st.map (ab_ev X z) = cst.map some → (cst.map fun v => v.category).sum = ab_csum st
  | [], [], _ => rfl
  | [], _ :: _, e => by simp at e
  | _ :: _, [], e => by simp at e
  | v :: st, x :: cst, e => by
    simp only [List.map_cons, List.cons.injEq] at e
    have hc := ab_cat hz e.1
    simp only [List.map_cons, List.sum_cons, ab_csum, ab_csum_ok hz e.2, hc]
    cases ab_lg v <;> rfl
/-- where a caller goes on -/
def ab_reK (np cl sl : Nat) (lv : List (Nat × ab_V)) (rest : List ab_V) : List ab_O → (List ab_S → ab_A) → ab_A
  | [], k => k []
  | (n, v, (env, nl, aw, _, _)) :: r, k => match n with
    | 1 => (match v with
      | some v => ab_reK np cl sl lv rest r (fun L => k (((env, nl, aw, cl, sl), np, lv, v :: rest) :: L))
      | none => none)
    | 2 => ab_reK np cl sl lv rest r (fun L => k (((env, nl, aw, cl, sl), np, lv, rest) :: L))
    | _ => none
theorem ab_reK_ok {np cl sl : Nat} {lv : List (Nat × ab_V)} {rest : List ab_V} : ∀ {outs : List ab_O} {k : List ab_S → ab_A} {r : List ab_S}, ab_reK np cl sl lv rest outs k = some r → ∃ L, k L = some r ∧ (∀ o ∈ outs, ∀ v, o.1 = 1 → o.2.1 = some v → ((o.2.2.1, o.2.2.2.1, o.2.2.2.2.1, cl, sl), np, lv, v :: rest) ∈ L) ∧ ∀ o ∈ outs, o.1 = 2 → ((o.2.2.1, o.2.2.2.1, o.2.2.2.2.1, cl, sl), np, lv, rest) ∈ L
  | [], k, r, h => ⟨[], h, fun o ho => (by cases ho), fun o ho => (by cases ho)⟩
  | (n, v, (env, nl, aw, c0, s0)) :: r0, k, r, h => by
    simp only [ab_reK] at h
    split at h
    · split at h
      · rename_i v0
        obtain ⟨L, h1, h2, h3⟩ := ab_reK_ok h
        refine ⟨_, h1, fun o ho v' e1 e2 => ?_, fun o ho e1 => ?_⟩
        · rcases List.mem_cons.mp ho with rfl | ho
          · cases e2; exact List.mem_cons_self
          · exact List.mem_cons_of_mem _ (h2 o ho v' e1 e2)
        · rcases List.mem_cons.mp ho with rfl | ho
          · cases e1
          · exact List.mem_cons_of_mem _ (h3 o ho e1)
      · cases h
    · obtain ⟨L, h1, h2, h3⟩ := ab_reK_ok h
      refine ⟨_, h1, fun o ho v' e1 e2 => ?_, fun o ho e1 => ?_⟩
      · rcases List.mem_cons.mp ho with rfl | ho
        · cases e1
        · exact List.mem_cons_of_mem _ (h2 o ho v' e1 e2)
      · rcases List.mem_cons.mp ho with rfl | ho
        · exact List.mem_cons_self
        · exact List.mem_cons_of_mem _ (h3 o ho e1)
    · cases h
/-- whom a call is asked of: nobody (0), a cell of a class (ci + 2), the text (1) -/
def ab_chk (rc : Nat) (as : List ab_V) (aw : List ab_C) : Bool := match rc with
  | 0 => true
  | 1 => (match as with
    | .inr (.inr (3, 0)) :: _ => true
    | _ => false)
  | ci + 2 => (match as with
    | .inr (.inr (2, j)) :: _ => (match ab_get aw j with
      | some (.inl (cj, _)) => Nat.beq ci cj
      | _ => false)
    | _ => false)
def op_call (rc mid na mc ms mcR msR np : Nat) : ab_P := fun cal env nl aw cl sl lv st => ab_splK na st [] (fun as rest =>
  bif ab_chk rc as aw && Nat.ble (ab_csum rest) 8 && Nat.ble (cl + mc) mcR && Nat.ble (sl + ms) msR then (match cal mid (env, nl, aw, 0, 0) as with
    | none => none
    | some outs => ab_fn (cl + mc) (fun cl => ab_fn (sl + ms) (fun sl => ab_reK np cl sl lv rest outs (fun L => some L)))) else none)
section
variable {p : Program} {l : Launch} {e : Env} {R : Room} {s : State} {m : MethodId} {args : Array Value} {below : List Frame} {meth : Method} {c : Code} {Q : State → Prop} {cc : ByteArray} {own : String} {nL : Nat} {X : ab_X} {D : va_G} {z0 : ab_Z} {cal : ab_K} {pc : Nat}
variable {d : Nat} {ME : List ab_ME} {y : MethodName} {cc' : ByteArray} {maxL : Nat} {ret : Option FieldType} {mc ms mcR msR mid na i : Nat} {hh : List (Nat × Nat × Nat × Nat)} {tab : ab_tab}
/-- a call by any row -/
theorem so_call_k (C : ab_cx p R s m args c cc own nL X D) (K : ab_cal l X D d ME cal) {kd : Nat} (hmi : ME[mid]? = some (y, cc', maxL, ret, mc, ms, kd, hh, tab)) (hmR : mcR ≤ R.cells) (hsR : msR ≤ R.slots) {rc : Nat}
    (hrow : ∀ (z : ab_Z) (ws : va_W) (H : Heap) (locs : List Loc) (env : ab_E) (nl : Nat) (aw : List ab_C) (cl sl : Nat) (ls : Array Slot) (as : List ab_V) (cas crest : List Value) (outs : List ab_O), ab_R X D s z0 env nl aw z ws H locs → ls.size = nL → ab_chk rc as aw = true → as.map (ab_ev X z) = cas.map some → as.length = na → (crest.map fun v => v.category).sum ≤ 8 → cl + mc ≤ R.cells → sl + ms ≤ R.slots → ab_ctr l X D d (y, cc', maxL, ret, mc, ms, kd, hh, tab) env nl aw as outs →
      va_Run p l e R s m args below meth c H locs cl sl mc ms (F0 m pc ls (cas.reverse ++ crest)) crest (ab_Po X D z outs ret cas.toArray) (ab_Ar X)) : ab_so p l e R s m args below meth c Q nL X D z0 cal pc (op_call rc mid na mc ms mcR msR (pc + 3)) := by
  intro env nl aw cl sl lv st r hr hk z ws H locs ls cst hR hl hs
  dsimp only at hR hl hs
  unfold op_call at hr
  obtain ⟨as, rest, cas, crest, q1, q2, q3, q4, q5⟩ := ab_splK_ok (cacc := []) hr hs rfl
  cases hb : (ab_chk rc as aw && Nat.ble (ab_csum rest) 8 && Nat.ble (cl + mc) mcR && Nat.ble (sl + ms) msR)
  · rw [hb] at q1; cases q1
  · rw [hb, cond_true] at q1
    rw [Bool.and_eq_true, Bool.and_eq_true, Bool.and_eq_true] at hb
    obtain ⟨⟨⟨b1, b2⟩, b3⟩, b4⟩ := hb
    split at q1
    · cases q1
    · rename_i outs ho
      rw [ab_fn_eq, ab_fn_eq] at q1
      obtain ⟨L, l1, l2, l3⟩ := ab_reK_ok q1
      cases l1
      have hcs := ab_csum_ok (ab_cxE C).2.2.2.2.1 q4
      have run := hrow z ws H locs env nl aw cl sl ls as cas crest outs hR hl.1 b1 q3 (by rw [q5]; rfl) (by rw [hcs]; exact Nat.le_of_ble_eq_true b2) (Nat.le_trans (Nat.le_of_ble_eq_true b3) hmR) (Nat.le_trans (Nat.le_of_ble_eq_true b4) hsR) (K mid _ hmi env nl aw as outs ho)
      have q2' : cst = cas.reverse ++ crest := q2
      rw [q2']
      cases ret with
      | none =>
        refine va_callv (A0 := ab_Ar X) (a := cas.toArray) (post := ab_pu X z outs 2) (B := ab_bu X D) (A1 := ab_Ar X) run hR.2.2.2.2.2.2.1 (fun _ _ h => h) (fun _ h => h) (fun u t H1 locs1 ht hvm hp hB _ _ hS => ?_)
        exact hk _ (l3 u.1 hp.1 hp.2.1) u.2.1 u.2.2 H1 locs1 ls crest (hR.back hp hB ht hvm hS) (hl.ext hp.2.2.1) (ab_evs.ext hp.2.2.1 q4)
      | some ty =>
        refine va_calli (A0 := ab_Ar X) (a := cas.toArray) (post := ab_pi X z outs) (B := ab_bu X D) (A1 := ab_Ar X) run hR.2.2.2.2.2.2.1 (fun _ _ h => h) (fun _ h => h) (fun r0 u t H1 locs1 ht hvm hp hB _ _ hS => ?_)
        obtain ⟨hp, v, v1, v2⟩ := hp
        exact hk _ (l2 u.1 hp.1 v hp.2.1 v1) u.2.1 u.2.2 H1 locs1 ls (.int r0 :: crest) (hR.back hp hB ht hvm hS) (hl.ext hp.2.2.1) (by simp only [List.map_cons, v2, ab_evs.ext hp.2.2.1 q4])
theorem ab_recv {z : ab_Z} {ws : va_W} {H : Heap} {locs : List Loc} {env : ab_E} {nl : Nat} {aw : List ab_C} (hE : ab_EX X D s s.heap) (hR : ab_R X D s z0 env nl aw z ws H locs) {ci N : Nat} {cn : String} {T : u_T} (hc : vwCl[ci]? = some (cn, T, N)) {as : List ab_V} {cas : List Value} (h : ab_chk (ci + 2) as aw = true) (hs : as.map (ab_ev X z) = cas.map some) : ∃ b cr, cas = .ref b :: cr ∧ ∃ cell : Cell, H[b]? = some cell ∧ cell.vm.isStatics = false ∧ s.vm.findClass cn = some cell.cls := by
  unfold ab_chk at h
  simp only at h
  split at h
  · rename_i j tl
    rw [ab_get_eq] at h
    split at h
    · rename_i cj fs hj
      cases Nat.eq_of_beq_eq_true h
      obtain ⟨x, r, rfl, h1, h2⟩ := ab_st1 hs
      obtain ⟨a, rfl, h3⟩ := ab_ref2 h1
      obtain ⟨a', e', c1, c2, vs, rfl, c4⟩ := hR.cell hj
      cases Option.some.inj (c2.symm.trans h3)
      exact ⟨a, r, rfl, va_recv hE.2.1 hR.2.2.2.2.1 hc c1⟩
    · cases h
  · cases h
theorem ab_recvT {z : ab_Z} {ws : va_W} {H : Heap} {locs : List Loc} {env : ab_E} {nl : Nat} {aw : List ab_C} (hE : ab_EX X D s s.heap) (hR : ab_R X D s z0 env nl aw z ws H locs) {as : List ab_V} {cas : List Value} (h : ab_chk 1 as aw = true) (hs : as.map (ab_ev X z) = cas.map some) : ∃ b cr, cas = .ref b :: cr ∧ ∃ cell : Cell, H[b]? = some cell ∧ cell.vm.isStatics = false ∧ s.vm.findClass "java/lang/String" = some cell.cls := by
  unfold ab_chk at h
  simp only at h
  split at h
  · obtain ⟨x, r, rfl, h1, h2⟩ := ab_st1 hs
    cases h1
    exact ⟨_, r, rfl, vk_recv hE.2.2.2.2.2.2.1 (by decide) hR.2.2.2.2.2.2.1⟩
  · cases h
theorem so_callV (C : ab_cx p R s m args c cc own nL X D) (K : ab_cal l X D d ME cal) (hmi : ME[mid]? = some (y, cc', maxL, ret, mc, ms, 0, hh, tab)) (hmR : mcR ≤ R.cells) (hsR : msR ≤ R.slots) (hd1 : 16 * (d + 1) ≤ R.frames) (hd2 : 200 * (d + 1) ≤ R.locals) (hmx : maxL ≤ 150) {np : Nat} (hyd : y.cls ≠ "java/lang/invoke/MethodHandle" ∧ y.cls ≠ "java/lang/invoke/VarHandle" ∧ (parseMethodDescriptor y.desc).map (fun d => d.parameters.length) = some np) (hcode : Cond.code y cc' maxL ret ∈ ab_TG) {ci N : Nat} {cn : String} {T : u_T} (hc : vwCl[ci]? = some (cn, T, N)) (hcn : y.cls = cn) (hnp : np + 1 = na) (hl1 : Cond.methodLink own i y ∈ ab_TG) (hl2 : Cond.instanceMethod y ∈ ab_TG) (hl3 : Cond.selects cn y y ∈ ab_TG) (hl4 : Cond.initialized cn ∈ ab_TG) (dd : decode cc pc = .ok (.invokevirtual i, 3)) : ab_so p l e R s m args below meth c Q nL X D z0 cal pc (op_call (ci + 2) mid na mc ms mcR msR (pc + 3)) := by
  refine so_call_k C K hmi hmR hsR (fun z ws H locs env nl aw cl sl ls as cas crest outs hR hsz hch hs hna hcs hcl hsl hct => ?_)
  obtain ⟨b, cr, rfl, hcell⟩ := ab_recv (ab_cxE C) hR hc hch hs
  have hlen : cr.length + 1 = na := by rw [← hna, ab_map_len hs]; rfl
  have hM : Met l y (Cond.code y cc' maxL ret :: ab_TG) (ab_rm d mc ms) (ab_Pr X D aw z ws (.ref b :: cr)) (ab_Po X D z outs ret) mc ms (ab_Ar X) := hct z ws (.ref b :: cr) hR.inn hs
  refine va_runV (As := cr) (rest := crest) ⟨C.1, C.2.1, C.2.2.1, C.2.2.2.1, C.2.2.2.2.1⟩ hM (cwV (C := cn) np C.2.2.2.2.1 (ab_good (fun w hw => by
    simp only [wsV, List.mem_append, List.mem_cons, List.not_mem_nil, or_false] at hw
    rcases hw with (rfl | rfl | rfl | rfl) | (rfl | hw)
    · exact hl1
    · exact hl2
    · exact hl3
    · exact hl4
    · exact hcode
    · exact hw)) rfl rfl rfl ⟨hcn, hyd⟩ ⟨by show 16 * d + 1 ≤ _; omega, by show 8 + (maxL + 11) + 200 * d ≤ _; omega⟩) ⟨ab_Pr_blind, hcell, ab_Pr_in (ab_cxE C) hR⟩ rfl (by omega) hsz (by simp) (lv_room hcs) dd ⟨hcl, hsl⟩
theorem so_callT (C : ab_cx p R s m args c cc own nL X D) (K : ab_cal l X D d ME cal) (hmi : ME[mid]? = some (y, cc', maxL, ret, mc, ms, 0, hh, tab)) (hmR : mcR ≤ R.cells) (hsR : msR ≤ R.slots) (hd1 : 16 * (d + 1) ≤ R.frames) (hd2 : 200 * (d + 1) ≤ R.locals) (hmx : maxL ≤ 150) {np : Nat} (hyd : y.cls ≠ "java/lang/invoke/MethodHandle" ∧ y.cls ≠ "java/lang/invoke/VarHandle" ∧ (parseMethodDescriptor y.desc).map (fun d => d.parameters.length) = some np) (hcode : Cond.code y cc' maxL ret ∈ ab_TG) (hcn : y.cls = "java/lang/String") (hnp : np + 1 = na) (hl1 : Cond.methodLink own i y ∈ ab_TG) (hl2 : Cond.instanceMethod y ∈ ab_TG) (hl3 : Cond.selects "java/lang/String" y y ∈ ab_TG) (hl4 : Cond.initialized "java/lang/String" ∈ ab_TG) (dd : decode cc pc = .ok (.invokevirtual i, 3)) : ab_so p l e R s m args below meth c Q nL X D z0 cal pc (op_call (1) mid na mc ms mcR msR (pc + 3)) := by
  refine so_call_k C K hmi hmR hsR (fun z ws H locs env nl aw cl sl ls as cas crest outs hR hsz hch hs hna hcs hcl hsl hct => ?_)
  obtain ⟨b, cr, rfl, hcell⟩ := ab_recvT (ab_cxE C) hR hch hs
  have hlen : cr.length + 1 = na := by rw [← hna, ab_map_len hs]; rfl
  have hM : Met l y (Cond.code y cc' maxL ret :: ab_TG) (ab_rm d mc ms) (ab_Pr X D aw z ws (.ref b :: cr)) (ab_Po X D z outs ret) mc ms (ab_Ar X) := hct z ws (.ref b :: cr) hR.inn hs
  refine va_runV (As := cr) (rest := crest) ⟨C.1, C.2.1, C.2.2.1, C.2.2.2.1, C.2.2.2.2.1⟩ hM (cwV (C := "java/lang/String") np C.2.2.2.2.1 (ab_good (fun w hw => by
    simp only [wsV, List.mem_append, List.mem_cons, List.not_mem_nil, or_false] at hw
    rcases hw with (rfl | rfl | rfl | rfl) | (rfl | hw)
    · exact hl1
    · exact hl2
    · exact hl3
    · exact hl4
    · exact hcode
    · exact hw)) rfl rfl rfl ⟨hcn, hyd⟩ ⟨by show 16 * d + 1 ≤ _; omega, by show 8 + (maxL + 11) + 200 * d ≤ _; omega⟩) ⟨ab_Pr_blind, hcell, ab_Pr_in (ab_cxE C) hR⟩ rfl (by omega) hsz (by simp) (lv_room hcs) dd ⟨hcl, hsl⟩
theorem so_callVN (C : ab_cx p R s m args c cc own nL X D) (K : ab_cal l X D d ME cal) (hmi : ME[mid]? = some (y, cc', maxL, ret, mc, ms, 0, hh, tab)) (hmR : mcR ≤ R.cells) (hsR : msR ≤ R.slots) (hd1 : 16 * (d + 1) ≤ R.frames) (hd2 : 200 * (d + 1) ≤ R.locals) (hmx : maxL ≤ 150) {np : Nat} (hyd : y.cls ≠ "java/lang/invoke/MethodHandle" ∧ y.cls ≠ "java/lang/invoke/VarHandle" ∧ (parseMethodDescriptor y.desc).map (fun d => d.parameters.length) = some np) (hcode : Cond.code y cc' maxL ret ∈ ab_TG) {ci N : Nat} {cn : String} {T : u_T} (hc : vwCl[ci]? = some (cn, T, N)) {host : String} (hnp : np + 1 = na) (hl1 : Cond.methodLinkNest own i y host ∈ lw_tbl) (hl2 : Cond.instanceMethod y ∈ ab_TG) (hl3 : Cond.selects cn y y ∈ ab_TG) (hl4 : Cond.initialized y.cls ∈ ab_TG) (dd : decode cc pc = .ok (.invokevirtual i, 3)) : ab_so p l e R s m args below meth c Q nL X D z0 cal pc (op_call (ci + 2) mid na mc ms mcR msR (pc + 3)) := by
  refine so_call_k C K hmi hmR hsR (fun z ws H locs env nl aw cl sl ls as cas crest outs hR hsz hch hs hna hcs hcl hsl hct => ?_)
  obtain ⟨b, cr, rfl, hcell⟩ := ab_recv (ab_cxE C) hR hc hch hs
  have hlen : cr.length + 1 = na := by rw [← hna, ab_map_len hs]; rfl
  have hM : Met l y (Cond.code y cc' maxL ret :: ab_TG) (ab_rm d mc ms) (ab_Pr X D aw z ws (.ref b :: cr)) (ab_Po X D z outs ret) mc ms (ab_Ar X) := hct z ws (.ref b :: cr) hR.inn hs
  refine va_runVN (As := cr) (rest := crest) ⟨C.1, C.2.1, C.2.2.1, C.2.2.2.1, C.2.2.2.2.1⟩ hM ⟨va_cnB np C.2.2.2.2.1 (ab_good (fun w hw => (List.mem_cons.mp hw).elim (fun e => e ▸ hcode) (fun h => h))) rfl rfl rfl ((ab_cxE C).2.2.1 _ hl1 rfl) (C.2.2.2.2.1 _ hl4) hyd ⟨by show 16 * d + 1 ≤ _; omega, by show 8 + (maxL + 11) + 200 * d ≤ _; omega⟩, C.2.2.2.2.1 _ hl2, C.2.2.2.2.1 _ hl3⟩ ⟨ab_Pr_blind, hcell, ab_Pr_in (ab_cxE C) hR⟩ rfl (by omega) hsz (by simp) (lv_room hcs) dd ⟨hcl, hsl⟩
theorem so_callI (C : ab_cx p R s m args c cc own nL X D) (K : ab_cal l X D d ME cal) (hmi : ME[mid]? = some (y, cc', maxL, none, mc, ms, 0, hh, tab)) (hmR : mcR ≤ R.cells) (hsR : msR ≤ R.slots) (hd1 : 16 * (d + 1) ≤ R.frames) (hd2 : 200 * (d + 1) ≤ R.locals) (hmx : maxL ≤ 150) {np : Nat} (hyd : y.cls ≠ "java/lang/invoke/MethodHandle" ∧ y.cls ≠ "java/lang/invoke/VarHandle" ∧ (parseMethodDescriptor y.desc).map (fun d => d.parameters.length) = some np) (hcode : Cond.code y cc' maxL none ∈ ab_TG) {ci N : Nat} {cn : String} {T : u_T} (hc : vwCl[ci]? = some (cn, T, N)) (hy1 : y.name = "<init>") (hnp : np + 1 = na) (hl1 : Cond.methodLink own i y ∈ ab_TG) (hl2 : Cond.instanceMethod y ∈ ab_TG) (hl4 : Cond.initialized y.cls ∈ ab_TG) (dd : decode cc pc = .ok (.invokespecial i, 3)) : ab_so p l e R s m args below meth c Q nL X D z0 cal pc (op_call (ci + 2) mid na mc ms mcR msR (pc + 3)) := by
  refine so_call_k C K hmi hmR hsR (fun z ws H locs env nl aw cl sl ls as cas crest outs hR hsz hch hs hna hcs hcl hsl hct => ?_)
  obtain ⟨b, cr, rfl, hcell⟩ := ab_recv (ab_cxE C) hR hc hch hs
  have hlen : cr.length + 1 = na := by rw [← hna, ab_map_len hs]; rfl
  have hM : Met l y (Cond.code y cc' maxL none :: ab_TG) (ab_rm d mc ms) (ab_Pr X D aw z ws (.ref b :: cr)) (ab_Po X D z outs none) mc ms (ab_Ar X) := hct z ws (.ref b :: cr) hR.inn hs
  refine va_runI (As := cr) (rest := crest) ⟨C.1, C.2.1, C.2.2.1, C.2.2.2.1, C.2.2.2.2.1⟩ hM (cwI np C.2.2.2.2.1 (ab_good (fun w hw => (List.mem_cons.mp hw).elim (fun e => e ▸ hcode) (fun h => h))) rfl rfl rfl (C.2.2.2.2.1 _ hl4) (C.2.2.2.2.1 _ hl1) (C.2.2.2.2.1 _ hl2) hy1 hyd ⟨by show 16 * d + 1 ≤ _; omega, by show 8 + (maxL + 11) + 200 * d ≤ _; omega⟩) ⟨ab_Pr_blind, ab_Pr_in (ab_cxE C) hR⟩ rfl (by omega) hsz (by simp) (lv_room hcs) dd ⟨hcl, hsl⟩
theorem so_callIN (C : ab_cx p R s m args c cc own nL X D) (K : ab_cal l X D d ME cal) (hmi : ME[mid]? = some (y, cc', maxL, none, mc, ms, 0, hh, tab)) (hmR : mcR ≤ R.cells) (hsR : msR ≤ R.slots) (hd1 : 16 * (d + 1) ≤ R.frames) (hd2 : 200 * (d + 1) ≤ R.locals) (hmx : maxL ≤ 150) {np : Nat} (hyd : y.cls ≠ "java/lang/invoke/MethodHandle" ∧ y.cls ≠ "java/lang/invoke/VarHandle" ∧ (parseMethodDescriptor y.desc).map (fun d => d.parameters.length) = some np) (hcode : Cond.code y cc' maxL none ∈ ab_TG) {ci N : Nat} {cn : String} {T : u_T} (hc : vwCl[ci]? = some (cn, T, N)) {host : String} (hy1 : y.name = "<init>") (hnp : np + 1 = na) (hl1 : Cond.methodLinkNest own i y host ∈ lw_tbl) (hl2 : Cond.instanceMethod y ∈ ab_TG) (hl4 : Cond.initialized y.cls ∈ ab_TG) (dd : decode cc pc = .ok (.invokespecial i, 3)) : ab_so p l e R s m args below meth c Q nL X D z0 cal pc (op_call (ci + 2) mid na mc ms mcR msR (pc + 3)) := by
  refine so_call_k C K hmi hmR hsR (fun z ws H locs env nl aw cl sl ls as cas crest outs hR hsz hch hs hna hcs hcl hsl hct => ?_)
  obtain ⟨b, cr, rfl, hcell⟩ := ab_recv (ab_cxE C) hR hc hch hs
  have hlen : cr.length + 1 = na := by rw [← hna, ab_map_len hs]; rfl
  have hM : Met l y (Cond.code y cc' maxL none :: ab_TG) (ab_rm d mc ms) (ab_Pr X D aw z ws (.ref b :: cr)) (ab_Po X D z outs none) mc ms (ab_Ar X) := hct z ws (.ref b :: cr) hR.inn hs
  refine va_runIN (As := cr) (rest := crest) ⟨C.1, C.2.1, C.2.2.1, C.2.2.2.1, C.2.2.2.2.1⟩ hM ⟨va_cnB np C.2.2.2.2.1 (ab_good (fun w hw => (List.mem_cons.mp hw).elim (fun e => e ▸ hcode) (fun h => h))) rfl rfl rfl ((ab_cxE C).2.2.1 _ hl1 rfl) (C.2.2.2.2.1 _ hl4) hyd ⟨by show 16 * d + 1 ≤ _; omega, by show 8 + (maxL + 11) + 200 * d ≤ _; omega⟩, hy1, C.2.2.2.2.1 _ hl2⟩ ⟨ab_Pr_blind, ab_Pr_in (ab_cxE C) hR⟩ rfl (by omega) hsz (by simp) (lv_room hcs) dd ⟨hcl, hsl⟩
theorem so_callS (C : ab_cx p R s m args c cc own nL X D) (K : ab_cal l X D d ME cal) (hmi : ME[mid]? = some (y, cc', maxL, ret, mc, ms, 0, hh, tab)) (hmR : mcR ≤ R.cells) (hsR : msR ≤ R.slots) (hd1 : 16 * (d + 1) ≤ R.frames) (hd2 : 200 * (d + 1) ≤ R.locals) (hmx : maxL ≤ 150) {np : Nat} (hyd : y.cls ≠ "java/lang/invoke/MethodHandle" ∧ y.cls ≠ "java/lang/invoke/VarHandle" ∧ (parseMethodDescriptor y.desc).map (fun d => d.parameters.length) = some np) (hcode : Cond.code y cc' maxL ret ∈ ab_TG) (hnp : np = na) (hl1 : Cond.methodLink own i y ∈ ab_TG) (hl2 : Cond.static y ∈ ab_TG) (hl4 : Cond.initialized y.cls ∈ ab_TG) (dd : decode cc pc = .ok (.invokestatic i, 3)) : ab_so p l e R s m args below meth c Q nL X D z0 cal pc (op_call 0 mid na mc ms mcR msR (pc + 3)) := by
  refine so_call_k C K hmi hmR hsR (fun z ws H locs env nl aw cl sl ls as cas crest outs hR hsz hch hs hna hcs hcl hsl hct => ?_)
  have hlen : cas.length = na := by rw [← hna, ab_map_len hs]
  have hM : Met l y (Cond.code y cc' maxL ret :: ab_TG) (ab_rm d mc ms) (ab_Pr X D aw z ws cas) (ab_Po X D z outs ret) mc ms (ab_Ar X) := hct z ws cas hR.inn hs
  refine va_runS (As := cas) (rest := crest) ⟨C.1, C.2.1, C.2.2.1, C.2.2.2.1, C.2.2.2.2.1⟩ hM (va_cwS np C.2.2.2.2.1 (ab_good (fun w hw => by
    simp only [va_wsS, List.mem_append, List.mem_cons, List.not_mem_nil, or_false] at hw
    rcases hw with (rfl | rfl | rfl) | (rfl | hw)
    · exact hl1
    · exact hl2
    · exact hl4
    · exact hcode
    · exact hw)) rfl rfl rfl hyd ⟨by show 16 * d + 1 ≤ _; omega, by show 8 + (maxL + 11) + 200 * d ≤ _; omega⟩) ⟨ab_Pr_blind, ab_Pr_in (ab_cxE C) hR⟩ rfl (by omega) hsz rfl (lv_room hcs) dd ⟨hcl, hsl⟩
theorem so_callSW (C : ab_cx p R s m args c cc own nL X D) (K : ab_cal l X D d ME cal) (hmi : ME[mid]? = some (y, cc', maxL, ret, mc, ms, 2, hh, tab)) (hmR : mcR ≤ R.cells) (hsR : msR ≤ R.slots) (hd1 : 16 * (d + 1) ≤ R.frames) (hd2 : 200 * (d + 1) ≤ R.locals) (hmx : maxL ≤ 150) {np : Nat} (hyd : y.cls ≠ "java/lang/invoke/MethodHandle" ∧ y.cls ≠ "java/lang/invoke/VarHandle" ∧ (parseMethodDescriptor y.desc).map (fun d => d.parameters.length) = some np) (hcode : Cond.codeWith y cc' maxL ret hh ∈ ab_TG) (hnp : np = na) (hl1 : Cond.methodLink own i y ∈ ab_TG) (hl2 : Cond.static y ∈ ab_TG) (hl4 : Cond.initialized y.cls ∈ ab_TG) (dd : decode cc pc = .ok (.invokestatic i, 3)) : ab_so p l e R s m args below meth c Q nL X D z0 cal pc (op_call 0 mid na mc ms mcR msR (pc + 3)) := by
  refine so_call_k C K hmi hmR hsR (fun z ws H locs env nl aw cl sl ls as cas crest outs hR hsz hch hs hna hcs hcl hsl hct => ?_)
  have hlen : cas.length = na := by rw [← hna, ab_map_len hs]
  have hM : Met l y (Cond.codeWith y cc' maxL ret hh :: ab_TG) (ab_rm d mc ms) (ab_Pr X D aw z ws cas) (ab_Po X D z outs ret) mc ms (ab_Ar X) := hct z ws cas hR.inn hs
  refine vx_runSW (As := cas) (rest := crest) ⟨C.1, C.2.1, C.2.2.1, C.2.2.2.1, C.2.2.2.2.1⟩ hM (vx_cwSW np C.2.2.2.2.1 (ab_good (fun w hw => by
    simp only [va_wsS, List.mem_append, List.mem_cons, List.not_mem_nil, or_false] at hw
    rcases hw with (rfl | rfl | rfl) | (rfl | hw)
    · exact hl1
    · exact hl2
    · exact hl4
    · exact hcode
    · exact hw)) rfl rfl rfl hyd ⟨by show 16 * d + 1 ≤ _; omega, by show 8 + (maxL + 11) + 200 * d ≤ _; omega⟩) ⟨ab_Pr_blind, ab_Pr_in (ab_cxE C) hR⟩ rfl (by omega) hsz rfl (lv_room hcs) dd ⟨hcl, hsl⟩
end
end
section
/-! A contract out of a run. -/
theorem ab_ent_in {X : ab_X} {z : ab_Z} (hz : X.2.2.2.2.2.category = 1) : ∀ {i : Nat} {as : List ab_V} {vs : List Value}, as.map (ab_ev X z) = vs.map some → ∀ q ∈ ab_ent i as, ∃ v, ab_ev X z q.2 = some v ∧ (q.1, v) ∈ lv_args i vs
  | _, [], _, _, q, h => by cases h
  | _, _ :: _, [], e, q, h => by simp at e
  | i, a :: as, v :: vs, e, q, h => by
    simp only [List.map_cons, List.cons.injEq] at e
    have hc := ab_cat hz e.1
    rcases List.mem_cons.mp h with rfl | h
    · exact ⟨v, e.1, List.mem_cons_self⟩
    · obtain ⟨x, h1, h2⟩ := ab_ent_in hz e.2 q h
      refine ⟨x, h1, List.mem_cons_of_mem _ ?_⟩
      cases hg : ab_lg a
      · rw [hg] at hc h2
        rw [if_neg (by rw [hc]; decide)]; exact h2
      · rw [hg] at hc h2
        rw [if_pos (by rw [hc]; rfl)]; exact h2
theorem ab_sl_len : ∀ (vs : List Value), (lg_sl vs).length = (vs.map fun v => v.category).sum
  | [] => rfl
  | v :: vs => by
    have ih := ab_sl_len vs
    simp only [lg_sl, List.flatMap_cons, List.length_append, List.map_cons, List.sum_cons] at ih ⊢
    rw [ih]
    rcases lv_cat v with h | h
    · rw [h]; simp
    · rw [h]; simp
theorem ab_fin_ok {ret : Option FieldType} {mc ms : Nat} : ∀ {os : List (Nat × ab_S)} {k : List ab_O → Option (List ab_O)} {r : List ab_O}, ab_fin ret mc ms os k = some r → ∃ L, k L = some r ∧ ∀ (n : Nat) (S : ab_S), (n, S) ∈ os →
    (n = 1 ∧ ∃ ty a, ret = some ty ∧ S.2.2.2 = [.inl a] ∧ ab_fit ty S.1.1 (.inl a) = true ∧ S.1.2.2.2.1 ≤ mc ∧ S.1.2.2.2.2 ≤ ms ∧ (1, some (.inl a), (S.1.1, S.1.2.1, S.1.2.2.1, 0, 0)) ∈ L) ∨
    (n = 2 ∧ ret = none ∧ S.2.2.2 = [] ∧ S.1.2.2.2.1 ≤ mc ∧ S.1.2.2.2.2 ≤ ms ∧ (2, none, (S.1.1, S.1.2.1, S.1.2.2.1, 0, 0)) ∈ L) ∨
    (n = 3 ∧ S.2.2.2 = [] ∧ S.1.2.2.2.1 + 1 ≤ mc ∧ S.1.2.2.2.2 + 6 ≤ ms ∧ (3, none, (S.1.1, S.1.2.1, S.1.2.2.1, 0, 0)) ∈ L)
  | [], k, r, h => ⟨[], h, fun n S hS => by cases hS⟩
  | (n, ((env, nl, aw, cl, sl), pc, lv, st)) :: os, k, r, h => by
    simp only [ab_fin] at h
    split at h
    · split at h
      · rename_i ty a
        cases hb : (ab_fit ty env (.inl a) && Nat.ble cl mc && Nat.ble sl ms)
        · rw [hb] at h; cases h
        · rw [hb, cond_true] at h
          rw [Bool.and_eq_true, Bool.and_eq_true] at hb
          obtain ⟨L, h1, h2⟩ := ab_fin_ok h
          refine ⟨_, h1, fun n S hS => ?_⟩
          rcases List.mem_cons.mp hS with e | hS
          · cases e
            exact Or.inl ⟨rfl, ty, a, rfl, rfl, hb.1.1, Nat.le_of_ble_eq_true hb.1.2, Nat.le_of_ble_eq_true hb.2, List.mem_cons_self⟩
          · rcases h2 n S hS with ⟨g0, ty', a', g1, g2, g3, g4, g5, g6⟩ | ⟨g0, g1, g2, g3, g4, g5⟩ | ⟨g0, g1, g2, g3, g4⟩
            · exact Or.inl ⟨g0, ty', a', g1, g2, g3, g4, g5, List.mem_cons_of_mem _ g6⟩
            · exact Or.inr (Or.inl ⟨g0, g1, g2, g3, g4, List.mem_cons_of_mem _ g5⟩)
            · exact Or.inr (Or.inr ⟨g0, g1, g2, g3, List.mem_cons_of_mem _ g4⟩)
      · cases h
    · split at h
      · cases hb : (Nat.ble cl mc && Nat.ble sl ms)
        · rw [hb] at h; cases h
        · rw [hb, cond_true] at h
          rw [Bool.and_eq_true] at hb
          obtain ⟨L, h1, h2⟩ := ab_fin_ok h
          refine ⟨_, h1, fun n S hS => ?_⟩
          rcases List.mem_cons.mp hS with e | hS
          · cases e
            exact Or.inr (Or.inl ⟨rfl, rfl, rfl, Nat.le_of_ble_eq_true hb.1, Nat.le_of_ble_eq_true hb.2, List.mem_cons_self⟩)
          · rcases h2 n S hS with ⟨g0, ty', a', g1, g2, g3, g4, g5, g6⟩ | ⟨g0, g1, g2, g3, g4, g5⟩ | ⟨g0, g1, g2, g3, g4⟩
            · exact Or.inl ⟨g0, ty', a', g1, g2, g3, g4, g5, List.mem_cons_of_mem _ g6⟩
            · exact Or.inr (Or.inl ⟨g0, g1, g2, g3, g4, List.mem_cons_of_mem _ g5⟩)
            · exact Or.inr (Or.inr ⟨g0, g1, g2, g3, List.mem_cons_of_mem _ g4⟩)
      · cases h
    · split at h
      · cases hb : (Nat.ble (cl + 1) mc && Nat.ble (sl + 6) ms)
        · rw [hb] at h; cases h
        · rw [hb, cond_true] at h
          rw [Bool.and_eq_true] at hb
          obtain ⟨L, h1, h2⟩ := ab_fin_ok h
          refine ⟨_, h1, fun n S hS => ?_⟩
          rcases List.mem_cons.mp hS with e | hS
          · cases e
            exact Or.inr (Or.inr ⟨rfl, rfl, Nat.le_of_ble_eq_true hb.1, Nat.le_of_ble_eq_true hb.2, List.mem_cons_self⟩)
          · rcases h2 n S hS with ⟨g0, ty', a', g1, g2, g3, g4, g5, g6⟩ | ⟨g0, g1, g2, g3, g4, g5⟩ | ⟨g0, g1, g2, g3, g4⟩
            · exact Or.inl ⟨g0, ty', a', g1, g2, g3, g4, g5, List.mem_cons_of_mem _ g6⟩
            · exact Or.inr (Or.inl ⟨g0, g1, g2, g3, g4, List.mem_cons_of_mem _ g5⟩)
            · exact Or.inr (Or.inr ⟨g0, g1, g2, g3, List.mem_cons_of_mem _ g4⟩)
      · cases h
    · cases h
section
variable {p : Program} {l : Launch} {e : Env} {R : Room} {s : State} {m : MethodId} {args : Array Value} {below : List Frame} {meth : Method} {c : Code} {Q : State → Prop} {cc : ByteArray} {own : String} {nL : Nat} {X : ab_X} {D : va_G} {z0 : ab_Z} {cal : ab_K} {pc : Nat}
/-- a stop that returns -/
theorem ab_stop (C : ab_cx p R s m args c cc own nL X D) {th : Nat → Prop} {ret : Option FieldType} {mc ms : Nat} {outs : List ab_O} {S : ab_S} {k : Nat} {f : ab_P} (hr : meth.sig.returnType = ret) (hlocks : meth.locks = false)
    (htv : ab_tv p l e R s m args below meth c (MQ below (ab_Po X D z0 outs ret) args s mc ms (ab_Ar X)) cc nL X D z0 cal th (S.2.1, k, f))
    (h : (k = 1 ∧ ∃ ty a, ret = some ty ∧ S.2.2.2 = [.inl a] ∧ ab_fit ty S.1.1 (.inl a) = true ∧ S.1.2.2.2.1 ≤ mc ∧ S.1.2.2.2.2 ≤ ms ∧ (1, some (.inl a), (S.1.1, S.1.2.1, S.1.2.2.1, 0, 0)) ∈ outs) ∨ (k = 2 ∧ ret = none ∧ S.2.2.2 = [] ∧ S.1.2.2.2.1 ≤ mc ∧ S.1.2.2.2.2 ≤ ms ∧ (2, none, (S.1.1, S.1.2.1, S.1.2.2.1, 0, 0)) ∈ outs)) :
    ab_ok p l e R s m args below meth c (MQ below (ab_Po X D z0 outs ret) args s mc ms (ab_Ar X)) nL X D z0 S := by
  intro z ws H locs ls cst hR hl hs
  rcases h with ⟨rfl, ty, a, rfl, h2, h3, h4, h5, h6⟩ | ⟨rfl, rfl, h2, h4, h5, h6⟩
  · rw [h2] at hs
    obtain ⟨x, r, rfl, g1, g2⟩ := ab_st1 hs
    cases r with
    | cons _ _ => simp at g2
    | nil =>
      obtain ⟨y, rfl, g3⟩ := ab_evi g1
      have hd : decode cc S.2.1 = .ok (.ireturn, 1) := htv
      refine W.widen h4 h5 ?_
      refine W.zret C.1 C.2.1 hr (ab_fit_ok hR.1 h3 g1).1 (fun t ht hW => ?_) hR.2.2.2.2.2.2.1.2.2 hd hlocks
      exact ⟨⟨y, ((1, some (.inl a), (S.1.1, S.1.2.1, S.1.2.2.1, 0, 0)), z, ws), rfl, ⟨⟨h6, rfl, hR.2.2.2.2.2.2.2.2, hR.1, hR.2.1, hR.2.2.1, hR.2.2.2.2.2.1, hR.2.2.2.2.2.2.2.1⟩, _, rfl, g1⟩, hR.2.2.2.1.moved hW.alike, by rw [ht]; exact hR.2.2.2.2.1⟩, hR.2.2.2.2.2.2.1.F ht⟩
  · rw [h2] at hs
    cases cst with
    | cons _ _ => simp at hs
    | nil =>
      have hd : decode cc S.2.1 = .ok (.return_, 1) := htv
      refine W.widen h4 h5 ?_
      refine W.vret C.1 C.2.1 hr (fun t ht hW => ?_) hR.2.2.2.2.2.2.1.2.2 hd hlocks
      exact ⟨⟨((2, none, (S.1.1, S.1.2.1, S.1.2.2.1, 0, 0)), z, ws), rfl, ⟨h6, rfl, hR.2.2.2.2.2.2.2.2, hR.1, hR.2.1, hR.2.2.1, hR.2.2.2.2.2.1, hR.2.2.2.2.2.2.2.1⟩, hR.2.2.2.1.moved hW.alike, by rw [ht]; exact hR.2.2.2.2.1⟩, hR.2.2.2.2.2.2.1.F ht⟩
/-- a method's first state -/
theorem ab_first {env : ab_E} {nl : Nat} {aw : List ab_C} {as : List ab_V} {z : ab_Z} {ws : va_W} {vs : List Value} {maxL : Nat} (hE : ab_EX X D s s.heap) (hin : ab_inn X env nl z ws) (hs : as.map (ab_ev X z) = vs.map some) (hw : ab_wR X z s aw ws) (hP : va_P D vwCl ws s.heap) (hcs : ab_csum as ≤ maxL)
    (h : ab_ok p l e R s m args below meth c Q maxL X D z ((env, nl, aw, 0, 0), 0, ab_ent 0 as, [])) : W p l e R s m args below meth c s.heap [] 0 0 Q (entryFrame m vs.toArray maxL) := by
  have hz := hE.2.2.2.2.1
  have hlen : (lg_sl vs).length ≤ maxL := by rw [ab_sl_len, ab_csum_ok hz hs]; exact hcs
  have hlv := lv_entry vs (n := maxL) hlen
  rw [lg_entry_eq]
  generalize (lg_sl vs ++ List.replicate (maxL - (lg_sl vs).length) Slot.unset).toArray = ls at hlv ⊢
  refine h z ws s.heap [] ls [] ⟨hin.1, hin.2.1, hin.2.2.1, hw, hP, hin.2.2.2.1, va_S.rf, hin.2.2.2.2, ab_ext.rf⟩ ⟨hlv.1, hlv.2.1, fun q hq => ?_⟩ rfl
  obtain ⟨v, h1, h2⟩ := ab_ent_in hz hs q hq
  exact ⟨v, h1, hlv.2.2 _ h2⟩
end
/-- a table is sound in every place where the method can stand -/
def ab_ts (l : Launch) (X : ab_X) (D : va_G) (d : Nat) (ME : List ab_ME) (y : MethodName) (cc : ByteArray) (own : String) (maxL mc ms : Nat) (tab : ab_tab) (th : (Program → Env → Room → State → MethodId → Array Value → List Frame → Method → Code → (State → Prop) → Nat → Prop)) : Prop :=
  ∀ (cal : ab_K), ab_cal l X D d ME cal → ∀ (p : Program) (e : Env) (R : Room) (s : State) (m : MethodId) (args : Array Value) (below : List Frame) (meth : Method) (c : Code) (Q : State → Prop) (z0 : ab_Z), ab_cx p R s m args c cc own maxL X D → meth.name = y.name → 16 * (d + 1) ≤ R.frames → 200 * (d + 1) ≤ R.locals → mc ≤ R.cells → ms ≤ R.slots → ∀ b ∈ tab, ∀ q ∈ b, ab_tv p l e R s m args below meth c Q cc maxL X D z0 cal (th p e R s m args below meth c Q) q
theorem ab_meth0 {l : Launch} {X : ab_X} {D : va_G} {d : Nat} {ME : List ab_ME} {y : MethodName} {cc : ByteArray} {own : String} {maxL mc ms : Nat} {ret : Option FieldType} {hh : List (Nat × Nat × Nat × Nat)} {tab : ab_tab} (hyo : y.cls = own) (hy : plainName y.cls = true) (hT : ab_ts l X D d ME y cc own maxL mc ms tab (fun _ _ _ _ _ _ _ _ _ _ _ => False))
    {cal : ab_K} (hcal : ab_cal l X D d ME cal) {fuel : Nat} {env : ab_E} {nl : Nat} {aw : List ab_C} {as : List ab_V} {os : List (Nat × ab_S)} {outs : List ab_O} (hcs : ab_csum as ≤ maxL) (hrun : ab_run tab cal fuel [((env, nl, aw, 0, 0), 0, ab_ent 0 as, [])] [] = some os) (hfin : ab_fin ret mc ms os (fun L => some L) = some outs) : ab_ctr l X D (d + 1) (y, cc, maxL, ret, mc, ms, 0, hh, tab) env nl aw as outs := by
  intro z ws vs hin hs
  show Met l y (Cond.code y cc maxL ret :: ab_TG) (ab_rm (d + 1) mc ms) (ab_Pr X D aw z ws vs) (ab_Po X D z outs ret) mc ms (ab_Ar X)
  refine Met.ofW (cc := cc) (maxL := maxL) (ret := ret) hy rfl ?_
  intro p e s m args below meth c s₁ B hml hv
  obtain ⟨rfl, hE, hw, hP⟩ := hv
  have C : ab_cx p (headSpec (Cond.code y cc maxL ret :: ab_TG) (ab_rm (d + 1) mc ms)).room s m vs.toArray c cc own maxL X D := ⟨B.exec, B.bytes, hml, hyo ▸ findClass_of_methodNamed B.named, fun w hw => atoms_spec (ws := Cond.code y cc maxL ret :: ab_TG) B.pre w (List.mem_cons_of_mem _ hw), hE, by show 16 ≤ 16 * (d + 1); omega, by show 200 ≤ 200 * (d + 1); omega⟩
  have hTv := hT cal hcal p e (headSpec (Cond.code y cc maxL ret :: ab_TG) (ab_rm (d + 1) mc ms)).room s m vs.toArray below meth c (MQ below (ab_Po X D z outs ret) vs.toArray s mc ms (ab_Ar X)) z C (name_of_methodNamed B.named B.method).1 (Nat.le_refl _) (Nat.le_refl _) (Nat.le_refl _) (Nat.le_refl _)
  refine ab_first hE hin hs hw hP hcs ?_
  refine ab_run_ok hTv hrun (fun k pc S hS hpc hf => ?_) _ List.mem_cons_self
  subst hpc
  obtain ⟨f, b, hb1, hb2⟩ := hf
  have htv := hTv b hb1 _ hb2
  obtain ⟨L, h1, h2⟩ := ab_fin_ok hfin
  cases h1
  rcases h2 k S hS with g | g | ⟨rfl, -⟩
  · exact ab_stop C B.returns B.notSynchronized htv (Or.inl g)
  · exact ab_stop C B.returns B.notSynchronized htv (Or.inr g)
  · exact False.elim htv
end
section
/-! Object.<init>; whole rows copied. -/
def op_oi (np : Nat) : ab_P := fun _ env nl aw cl sl lv st => match st with
  | .inr (.inr r) :: st => bif ab_nn r && Nat.ble (ab_csum st) 8 then some [((env, nl, aw, cl, sl), np, lv, st)] else none
  | _ => none
/-- all of one row into another one of the same length -/
def op_ac (t np : Nat) : ab_P := fun _ env nl aw cl sl lv st => match st with
  | .inl n :: .inl dp :: .inr (.inr (2, jd)) :: .inl sp :: .inr (.inr (2, js)) :: st => (match ab_get aw js with
    | some (.inr (t1, n1, d1, o1)) => (match ab_get aw jd with
      | some (.inr (t2, n2, _, _)) => bif Nat.beq t t1 && Nat.beq t t2 && Nat.beq n1 n2 && Nat.ble n1 100000 && Nat.ble (ab_csum st) 8 then
          ab_ixK env n 100001 (fun q => bif Nat.beq q n1 then ab_ixK env dp 1 (fun _ => ab_ixK env sp 1 (fun _ => ab_setK aw jd (.inr (t1, n1, d1, o1)) (fun aw => some [((env, nl, aw, cl, sl), np, lv, st)]))) else none) else none
      | _ => none)
    | _ => none)
  | _ => none
section
variable {p : Program} {l : Launch} {e : Env} {R : Room} {s : State} {m : MethodId} {args : Array Value} {below : List Frame} {meth : Method} {c : Code} {Q : State → Prop} {cc : ByteArray} {own : String} {nL : Nat} {X : ab_X} {D : va_G} {z0 : ab_Z} {cal : ab_K} {pc : Nat}
theorem so_oi (C : ab_cx p R s m args c cc own nL X D) {i : Nat} (h1 : Cond.methodLink own i Lib.objectInit ∈ ab_TG) (h2 : Cond.instanceMethod Lib.objectInit ∈ ab_TG) (h3 : Cond.code Lib.objectInit ⟨#[0xb1]⟩ 1 none ∈ ab_TG) (d : decode cc pc = .ok (.invokespecial i, 3)) : ab_so p l e R s m args below meth c Q nL X D z0 cal pc (op_oi (pc + 3)) := by
  intro env nl aw cl sl lv st r hr hk z ws H locs ls cst hR hl hs
  dsimp only at hR hl hs
  unfold op_oi at hr
  split at hr
  · rename_i r0 st'
    cases hb : (ab_nn r0 && Nat.ble (ab_csum st') 8)
    · rw [hb] at hr; cases hr
    · rw [hb, cond_true] at hr
      cases hr
      rw [Bool.and_eq_true] at hb
      obtain ⟨x, r, rfl, g1, g2⟩ := ab_st1 hs
      obtain ⟨a, rfl⟩ := ab_nn_ref hb.1 g1
      have hcs := ab_csum_ok (ab_cxE C).2.2.2.2.1 g2
      have hb2 := Nat.le_of_ble_eq_true hb.2
      have hr8 := lv_room (m := m) (pc := pc) (ls := ls) (rest := .ref a :: r) (st := r) (by rw [hcs]; exact hb2)
      refine W.objInit (g := F0 m pc ls (.ref a :: r)) C.1 C.2.1 C.2.2.2.1 (C.2.2.2.2.1 _ h1) (C.2.2.2.2.1 _ h2) (C.2.2.2.2.1 _ h3) rfl (hl.1.trans C.2.2.1.symm) rfl d (by have := C.2.2.2.2.2.2.1; omega) (by have := C.2.2.2.2.2.2.2; omega) ?_
      exact hk _ List.mem_cons_self z ws H locs ls r hR hl g2
  · cases hr
theorem so_aci (C : ab_cx p R s m args c cc own nL X D) {i : Nat} (hw1 : Cond.methodLink own i arraycopyName ∈ ab_TG) (hw2 : Cond.native arraycopyName ∈ ab_TG) (hw3 : Cond.static arraycopyName ∈ ab_TG) (hw4 : Cond.initialized "java/lang/System" ∈ ab_TG) (d : decode cc pc = .ok (.invokestatic i, 3)) : ab_so p l e R s m args below meth c Q nL X D z0 cal pc (op_ac 0 (pc + 3)) := by
  intro env nl aw cl sl lv st r hr hk z ws H locs ls cst hR hl hs
  dsimp only at hR hl hs
  unfold op_ac at hr
  split at hr
  · rename_i n dp jd sp js st'
    rw [ab_get_eq] at hr
    split at hr
    · rename_i t1 n1 d1 o1 hjs
      rw [ab_get_eq] at hr
      split at hr
      · rename_i t2 n2 d2 o2 hjd
        cases hb : (Nat.beq 0 t1 && Nat.beq 0 t2 && Nat.beq n1 n2 && Nat.ble n1 100000 && Nat.ble (ab_csum st') 8)
        · rw [hb] at hr; cases hr
        · rw [hb, cond_true] at hr
          rw [Bool.and_eq_true, Bool.and_eq_true, Bool.and_eq_true, Bool.and_eq_true] at hb
          obtain ⟨⟨⟨⟨b1, b2⟩, b3⟩, b4⟩, b5⟩ := hb
          have e1 := Nat.eq_of_beq_eq_true b1
          have e2 := Nat.eq_of_beq_eq_true b2
          have e3 := Nat.eq_of_beq_eq_true b3
          subst e1 e2 e3
          obtain ⟨x1, r1, rfl, p1, q1⟩ := ab_st1 hs
          obtain ⟨y1, rfl, u1⟩ := ab_evi p1
          obtain ⟨x2, r2, rfl, p2, q2⟩ := ab_st1 q1
          obtain ⟨y2, rfl, u2⟩ := ab_evi p2
          obtain ⟨x3, r3, rfl, p3, q3⟩ := ab_st1 q2
          obtain ⟨a3, rfl, u3⟩ := ab_ref2 p3
          obtain ⟨x4, r4, rfl, p4, q4⟩ := ab_st1 q3
          obtain ⟨y4, rfl, u4⟩ := ab_evi p4
          obtain ⟨x5, r5, rfl, p5, q5⟩ := ab_st1 q4
          obtain ⟨a5, rfl, u5⟩ := ab_ref2 p5
          obtain ⟨k1, k2, k3⟩ := ab_ixK_ok hr hR.1 u1 (by decide)
          cases hb6 : Nat.beq y1.toNatClampNeg n1
          · rw [hb6] at k1; cases k1
          · rw [hb6, cond_true] at k1
            have e6 := Nat.eq_of_beq_eq_true hb6
            obtain ⟨k4, k5, k6⟩ := ab_ixK_ok k1 hR.1 u2 (by decide)
            obtain ⟨k7, k8, k9⟩ := ab_ixK_ok k4 hR.1 u4 (by decide)
            rw [ab_setK_eq] at k7
            cases k7
            have z2 : y2.toNatClampNeg = 0 := by omega
            have z4 : y4.toNatClampNeg = 0 := by omega
            obtain ⟨as, es, c1, c2, cA, xx, rfl, ⟨f, rfl⟩, c5, c6⟩ := hR.cell hjs
            cases Option.some.inj (c2.symm.trans u5)
            obtain ⟨ad, ed, c1', c2', cA', xx', rfl, ⟨g, rfl⟩, c5', c6'⟩ := hR.cell hjd
            cases Option.some.inj (c2'.symm.trans u3)
            have hcs := ab_csum_ok (ab_cxE C).2.2.2.2.1 q5
            have hb5 := Nat.le_of_ble_eq_true b5
            have hnw : nativeFrameWords "java/lang/System" "arraycopy" 5 ≤ 100 := by decide +kernel
            have hK2 : va_K D vwCl [(cA, .int), (cA', .int)] s := ((ab_cxE C).Kt c5).app ((ab_cxE C).Kt c5')
            refine va_copyi (cl := vwCl) (D := D) (tys := [(cA, .int), (cA', .int)]) (ty := .int) C.1 C.2.1 (C.2.2.1.trans hl.1.symm) C.2.2.2.1 (C.2.2.2.2.1 _ hw1) (C.2.2.2.2.1 _ hw2) (C.2.2.2.2.1 _ hw3) (C.2.2.2.2.1 _ hw4) hK2 hR.2.2.2.2.1 hR.2.2.2.2.2.1 hR.2.2.2.2.2.2.1 js jd 0 1 c1 c1' rfl rfl rfl (fun h => k9 (Or.inl h)) (fun h => k6 (Or.inl h)) (fun h => k3 (Or.inl h)) (by rw [z4, e6]; exact Nat.le_of_eq (Nat.zero_add _)) (by rw [z2, e6]; exact Nat.le_of_eq (Nat.zero_add _)) (fun _ _ => rfl) (by have := C.2.2.2.2.2.2.1; omega) (by have := C.2.2.2.2.2.2.2; rw [hcs]; omega) d (fun H1 locs1 g1 g2 g3 => ?_)
            refine hk _ List.mem_cons_self z _ H1 locs1 ls r5 (hR.set c1' (c := .inr (0, n1, d1, o1)) ⟨cA', _, rfl, ⟨_, rfl⟩, c5', fun j hj => ?_⟩ g1 g2 g3) hl q5
            have hj' : j < n1 := hj
            rw [c6 j hj]
            simp only [ab_cv, z2, z4, e6]
            rw [pk_cpy_in (Nat.zero_le _) (by omega)]
            simp
      · cases hr
    · cases hr
  · cases hr
theorem so_acl (C : ab_cx p R s m args c cc own nL X D) {i : Nat} (hw1 : Cond.methodLink own i arraycopyName ∈ ab_TG) (hw2 : Cond.native arraycopyName ∈ ab_TG) (hw3 : Cond.static arraycopyName ∈ ab_TG) (hw4 : Cond.initialized "java/lang/System" ∈ ab_TG) (d : decode cc pc = .ok (.invokestatic i, 3)) : ab_so p l e R s m args below meth c Q nL X D z0 cal pc (op_ac 1 (pc + 3)) := by
  intro env nl aw cl sl lv st r hr hk z ws H locs ls cst hR hl hs
  dsimp only at hR hl hs
  unfold op_ac at hr
  split at hr
  · rename_i n dp jd sp js st'
    rw [ab_get_eq] at hr
    split at hr
    · rename_i t1 n1 d1 o1 hjs
      rw [ab_get_eq] at hr
      split at hr
      · rename_i t2 n2 d2 o2 hjd
        cases hb : (Nat.beq 1 t1 && Nat.beq 1 t2 && Nat.beq n1 n2 && Nat.ble n1 100000 && Nat.ble (ab_csum st') 8)
        · rw [hb] at hr; cases hr
        · rw [hb, cond_true] at hr
          rw [Bool.and_eq_true, Bool.and_eq_true, Bool.and_eq_true, Bool.and_eq_true] at hb
          obtain ⟨⟨⟨⟨b1, b2⟩, b3⟩, b4⟩, b5⟩ := hb
          have e1 := Nat.eq_of_beq_eq_true b1
          have e2 := Nat.eq_of_beq_eq_true b2
          have e3 := Nat.eq_of_beq_eq_true b3
          subst e1 e2 e3
          obtain ⟨x1, r1, rfl, p1, q1⟩ := ab_st1 hs
          obtain ⟨y1, rfl, u1⟩ := ab_evi p1
          obtain ⟨x2, r2, rfl, p2, q2⟩ := ab_st1 q1
          obtain ⟨y2, rfl, u2⟩ := ab_evi p2
          obtain ⟨x3, r3, rfl, p3, q3⟩ := ab_st1 q2
          obtain ⟨a3, rfl, u3⟩ := ab_ref2 p3
          obtain ⟨x4, r4, rfl, p4, q4⟩ := ab_st1 q3
          obtain ⟨y4, rfl, u4⟩ := ab_evi p4
          obtain ⟨x5, r5, rfl, p5, q5⟩ := ab_st1 q4
          obtain ⟨a5, rfl, u5⟩ := ab_ref2 p5
          obtain ⟨k1, k2, k3⟩ := ab_ixK_ok hr hR.1 u1 (by decide)
          cases hb6 : Nat.beq y1.toNatClampNeg n1
          · rw [hb6] at k1; cases k1
          · rw [hb6, cond_true] at k1
            have e6 := Nat.eq_of_beq_eq_true hb6
            obtain ⟨k4, k5, k6⟩ := ab_ixK_ok k1 hR.1 u2 (by decide)
            obtain ⟨k7, k8, k9⟩ := ab_ixK_ok k4 hR.1 u4 (by decide)
            rw [ab_setK_eq] at k7
            cases k7
            have z2 : y2.toNatClampNeg = 0 := by omega
            have z4 : y4.toNatClampNeg = 0 := by omega
            obtain ⟨as, es, c1, c2, cA, xx, rfl, ⟨f, rfl⟩, c5, c6⟩ := hR.cell hjs
            cases Option.some.inj (c2.symm.trans u5)
            obtain ⟨ad, ed, c1', c2', cA', xx', rfl, ⟨g, rfl⟩, c5', c6'⟩ := hR.cell hjd
            cases Option.some.inj (c2'.symm.trans u3)
            have hcs := ab_csum_ok (ab_cxE C).2.2.2.2.1 q5
            have hb5 := Nat.le_of_ble_eq_true b5
            have hnw : nativeFrameWords "java/lang/System" "arraycopy" 5 ≤ 100 := by decide +kernel
            have hK2 : va_K D vwCl [(cA, .long), (cA', .long)] s := ((ab_cxE C).Kt c5).app ((ab_cxE C).Kt c5')
            refine va_copyl (cl := vwCl) (D := D) (tys := [(cA, .long), (cA', .long)]) (ty := .long) C.1 C.2.1 (C.2.2.1.trans hl.1.symm) C.2.2.2.1 (C.2.2.2.2.1 _ hw1) (C.2.2.2.2.1 _ hw2) (C.2.2.2.2.1 _ hw3) (C.2.2.2.2.1 _ hw4) hK2 hR.2.2.2.2.1 hR.2.2.2.2.2.1 hR.2.2.2.2.2.2.1 js jd 0 1 c1 c1' rfl rfl rfl (fun h => k9 (Or.inl h)) (fun h => k6 (Or.inl h)) (fun h => k3 (Or.inl h)) (by rw [z4, e6]; exact Nat.le_of_eq (Nat.zero_add _)) (by rw [z2, e6]; exact Nat.le_of_eq (Nat.zero_add _)) (fun _ _ => rfl) (by have := C.2.2.2.2.2.2.1; omega) (by have := C.2.2.2.2.2.2.2; rw [hcs]; omega) d (fun H1 locs1 g1 g2 g3 => ?_)
            refine hk _ List.mem_cons_self z _ H1 locs1 ls r5 (hR.set c1' (c := .inr (1, n1, d1, o1)) ⟨cA', _, rfl, ⟨_, rfl⟩, c5', fun j hj => ?_⟩ g1 g2 g3) hl q5
            have hj' : j < n1 := hj
            rw [c6 j hj]
            simp only [ab_cv, z2, z4, e6]
            rw [pk_cpy_in (Nat.zero_le _) (by omega)]
            simp
      · cases hr
    · cases hr
  · cases hr
end
end
section
/-! The throw of a NoSuchElementException whose constructor links its super at place 13. -/
def ab_nms : List String := ["java/lang/RuntimeException", "java/lang/Exception"]
abbrev ab_rx : ByteArray := prog_28_method_4_code
def ab_own0 : List Cond := Bundle.ownAtomsX "SundialTreaty" 135 ab_Nm 13 ab_rx ab_nms
theorem ab_rx0 : decode ab_rx 0 = .ok (.aload_n 0, 1) := by decide +kernel
theorem ab_rx1 : decode ab_rx 1 = .ok (.aload_n 1, 1) := by decide +kernel
theorem ab_rx2 : decode ab_rx 2 = .ok (.invokespecial 13, 3) := by decide +kernel
theorem ab_rx5 : decode ab_rx 5 = .ok (.return_, 1) := by decide +kernel
theorem ab_own_in : ∀ w ∈ ab_own0, w ∈ lw_tbl ∨ w = .isRef (.static Bundle.tN "UNASSIGNED_STACK" Bundle.steD) ∨ w = .isRef (.static Bundle.tN "SUPPRESSED_SENTINEL" Bundle.listD) := by decide +kernel
section
variable {p : Program} {l : Launch} {e : Env} {R : Room} {s : State} {m₀ : MethodId} {args : Array Value} {below : List Frame} {meth : Method} {c : Code} {W : State} {locs : List Loc} {cells slots : Nat}
set_option maxHeartbeats 4000000 in
theorem ab_ctorThrow (X : Stand p l e R s m₀ args below meth c W locs cells slots) (hexec : p.tables.exec = Jvm.exec) (htr : e.platform.stackTraces = false) (hown : s.vm.findClass "SundialTreaty" = some m₀.cls)
    (h : ∀ a ∈ ab_own0, a.before args s = true) (hlocs : ∀ x ∈ locs, ∀ cell, s.heap[x.base]? = some cell → cell.vm.isStatics = false)
    {a : Addr} {cX : ClassId} {kX : Class} (hfoundX : s.vm.findClass ab_Nm = some cX) (hkX : s.vm.classes[cX]? = some kX) (hcell : W.heap[a]? = some (freshCell cX kX)) (hnew : s.heap.size ≤ a) {msg : Value} (hmsg : msg.isRef = true)
    {g : JFrame} (hg : g.method = m₀) (hsize : g.locals.size = c.maxLocals) (hlocked : g.locked = none) (hentered : g.entered = []) {rest : List Value} (hstack : g.stack = msg :: .ref a :: .ref a :: rest)
    (hd6 : decode c.code g.pc = .ok (.invokespecial 135, 3)) (hd9 : decode c.code (g.pc + 3) = .ok (.athrow, 1)) (hout : ∀ x ∈ c.exceptionTable.toList, covers x (g.pc + 3) = false)
    (hRframes : 2 + 3 < R.frames) (hRlocals : 2 * g.monitorRoom + ((Value.ref a :: rest).map fun v => v.category).sum + (13 * (2 + 1) + 42) ≤ R.locals) (hlocks : meth.locks = false) :
    ∃ U : State, Steps p.tables e below (W.setTop g) U ∧ U.status = .running ∧ Ended U below (.threw a) ∧ s.WarmedH U.vm ∧ s.sameButNew ({ U with vm := s.vm } : State) locs cells slots ∧
      ∃ ce, U.heap[a]? = some ce ∧ ce.vm = .none ∧ s.vm.findClass ab_Nm = some ce.cls := by
  have howns : e.platform.frameOwnsMonitors = true := by rw [X.admits.platform]
  have hfin : e.platform.finalization = false := by rw [X.admits.platform]
  have hpl : e.platform.magicAccessors = ({} : Platform).magicAccessors := by rw [X.admits.platform]
  have hin : ∀ x, x ∈ Bundle.ownAtomsX "SundialTreaty" 135 ab_Nm 13 ab_rx ab_nms → x.before args s = true := h
  have a' : ∀ x, x ∈ Bundle.ownAtomsX "SundialTreaty" 135 ab_Nm 13 ab_rx ab_nms → x.holds args s none s [] = true := h
  obtain ⟨T, Z0, L, -, Y⟩ := ThrowableC.of_atoms (args := args) howns hfin hpl (fun x hx => hin x (by simp [Bundle.ownAtomsX, hx]))
  obtain ⟨Z, M, LZ, LM, hnZ⟩ := Init0T.ofS_atoms (args := args) hpl L Y (fun x hx => hin x (by simp [Bundle.ownAtomsX, hx]))
  obtain ⟨P1, Ps, hlen, L1, hL, hP1m, hlink1, hlink⟩ := Bundle.chainSX (args := args) hpl hnZ ab_rx0 ab_rx1 ab_rx2 ab_rx5 ab_nms ab_Nm (by decide +kernel) (by decide +kernel) (fun x hx => hin x (by simp [Bundle.ownAtomsX, hx]))
  have hfound : s.vm.findClass ab_Nm = some P1.m.cls := findClass_of_methodNamed hP1m
  cases Option.some.inj (hfoundX.symm.trans hfound)
  obtain ⟨c1, kX', hc1, hk, hord, -, -, hn6⟩ := Cond.instantiable_spec (a' (.instantiable ab_Nm 6) (by simp [Bundle.ownAtomsX]))
  cases Option.some.inj (hc1.symm.trans hfound)
  cases Option.some.inj (hkX.symm.trans hk)
  have hsel0 : selectMethod e.platform s.vm P1.m.cls T.fill0 = .method T.fill0 := by
    obtain ⟨c2, r2, m2, q1, q2, q3, q4, -⟩ := Cond.selects_spec (a' (.selects ab_Nm Bundle.tFill0 Bundle.tFill0) (by simp [Bundle.ownAtomsX]))
    cases Option.some.inj (q1.symm.trans hfound)
    cases Option.some.inj (q2.symm.trans (State.methodFound?_of_named Y.fill0 (by decide)))
    cases Option.some.inj (q3.symm.trans Y.fill0)
    rw [Launch.admits_selectMethod X.admits]; exact q4
  have hselF : selectMethod e.platform s.vm P1.m.cls T.fill = .method T.fill := by
    obtain ⟨c2, r2, m2, q1, q2, q3, q4, -⟩ := Cond.selects_spec (a' (.selects ab_Nm Bundle.tFill Bundle.tFill) (by simp [Bundle.ownAtomsX]))
    cases Option.some.inj (q1.symm.trans hfound)
    cases Option.some.inj (q2.symm.trans (State.methodFound?_of_named Y.fill (by decide)))
    cases Option.some.inj (q3.symm.trans Y.fill)
    rw [Launch.admits_selectMethod X.admits]; exact q4
  obtain ⟨cellS0, hcS0, hiss⟩ := Y.statics
  obtain ⟨u0, hu0⟩ := Cond.staticRefV Y.unassigned L.unassignedStatic L.statics hcS0 hiss (a' (.isRef (.static Bundle.tN "UNASSIGNED_STACK" Bundle.steD)) (by simp [Bundle.ownAtomsX]))
  obtain ⟨sen, hsen⟩ := Cond.staticRefV Y.sentinel L.sentinelStatic L.statics hcS0 hiss (a' (.isRef (.static Bundle.tN "SUPPRESSED_SENTINEL" Bundle.listD)) (by simp [Bundle.ownAtomsX]))
  obtain ⟨ci198, i198, fB, hk198, hg198, ha198, hsB, -, hnB, htB, hffB⟩ := Cond.ownField (t := .object "java/lang/Object") Y.found L.cls (by decide +kernel) (a' (.fieldLink Bundle.tN 198 Bundle.tN "backtrace" "Ljava/lang/Object;") (by simp [Bundle.ownAtomsX])) (a' (.lays Bundle.tN Bundle.tN "backtrace" "Ljava/lang/Object;") (by simp [Bundle.ownAtomsX])) e.platform hpl
  obtain ⟨cellS, hcS', heS, -, hkeep⟩ := X.same.2.2.2.2.2 T.aS cellS0 hcS0
  have hcellS : W.heap[T.aS]? = some cellS := hcS'
  have hout' : ∀ i, (⟨T.aS, i⟩ : Loc) ∉ locs := fun i hmem => by
    have := hlocs _ hmem cellS0 hcS0
    rw [hiss] at this; cases this
  have hknownS : cellS.vm ≠ .unknown := by
    rw [heS]; intro hu
    rw [show cellS0.vm = .unknown from hu] at hiss
    cases hiss
  have hneS : T.aS ≠ a := Nat.ne_of_lt (Nat.lt_of_lt_of_le (Array.getElem?_eq_some_iff.mp hcS0).1 hnew)
  obtain ⟨iM, hffM⟩ := Y.msg
  obtain ⟨tyC, dC, hdC, hdnC⟩ := Cond.laysAt hfound hk Y.cause (a' (.lays ab_Nm Bundle.tN "cause" "Ljava/lang/Throwable;") (by simp [Bundle.ownAtomsX]))
  obtain ⟨tyS, dS, hdS, hdnS⟩ := Cond.laysAt hfound hk Y.stack (a' (.lays ab_Nm Bundle.tN "stackTrace" Bundle.steD) (by simp [Bundle.ownAtomsX]))
  obtain ⟨tyP, dP, hdP, hdnP⟩ := Cond.laysAt hfound hk Y.supp (a' (.lays ab_Nm Bundle.tN "suppressedExceptions" Bundle.listD) (by simp [Bundle.ownAtomsX]))
  obtain ⟨tyM, dM, hdM, hdnM⟩ := Cond.laysAt hfound hk hffM (a' (.lays ab_Nm Bundle.tN "detailMessage" "Ljava/lang/String;") (by simp [Bundle.ownAtomsX]))
  obtain ⟨tyB, dB, hdB, hdnB⟩ := Cond.laysAt hfound hk hffB (a' (.lays ab_Nm Bundle.tN "backtrace" "Ljava/lang/Object;") (by simp [Bundle.ownAtomsX]))
  have bC := Cond.laysApart hdB hdC hdnB hdnC (by rw [hnB, Y.causeName]; decide)
  have bS := Cond.laysApart hdB hdS hdnB hdnS (by rw [hnB, Y.stackName]; decide)
  have bP := Cond.laysApart hdB hdP hdnB hdnP (by rw [hnB, Y.suppName]; decide)
  have hskip : SkipFacts T e.platform s (fun u => u) u0 ((preparedCellV T.toThrowableT (freshCell P1.m.cls kX) a u0 sen).withEntry W.cur) :=
    ⟨{ ci198 := ci198, i198 := i198, fBack := fB }, ⟨hk198, hg198, ha198, hsB⟩, by
      have := fresh_default (c := P1.m.cls) tyB
      rw [htB] at this
      simpa [preparedCellV, Cell.setSlot, Cell.withEntry, Array.getElem?_setIfInBounds, bC, bS, bP, bC.symm, bS.symm, bP.symm, defaultValue] using this, fun _ _ => rfl⟩
  obtain ⟨tm, methC, cdC, kC, vm₁, hnC, -, -, -, -, -, -, -, hW₁, st1⟩ := Steps.initColdS (tb := p.tables) (e := e) (below := below) (s := s) (U := W) X.here hexec X.warmed hpl hown (t := Bundle.initS ab_Nm) rfl rfl (Bundle.fit_spec (n := ab_Nm) (by decide +kernel)).2
    (a' (.methodLink "SundialTreaty" 135 (Bundle.initS ab_Nm)) (by simp [Bundle.ownAtomsX])) (hin (.instanceMethod (Bundle.initS ab_Nm)) (by simp [Bundle.ownAtomsX, Bundle.chainSAtomsX, ab_nms, Bundle.passSAtoms])) (bytes := ab_rx) (maxL := 2) (hin (.code (Bundle.initS ab_Nm) ab_rx 2 none) (by simp [Bundle.ownAtomsX, Bundle.chainSAtomsX, ab_nms, Bundle.passSAtoms]))
    (f := g) hg (a := a) (msg := msg) (rest := .ref a :: rest) hstack hd6
  cases Option.some.inj (hnC.symm.trans hP1m)
  have X₁ := X.noted hW₁
  have hlen2 : Ps.length = 2 := hlen
  obtain ⟨vm₂, X₂, st2⟩ := X₁.ctorMessageOffV hexec (g := { g with stack := .ref a :: rest }) hg hsize T L Z LZ M LM (P1 :: Ps)
    (fun P hP => by rcases List.mem_cons.mp hP with rfl | hP; exact L1; exact hL P hP) ⟨hlink1, hlink⟩ (u0 := u0) (sen := sen) (self := a) hmsg (cell := freshCell P1.m.cls kX) (cellS := cellS)
    hcell (fun _ => by simp) (by simp) rfl rfl hsel0 hselF hcellS hneS hknownS (by rw [hkeep _ (hout' _)]; exact hu0) (by rw [hkeep _ (hout' _)]; exact hsen)
    (Takes.of_laid hk hord tyC (by rw [Y.causeType]; rfl)) (Takes.of_laid hk hord tyS (by rw [Y.stackType]; exact fits_refV_array _ u0)) (Takes.of_laid hk hord tyP (by rw [Y.suppType]; exact fits_refV_object _ sen))
    (Takes.of_laid hk hord tyM (by rw [Y.msgType]; exact fits_refV_object _ ⟨msg, hmsg⟩)) Y.objLocals hskip htr [] hd6
    (by simp only [List.length_cons, hlen2]; omega) (by simp only [List.length_cons, hlen2]; exact hRlocals)
  obtain ⟨hwalk, hrun, hended, hWU, hsame⟩ := X₂.athrowLeaves hexec (g := { g with stack := .ref a :: rest, pc := g.pc + 3 }) hg hlocked hentered hout (a := a) (rest := rest) rfl hd9
  have hlt : a < ((W.setVm vm₁).setVm vm₂).heap.size := (Array.getElem?_eq_some_iff.mp hcell).1
  have hU := heapAt_setCell_self (s := (W.setVm vm₁).setVm vm₂) (plainBareV T.toThrowableT (freshCell P1.m.cls kX) a u0 sen msg) hlt
  refine ⟨_, st1 _ (fun acts => ?_), hrun, hended, hWU, hsame.weaken (fun y hy hlt' => ?_) (Nat.le_refl _) (Nat.le_refl _), _, hU, rfl, hfound⟩
  · rw [doInvoke_state]
    exact st2 _ hwalk
  · rcases List.mem_append.mp hy with h1 | h1
    · exact h1
    · exfalso
      have hb : y.base = a := by
        simp only [List.mem_cons, List.not_mem_nil, or_false] at h1
        rcases h1 with rfl | rfl | rfl | rfl | rfl <;> rfl
      rw [hb] at hlt'
      exact Nat.not_lt.mpr hnew hlt'
end
end
section
/-! Throws: the rows, a stop that throws, a contract. -/
def ab_thr (cc : ByteArray) (pc : Nat) : Prop := ∃ (ik is j : Nat) (tx : String), ab_str[j]? = some ("SundialTreaty", is, tx) ∧ Cond.classLink "SundialTreaty" ik ab_Nm ∈ ab_TG ∧ decode cc pc = .ok (.new ik, 3) ∧ decode cc (pc + 3) = .ok (.dup, 1) ∧
  ((decode cc (pc + 4) = .ok (.ldc is, 2) ∧ decode cc (pc + 6) = .ok (.invokespecial 135, 3) ∧ decode cc (pc + 9) = .ok (.athrow, 1)) ∨ (decode cc (pc + 4) = .ok (.ldc_w is, 3) ∧ decode cc (pc + 7) = .ok (.invokespecial 135, 3) ∧ decode cc (pc + 10) = .ok (.athrow, 1)))
def ab_thw : List Cond := ab_own0.filter vx_no
theorem ab_thw_good0 : ∀ w ∈ ab_thw.filter goodWord, w ∈ lw_tbl := by decide +kernel
theorem ab_thw_good : ∀ w ∈ ab_thw.filter goodWord, w ∈ ab_TG := fun w h => List.mem_filter.mpr ⟨ab_thw_good0 w h, (List.mem_filter.mp h).2⟩
theorem ab_thw_nest0 : ∀ w ∈ ab_thw.filter (fun w => !goodWord w), w ∈ lw_tbl ∧ ab_nest w = true := by decide +kernel
theorem ab_thw_nest : ∀ w ∈ ab_thw.filter (fun w => !goodWord w), w ∈ lw_tbl.filter ab_nest := fun w h => List.mem_filter.mpr (ab_thw_nest0 w h)
theorem ab_nest_tab {w : Cond} (h : ab_nest w = true) : w.onTables = true := by
  unfold ab_nest at h
  split at h
  · rfl
  · rfl
  · rfl
  · rfl
  · cases h
theorem ab_thw_ot : ∀ w ∈ ab_thw, vx_ot w = true := by decide +kernel
theorem ab_ini : Cond.initialized ab_Nm ∈ ab_TG := List.mem_filter.mpr ⟨by decide +kernel, by decide +kernel⟩
section
variable {p : Program} {l : Launch} {e : Env} {R : Room} {s : State} {m : MethodId} {args : Array Value} {below : List Frame} {meth : Method} {c : Code} {H : Heap} {locs : List Loc} {cells slots : Nat} {free : Addr → Prop} {ls : Array Slot} {rest : List Value} {Qc : Array Value → State → Outcome → State → Prop} {XC : String → State → State → Prop}
set_option maxHeartbeats 4000000 in
theorem ab_throwS {cc : ByteArray} {pc : Nat} (hexec : p.tables.exec = Jvm.exec) (hb : c.code = cc) (hl : l.stackTraces = false) {text : String} {ik is mc ms sa : Nat} {A : Nat → Prop}
    (hown : s.vm.findClass "SundialTreaty" = some m.cls)
    (hk : (Cond.classLink "SundialTreaty" ik ab_Nm).before args s = true) (hini : (Cond.initialized ab_Nm).before args s = true) (hstr : vk_R "SundialTreaty" is text sa s) (hat : ∀ w ∈ ab_thw, w.before args s = true)
    (hU : vx_Zq Bundle.tN "UNASSIGNED_STACK" Bundle.steD A s s.heap) (hN : vx_Zq Bundle.tN "SUPPRESSED_SENTINEL" Bundle.listD A s s.heap) (hS : va_S A s.heap H locs) (hsize : ls.size = c.maxLocals)
    (d0 : decode cc pc = .ok (.new ik, 3)) (d3 : decode cc (pc + 3) = .ok (.dup, 1)) (d4 : decode cc (pc + 4) = .ok (.ldc is, 2)) (d6 : decode cc (pc + 6) = .ok (.invokespecial 135, 3)) (d9 : decode cc (pc + 9) = .ok (.athrow, 1))
    (hout : ∀ x ∈ c.exceptionTable.toList, covers x (pc + 9) = false)
    (hRframes : 2 + 3 < R.frames) (hRlocals : (rest.map fun v => v.category).sum + (13 * (2 + 1) + 43) ≤ R.locals) (hRcells : cells + 1 ≤ R.cells) (hRslots : slots + 6 ≤ R.slots) (hlocks : meth.locks = false)
    (hx : ∀ t : State, s.vm.Alike t.vm → H.size ≤ t.heap.size → (∀ q : Nat, q < H.size → t.heap[q]? = H[q]?) → XC ab_Nm s t)
    (hf : ∀ z ∈ locs, free z.base) (hc : cells + 1 ≤ mc) (hs : slots + 6 ≤ ms) :
    W p l e R s m args below meth c H locs cells slots (vx_MQ below Qc XC args s mc ms free) (F0 m pc ls rest) := by
  intro T hT X
  have htr : e.platform.stackTraces = false := (show e.platform.stackTraces = l.stackTraces by rw [X.admits.platform]).trans hl
  have Y := vx_rebase X (R' := { frames := R.frames, locals := R.locals, cells := 1, slots := 6 }) (Nat.le_refl _) (Nat.le_refl _) hRcells hRslots
  obtain ⟨s', hA⟩ : ∃ z, z = (T.setVm s.vm).setFrames (.invoking m args :: below) := ⟨_, rfl⟩
  rw [← hA] at Y
  have hvm : s'.vm = s.vm := by rw [hA]; rfl
  have hhp : s'.heap = H := by rw [hA]; exact hT
  have hW0 : s.WarmedH s'.vm := by rw [hvm]; exact State.WarmedH.refl s
  have hat' : ∀ w ∈ ab_thw, w.before args s' = true := fun w hw => vx_ot_at hW0 hvm.symm (ab_thw_ot w hw) (hat w hw)
  have hk' : (Cond.classLink "SundialTreaty" ik ab_Nm).before args s' = true := vx_ot_at hW0 hvm.symm rfl hk
  have hini' : (Cond.initialized ab_Nm).before args s' = true := vx_ot_at hW0 hvm.symm rfl hini
  have hU' : vx_Zq Bundle.tN "UNASSIGNED_STACK" Bundle.steD A s' s'.heap := by rw [hhp]; exact vx_Zq.moved hW0.alike (hU.kept hS.2.1)
  have hN' : vx_Zq Bundle.tN "SUPPRESSED_SENTINEL" Bundle.listD A s' s'.heap := by rw [hhp]; exact vx_Zq.moved hW0.alike (hN.kept hS.2.1)
  have h : ∀ w ∈ ab_own0, w.before args s' = true := vx_own hat' (vx_isRefq hU'.1) (vx_isRefq hN'.1) hU'.2.word hN'.2.word
  have hown' : s'.vm.findClass "SundialTreaty" = some m.cls := by rw [hvm]; exact hown
  have hins : (Cond.instantiable ab_Nm 6).before args s' = true := h _ (by simp [ab_own0, Bundle.ownAtomsX])
  obtain ⟨vm₁, cX, kX, hfX, hkX, -, -, X₁, st1⟩ := Y.newCold hexec (own := "SundialTreaty") (C := ab_Nm) (index := ik) (n := 6) hown' hk' hins hini'
    (g := F0 m pc ls rest) rfl (by rw [hb]; exact d0) (Nat.le_refl _) (Nat.le_refl _)
  generalize hT1 : (T.setVm vm₁).pushCell { cls := cX, slots := kX.instanceTypes.map defaultValue, vm := .none } = T1 at X₁ st1
  have hcat : (Value.ref T.heap.size).category = 1 := rfl
  have hcellA : T1.heap[T.heap.size]? = some (freshCell cX kX) := by rw [← hT1]; exact State.heap_pushCell_size _ _
  have d3' : decode c.code (pc + 3) = .ok (.dup, 1) := by rw [hb]; exact d3
  have d4' : decode c.code (pc + 4) = .ok (.ldc is, 2) := by rw [hb]; exact d4
  have hstr' : vk_R "SundialTreaty" is text sa s' := vk_R.warm hW0 hstr
  obtain ⟨U, hsteps, hrun, hend, hW, hsame, ce, hce, hcv, hcl0⟩ := ab_ctorThrow X₁ hexec htr hown' h (fun x hx => nomatch hx) hfX hkX hcellA (by rw [hhp, hT]; exact Nat.le_refl _) (msg := .ref sa) rfl
    (g := { method := m, pc := pc + 6, locals := ls, stack := .ref sa :: .ref T.heap.size :: .ref T.heap.size :: rest, locked := none }) rfl hsize rfl rfl (rest := rest) rfl
    (by rw [hb]; exact d6) (by rw [hb]; exact d9) hout hRframes (by simp only [List.map_cons, List.sum_cons, hcat]; omega) hlocks
  obtain ⟨f1, f2⟩ := vx_frame hsame
  rw [hhp] at f1 f2
  have hWs : s.WarmedH U.vm := State.WarmedH.trans hW0 hW
  have hcl : s.vm.findClass ab_Nm = some ce.cls := by
    rw [hvm] at hcl0
    exact hcl0
  have hall : s.sameButNew ({ U with vm := s.vm } : State) locs mc ms := by
    subst hA
    obtain ⟨e1, e2⟩ := hsame
    rw [State.setFrames_setFrames] at e1
    have h2 : (T.setVm s.vm).sameButNew ({ U with vm := s.vm } : State) [] (0 + 1) (0 + 6) := ⟨e1, e2⟩
    have h3 := X.same.trans h2
    rw [List.append_nil] at h3
    exact h3.mono hc hs
  refine ⟨U, ?_, .threw T.heap.size, hrun, hend, Or.inr ⟨T.heap.size, rfl, ab_Nm, ce, locs, hx U hWs.alike f1 (fun q hq => f2 q hq (fun z hz => nomatch hz)), hce, hcv, hcl, hWs, hall, hf⟩⟩
  refine st1 _ ?_
  show Steps p.tables e below (T1.setTop { method := m, pc := pc + 3, locals := ls, stack := .ref T.heap.size :: rest, locked := none }) _
  jvm_step X₁.here [X₁.here.top, hexec, d3', Value.category]
  exact X₁.ldcString hexec (own := "SundialTreaty") (text := text) (index := is) (a := sa) hown' hstr'.1 hstr'.2
    (g := { method := m, pc := pc + 4, locals := ls, stack := .ref T.heap.size :: .ref T.heap.size :: rest, locked := none }) rfl d4' _ hsteps
set_option maxHeartbeats 4000000 in
theorem ab_throwSW {cc : ByteArray} {pc : Nat} (hexec : p.tables.exec = Jvm.exec) (hb : c.code = cc) (hl : l.stackTraces = false) {text : String} {ik is mc ms sa : Nat} {A : Nat → Prop}
    (hown : s.vm.findClass "SundialTreaty" = some m.cls)
    (hk : (Cond.classLink "SundialTreaty" ik ab_Nm).before args s = true) (hini : (Cond.initialized ab_Nm).before args s = true) (hstr : vk_R "SundialTreaty" is text sa s) (hat : ∀ w ∈ ab_thw, w.before args s = true)
    (hU : vx_Zq Bundle.tN "UNASSIGNED_STACK" Bundle.steD A s s.heap) (hN : vx_Zq Bundle.tN "SUPPRESSED_SENTINEL" Bundle.listD A s s.heap) (hS : va_S A s.heap H locs) (hsize : ls.size = c.maxLocals)
    (d0 : decode cc pc = .ok (.new ik, 3)) (d3 : decode cc (pc + 3) = .ok (.dup, 1)) (d4 : decode cc (pc + 4) = .ok (.ldc_w is, 3)) (d6 : decode cc (pc + 7) = .ok (.invokespecial 135, 3)) (d9 : decode cc (pc + 10) = .ok (.athrow, 1))
    (hout : ∀ x ∈ c.exceptionTable.toList, covers x (pc + 10) = false)
    (hRframes : 2 + 3 < R.frames) (hRlocals : (rest.map fun v => v.category).sum + (13 * (2 + 1) + 43) ≤ R.locals) (hRcells : cells + 1 ≤ R.cells) (hRslots : slots + 6 ≤ R.slots) (hlocks : meth.locks = false)
    (hx : ∀ t : State, s.vm.Alike t.vm → H.size ≤ t.heap.size → (∀ q : Nat, q < H.size → t.heap[q]? = H[q]?) → XC ab_Nm s t)
    (hf : ∀ z ∈ locs, free z.base) (hc : cells + 1 ≤ mc) (hs : slots + 6 ≤ ms) :
    W p l e R s m args below meth c H locs cells slots (vx_MQ below Qc XC args s mc ms free) (F0 m pc ls rest) := by
  intro T hT X
  have htr : e.platform.stackTraces = false := (show e.platform.stackTraces = l.stackTraces by rw [X.admits.platform]).trans hl
  have Y := vx_rebase X (R' := { frames := R.frames, locals := R.locals, cells := 1, slots := 6 }) (Nat.le_refl _) (Nat.le_refl _) hRcells hRslots
  obtain ⟨s', hA⟩ : ∃ z, z = (T.setVm s.vm).setFrames (.invoking m args :: below) := ⟨_, rfl⟩
  rw [← hA] at Y
  have hvm : s'.vm = s.vm := by rw [hA]; rfl
  have hhp : s'.heap = H := by rw [hA]; exact hT
  have hW0 : s.WarmedH s'.vm := by rw [hvm]; exact State.WarmedH.refl s
  have hat' : ∀ w ∈ ab_thw, w.before args s' = true := fun w hw => vx_ot_at hW0 hvm.symm (ab_thw_ot w hw) (hat w hw)
  have hk' : (Cond.classLink "SundialTreaty" ik ab_Nm).before args s' = true := vx_ot_at hW0 hvm.symm rfl hk
  have hini' : (Cond.initialized ab_Nm).before args s' = true := vx_ot_at hW0 hvm.symm rfl hini
  have hU' : vx_Zq Bundle.tN "UNASSIGNED_STACK" Bundle.steD A s' s'.heap := by rw [hhp]; exact vx_Zq.moved hW0.alike (hU.kept hS.2.1)
  have hN' : vx_Zq Bundle.tN "SUPPRESSED_SENTINEL" Bundle.listD A s' s'.heap := by rw [hhp]; exact vx_Zq.moved hW0.alike (hN.kept hS.2.1)
  have h : ∀ w ∈ ab_own0, w.before args s' = true := vx_own hat' (vx_isRefq hU'.1) (vx_isRefq hN'.1) hU'.2.word hN'.2.word
  have hown' : s'.vm.findClass "SundialTreaty" = some m.cls := by rw [hvm]; exact hown
  have hins : (Cond.instantiable ab_Nm 6).before args s' = true := h _ (by simp [ab_own0, Bundle.ownAtomsX])
  obtain ⟨vm₁, cX, kX, hfX, hkX, -, -, X₁, st1⟩ := Y.newCold hexec (own := "SundialTreaty") (C := ab_Nm) (index := ik) (n := 6) hown' hk' hins hini'
    (g := F0 m pc ls rest) rfl (by rw [hb]; exact d0) (Nat.le_refl _) (Nat.le_refl _)
  generalize hT1 : (T.setVm vm₁).pushCell { cls := cX, slots := kX.instanceTypes.map defaultValue, vm := .none } = T1 at X₁ st1
  have hcat : (Value.ref T.heap.size).category = 1 := rfl
  have hcellA : T1.heap[T.heap.size]? = some (freshCell cX kX) := by rw [← hT1]; exact State.heap_pushCell_size _ _
  have d3' : decode c.code (pc + 3) = .ok (.dup, 1) := by rw [hb]; exact d3
  have d4' : decode c.code (pc + 4) = .ok (.ldc_w is, 3) := by rw [hb]; exact d4
  have hstr' : vk_R "SundialTreaty" is text sa s' := vk_R.warm hW0 hstr
  obtain ⟨U, hsteps, hrun, hend, hW, hsame, ce, hce, hcv, hcl0⟩ := ab_ctorThrow X₁ hexec htr hown' h (fun x hx => nomatch hx) hfX hkX hcellA (by rw [hhp, hT]; exact Nat.le_refl _) (msg := .ref sa) rfl
    (g := { method := m, pc := pc + 7, locals := ls, stack := .ref sa :: .ref T.heap.size :: .ref T.heap.size :: rest, locked := none }) rfl hsize rfl rfl (rest := rest) rfl
    (by rw [hb]; exact d6) (by rw [hb]; exact d9) hout hRframes (by simp only [List.map_cons, List.sum_cons, hcat]; omega) hlocks
  obtain ⟨f1, f2⟩ := vx_frame hsame
  rw [hhp] at f1 f2
  have hWs : s.WarmedH U.vm := State.WarmedH.trans hW0 hW
  have hcl : s.vm.findClass ab_Nm = some ce.cls := by
    rw [hvm] at hcl0
    exact hcl0
  have hall : s.sameButNew ({ U with vm := s.vm } : State) locs mc ms := by
    subst hA
    obtain ⟨e1, e2⟩ := hsame
    rw [State.setFrames_setFrames] at e1
    have h2 : (T.setVm s.vm).sameButNew ({ U with vm := s.vm } : State) [] (0 + 1) (0 + 6) := ⟨e1, e2⟩
    have h3 := X.same.trans h2
    rw [List.append_nil] at h3
    exact h3.mono hc hs
  refine ⟨U, ?_, .threw T.heap.size, hrun, hend, Or.inr ⟨T.heap.size, rfl, ab_Nm, ce, locs, hx U hWs.alike f1 (fun q hq => f2 q hq (fun z hz => nomatch hz)), hce, hcv, hcl, hWs, hall, hf⟩⟩
  refine st1 _ ?_
  show Steps p.tables e below (T1.setTop { method := m, pc := pc + 3, locals := ls, stack := .ref T.heap.size :: rest, locked := none }) _
  jvm_step X₁.here [X₁.here.top, hexec, d3', Value.category]
  exact X₁.ldcStringW hexec (own := "SundialTreaty") (text := text) (index := is) (a := sa) hown' hstr'.1 hstr'.2
    (g := { method := m, pc := pc + 4, locals := ls, stack := .ref T.heap.size :: .ref T.heap.size :: rest, locked := none }) rfl d4' _ hsteps
end
section
variable {p : Program} {l : Launch} {e : Env} {R : Room} {s : State} {m : MethodId} {args : Array Value} {below : List Frame} {meth : Method} {c : Code} {Q : State → Prop} {cc : ByteArray} {own : String} {nL : Nat} {X : ab_X} {D : va_G} {z0 : ab_Z} {cal : ab_K} {pc : Nat}
theorem ab_thw_at (C : ab_cx p R s m args c cc own nL X D) : ∀ w ∈ ab_thw, w.before args s = true := by
  refine vx_hat (B := lw_tbl.filter ab_nest) (fun w h => C.2.2.2.2.1 w (ab_thw_good w h)) ab_thw_nest (fun w h => ?_)
  obtain ⟨h1, h2⟩ := List.mem_filter.mp h
  exact va_Nw.use (ab_nest_tab h2) ((ab_cxE C).2.2.1 w h1 h2)
/-- a stop that throws -/
theorem ab_stopX (C : ab_cx p R s m args c cc own nL X D) (hst : l.stackTraces = false) (hown : own = "SundialTreaty") (hout : ∀ x ∈ c.exceptionTable.toList, False) (hlocks : meth.locks = false) {Qc : Array Value → State → Outcome → State → Prop} {mc ms : Nat} (hmc : mc ≤ R.cells) (hms : ms ≤ R.slots) {outs : List ab_O} {S : ab_S} (hth : ab_thr cc S.2.1)
    (h2 : S.2.2.2 = []) (h3 : S.1.2.2.2.1 + 1 ≤ mc) (h4 : S.1.2.2.2.2 + 6 ≤ ms) (h5 : (3, none, (S.1.1, S.1.2.1, S.1.2.2.1, 0, 0)) ∈ outs) :
    ab_ok p l e R s m args below meth c (vx_MQ below Qc (ab_Xo X D z0 outs) args s mc ms (ab_Ar X)) nL X D z0 S := by
  intro z ws H locs ls cst hR hl hs
  rw [h2] at hs
  cases cst with
  | cons _ _ => simp at hs
  | nil =>
    subst hown
    obtain ⟨ik, is, j, tx, t1, t2, t3, t4, t5⟩ := hth
    have hE := ab_cxE C
    have hx : ∀ t : State, s.vm.Alike t.vm → H.size ≤ t.heap.size → (∀ q : Nat, q < H.size → t.heap[q]? = H[q]?) → ab_Xo X D z0 outs ab_Nm s t := by
      intro t ha hz hq
      refine ⟨((3, none, (S.1.1, S.1.2.1, S.1.2.2.1, 0, 0)), z, ws), ⟨h5, rfl, hR.2.2.2.2.2.2.2.2, hR.1, hR.2.1, hR.2.2.1, hR.2.2.2.2.2.1, hR.2.2.2.2.2.2.2.1⟩, ⟨rfl, hR.2.2.2.1.moved ha, hR.2.2.2.2.1.kept (fun k q hk => hq _ (vx_lt hR.2.2.2.2.1 hk))⟩, Nat.le_trans hR.2.2.2.2.2.2.1.1 hz, fun q h1 h2 => ?_⟩
      rw [hq q (Nat.lt_of_lt_of_le h1 hR.2.2.2.2.2.2.1.1)]
      exact hR.2.2.2.2.2.2.1.2.1 q h1 h2
    have hfr := C.2.2.2.2.2.2.1
    have hlo := C.2.2.2.2.2.2.2
    rcases t5 with ⟨t5, t6, t7⟩ | ⟨t5, t6, t7⟩
    · exact ab_throwS (A := ab_Ar X) C.1 C.2.1 hst C.2.2.2.1 (C.2.2.2.2.1 _ t2) (C.2.2.2.2.1 _ ab_ini) (hE.2.2.2.2.2.1 j _ t1) (ab_thw_at C) hE.2.2.2.2.2.2.2.2.2.2.2.1 hE.2.2.2.2.2.2.2.2.2.2.2.2.1 hR.2.2.2.2.2.2.1 (hl.1.trans C.2.2.1.symm) t3 t4 t5 t6 t7 (fun x hx => (hout x hx).elim) (by show 2 + 3 < _; omega) (by show 0 + (13 * (2 + 1) + 43) ≤ _; omega) (Nat.le_trans h3 hmc) (Nat.le_trans h4 hms) hlocks hx hR.2.2.2.2.2.2.1.2.2 h3 h4
    · exact ab_throwSW (A := ab_Ar X) C.1 C.2.1 hst C.2.2.2.1 (C.2.2.2.2.1 _ t2) (C.2.2.2.2.1 _ ab_ini) (hE.2.2.2.2.2.1 j _ t1) (ab_thw_at C) hE.2.2.2.2.2.2.2.2.2.2.2.1 hE.2.2.2.2.2.2.2.2.2.2.2.2.1 hR.2.2.2.2.2.2.1 (hl.1.trans C.2.2.1.symm) t3 t4 t5 t6 t7 (fun x hx => (hout x hx).elim) (by show 2 + 3 < _; omega) (by show 0 + (13 * (2 + 1) + 43) ≤ _; omega) (Nat.le_trans h3 hmc) (Nat.le_trans h4 hms) hlocks hx hR.2.2.2.2.2.2.1.2.2 h3 h4
end
theorem ab_meth1 {l : Launch} (hst : l.stackTraces = false) {X : ab_X} {D : va_G} {d : Nat} {ME : List ab_ME} {y : MethodName} {cc : ByteArray} {maxL mc ms : Nat} {ret : Option FieldType} {hh : List (Nat × Nat × Nat × Nat)} {tab : ab_tab} (hyo : y.cls = "SundialTreaty") (hy : plainName y.cls = true) (hT : ab_ts l X D d ME y cc "SundialTreaty" maxL mc ms tab (fun _ _ _ _ _ _ _ _ _ _ pc => ab_thr cc pc))
    {cal : ab_K} (hcal : ab_cal l X D d ME cal) {fuel : Nat} {env : ab_E} {nl : Nat} {aw : List ab_C} {as : List ab_V} {os : List (Nat × ab_S)} {outs : List ab_O} (hcs : ab_csum as ≤ maxL) (hrun : ab_run tab cal fuel [((env, nl, aw, 0, 0), 0, ab_ent 0 as, [])] [] = some os) (hfin : ab_fin ret mc ms os (fun L => some L) = some outs) : ab_ctr l X D (d + 1) (y, cc, maxL, ret, mc, ms, 1, hh, tab) env nl aw as outs := by
  intro z ws vs hin hs
  show vx_Met l y (Cond.code y cc maxL ret :: ab_TG) (ab_rm (d + 1) mc ms) (ab_Pr X D aw z ws vs) (ab_Po X D z outs ret) (ab_Xo X D z outs) mc ms (ab_Ar X)
  refine vx_ofW (cc := cc) (maxL := maxL) (ret := ret) hy rfl ?_
  intro p e s m args below meth c s₁ B hml hout hv
  obtain ⟨rfl, hE, hw, hP⟩ := hv
  have C : ab_cx p (headSpec (Cond.code y cc maxL ret :: ab_TG) (ab_rm (d + 1) mc ms)).room s m vs.toArray c cc "SundialTreaty" maxL X D := ⟨B.exec, B.bytes, hml, hyo ▸ findClass_of_methodNamed B.named, fun w hw => atoms_spec (ws := Cond.code y cc maxL ret :: ab_TG) B.pre w (List.mem_cons_of_mem _ hw), hE, by show 16 ≤ 16 * (d + 1); omega, by show 200 ≤ 200 * (d + 1); omega⟩
  have hTv := hT cal hcal p e (headSpec (Cond.code y cc maxL ret :: ab_TG) (ab_rm (d + 1) mc ms)).room s m vs.toArray below meth c (vx_MQ below (ab_Po X D z outs ret) (ab_Xo X D z outs) vs.toArray s mc ms (ab_Ar X)) z C (name_of_methodNamed B.named B.method).1 (Nat.le_refl _) (Nat.le_refl _) (Nat.le_refl _) (Nat.le_refl _)
  refine ab_first hE hin hs hw hP hcs ?_
  refine ab_run_ok hTv hrun (fun k pc S hS hpc hf => ?_) _ List.mem_cons_self
  subst hpc
  obtain ⟨f, b, hb1, hb2⟩ := hf
  have htv := hTv b hb1 _ hb2
  obtain ⟨L, h1, h2⟩ := ab_fin_ok hfin
  cases h1
  rcases h2 k S hS with ⟨rfl, g⟩ | ⟨rfl, g⟩ | ⟨rfl, g1, g2, g3, g4⟩
  · intro z1 ws1 H1 locs1 ls1 cst1 hR1 hl1 hs1
    exact vx_ret (ab_stop (cal := cal) (th := fun _ => False) (k := 1) (f := f) C B.returns B.notSynchronized htv (Or.inl ⟨rfl, g⟩) z1 ws1 H1 locs1 ls1 cst1 hR1 hl1 hs1)
  · intro z1 ws1 H1 locs1 ls1 cst1 hR1 hl1 hs1
    exact vx_ret (ab_stop (cal := cal) (th := fun _ => False) (k := 2) (f := f) C B.returns B.notSynchronized htv (Or.inr ⟨rfl, g⟩) z1 ws1 H1 locs1 ls1 cst1 hR1 hl1 hs1)
  · exact ab_stopX C hst rfl hout B.notSynchronized (Nat.le_refl _) (Nat.le_refl _) htv g1 g2 g3 g4
end
section
/-! Calls whose throw is caught; contracts of catchers; all contracts by induction on the depth. -/
theorem ab_lR.drop1 {X : ab_X} {z : ab_Z} {nL i : Nat} {ls' : Array Slot} {lv : List (Nat × ab_V)} {lc : List (Nat × Value)} {x : Value} (hz : X.2.2.2.2.2.category = 1) (hlc : ∀ q ∈ lv, ∃ v, ab_ev X z q.2 = some v ∧ (q.1, v) ∈ lc)
    (h : lv_has ls' nL ((i, x) :: lc.filter (fun q => !(q.1 == i) && !(q.1 + 1 == i && q.2.category == 2)))) : ab_lR X z nL ls' (lv.filter (ab_kp false i)) := by
  refine ⟨h.1, h.2.1, fun q hq => ?_⟩
  obtain ⟨h1, h2⟩ := List.mem_filter.mp hq
  obtain ⟨w, g1, g2⟩ := hlc q h1
  refine ⟨w, g1, h.2.2 (q.1, w) (List.mem_cons_of_mem _ (List.mem_filter.mpr ⟨g2, ?_⟩))⟩
  have hc := ab_cat hz g1
  simp only [ab_kp, Bool.and_eq_true, Bool.not_eq_true', Bool.and_eq_false_iff] at h2
  obtain ⟨⟨a1, a2⟩, -⟩ := h2
  have b1 : (q.1 == i) = false := (ab_bq _ _).trans a1
  have b2 : (q.1 + 1 == i && w.category == 2) = false := by
    rcases a2 with a2 | a2
    · rw [a2] at hc
      rw [show w.category = 1 from hc]; simp
    · rw [show (q.1 + 1 == i) = false from (ab_bq _ _).trans a2]; rfl
  simp only [b1, b2]; rfl
def ab_reXK (np hp cl sl : Nat) (lv lv' : List (Nat × ab_V)) (rest : List ab_V) : List ab_O → (List ab_S → ab_A) → ab_A
  | [], k => k []
  | (n, v, (env, nl, aw, _, _)) :: r, k => match n with
    | 1 => (match v with
      | some v => ab_reXK np hp cl sl lv lv' rest r (fun L => k (((env, nl, aw, cl, sl), np, lv, v :: rest) :: L))
      | none => none)
    | 3 => ab_reXK np hp cl sl lv lv' rest r (fun L => k (((env, nl, aw, cl, sl), hp, lv', []) :: L))
    | _ => none
theorem ab_reXK_ok {np hp cl sl : Nat} {lv lv' : List (Nat × ab_V)} {rest : List ab_V} : ∀ {outs : List ab_O} {k : List ab_S → ab_A} {r : List ab_S}, ab_reXK np hp cl sl lv lv' rest outs k = some r → ∃ L, k L = some r ∧ (∀ o ∈ outs, ∀ v, o.1 = 1 → o.2.1 = some v → ((o.2.2.1, o.2.2.2.1, o.2.2.2.2.1, cl, sl), np, lv, v :: rest) ∈ L) ∧ ∀ o ∈ outs, o.1 = 3 → ((o.2.2.1, o.2.2.2.1, o.2.2.2.2.1, cl, sl), hp, lv', []) ∈ L
  | [], k, r, h => ⟨[], h, fun o ho => (by cases ho), fun o ho => (by cases ho)⟩
  | (n, v, (env, nl, aw, c0, s0)) :: r0, k, r, h => by
    simp only [ab_reXK] at h
    split at h
    · split at h
      · rename_i v0
        obtain ⟨L, h1, h2, h3⟩ := ab_reXK_ok h
        refine ⟨_, h1, fun o ho v' e1 e2 => ?_, fun o ho e1 => ?_⟩
        · rcases List.mem_cons.mp ho with rfl | ho
          · cases e2; exact List.mem_cons_self
          · exact List.mem_cons_of_mem _ (h2 o ho v' e1 e2)
        · rcases List.mem_cons.mp ho with rfl | ho
          · cases e1
          · exact List.mem_cons_of_mem _ (h3 o ho e1)
      · cases h
    · obtain ⟨L, h1, h2, h3⟩ := ab_reXK_ok h
      refine ⟨_, h1, fun o ho v' e1 e2 => ?_, fun o ho e1 => ?_⟩
      · rcases List.mem_cons.mp ho with rfl | ho
        · cases e1
        · exact List.mem_cons_of_mem _ (h2 o ho v' e1 e2)
      · rcases List.mem_cons.mp ho with rfl | ho
        · exact List.mem_cons_self
        · exact List.mem_cons_of_mem _ (h3 o ho e1)
    · cases h
def op_callx (rc mid na mc ms mcR msR np hi hp : Nat) : ab_P := fun cal env nl aw cl sl lv st => ab_splK na st [] (fun as rest =>
  bif ab_chk rc as aw && Nat.ble (ab_csum rest) 8 && Nat.ble (cl + mc) mcR && Nat.ble (sl + ms) msR then (match cal mid (env, nl, aw, 0, 0) as with
    | none => none
    | some outs => ab_fn (cl + mc) (fun cl => ab_fn (sl + ms) (fun sl => ab_flK false hi lv (fun lv' => ab_reXK np hp cl sl lv lv' rest outs (fun L => some L))))) else none)
section
variable {p : Program} {l : Launch} {e : Env} {R : Room} {s : State} {m : MethodId} {args : Array Value} {below : List Frame} {meth : Method} {c : Code} {Q : State → Prop} {cc : ByteArray} {own : String} {nL : Nat} {X : ab_X} {D : va_G} {z0 : ab_Z} {cal : ab_K} {pc : Nat}
variable {d : Nat} {ME : List ab_ME} {y : MethodName} {cc' : ByteArray} {maxL : Nat} {mc ms mcR msR mid na i : Nat} {hh : List (Nat × Nat × Nat × Nat)} {tab : ab_tab}
theorem so_callx (C : ab_cx p R s m args c cc own nL X D) (K : ab_cal l X D d ME cal) {ty : FieldType} (hmi : ME[mid]? = some (y, cc', maxL, some ty, mc, ms, 1, hh, tab)) (hmR : mcR ≤ R.cells) (hsR : msR ≤ R.slots) (hd1 : 16 * (d + 1) ≤ R.frames) (hd2 : 200 * (d + 1) ≤ R.locals) (hmx : maxL ≤ 150) {np : Nat} (hyd : y.cls ≠ "java/lang/invoke/MethodHandle" ∧ y.cls ≠ "java/lang/invoke/VarHandle" ∧ (parseMethodDescriptor y.desc).map (fun d => d.parameters.length) = some np) (hcode : Cond.code y cc' maxL (some ty) ∈ ab_TG) {ci N : Nat} {cn : String} {T : u_T} (hc : vwCl[ci]? = some (cn, T, N)) (hcn : y.cls = cn) (hnp : np + 1 = na) (hl1 : Cond.methodLink own i y ∈ ab_TG) (hl2 : Cond.instanceMethod y ∈ ab_TG) (hl3 : Cond.selects cn y y ∈ ab_TG) (hl4 : Cond.initialized cn ∈ ab_TG) (dd : decode cc pc = .ok (.invokevirtual i, 3))
    {eP hP ct hi hp : Nat} (htab : c.exceptionTable.toList = tableOf [(0, eP, hP, ct)]) (hcov : covers ⟨0, eP, hP, ct⟩ pc = true) (hct : ct ≠ 0) (hlk : Cond.classLink own ct ab_Nm ∈ ab_TG) (hcs : Cond.castable ab_Nm ab_Nm ∈ lw_tbl) (hhi : hi < nL)
    (dh : (decode cc hP = .ok (.astore hi, 2) ∧ hP + 2 = hp) ∨ (∃ k : Fin 4, (k : Nat) = hi ∧ decode cc hP = .ok (.astore_n k, 1) ∧ hP + 1 = hp)) : ab_so p l e R s m args below meth c Q nL X D z0 cal pc (op_callx (ci + 2) mid na mc ms mcR msR (pc + 3) hi hp) := by
  intro env nl aw cl sl lv st r hr hk z ws H locs ls cst hR hl hs
  dsimp only at hR hl hs
  unfold op_callx at hr
  obtain ⟨as, rest, cas, crest, q1, q2, q3, q4, q5⟩ := ab_splK_ok (cacc := []) hr hs rfl
  cases hb : (ab_chk (ci + 2) as aw && Nat.ble (ab_csum rest) 8 && Nat.ble (cl + mc) mcR && Nat.ble (sl + ms) msR)
  · rw [hb] at q1; cases q1
  · rw [hb, cond_true] at q1
    rw [Bool.and_eq_true, Bool.and_eq_true, Bool.and_eq_true] at hb
    obtain ⟨⟨⟨b1, b2⟩, b3⟩, b4⟩ := hb
    split at q1
    · cases q1
    · rename_i outs ho
      rw [ab_fn_eq, ab_fn_eq, ab_flK_eq] at q1
      obtain ⟨L, l1, l2, l3⟩ := ab_reXK_ok q1
      cases l1
      have hzc := (ab_cxE C).2.2.2.2.1
      have hcs2 := ab_csum_ok hzc q4
      have hct' := K mid _ hmi env nl aw as outs ho
      obtain ⟨b, cr, rfl, hcell⟩ := ab_recv (ab_cxE C) hR hc b1 q3
      have hlen : cr.length + 1 = na := by
        have h9 := ab_map_len q3
        rw [q5] at h9
        simpa using h9.symm
      have hM : vx_Met l y (Cond.code y cc' maxL (some ty) :: ab_TG) (ab_rm d mc ms) (ab_Pr X D aw z ws (.ref b :: cr)) (ab_Po X D z outs (some ty)) (ab_Xo X D z outs) mc ms (ab_Ar X) := hct' z ws (.ref b :: cr) hR.inn q3
      have q2' : cst = (Value.ref b :: cr).reverse ++ crest := q2
      rw [q2']
      have run := vx_runV (p := p) (e := e) (m := m) (below := below) (meth := meth) (H := H) (locs := locs) (cells := cl) (slots := sl) (As := cr) (rest := crest) (g := F0 m pc ls ((Value.ref b :: cr).reverse ++ crest)) ⟨C.1, C.2.1, C.2.2.1, C.2.2.2.1, C.2.2.2.2.1⟩ hM (cwV (C := cn) np C.2.2.2.2.1 (ab_good (fun w hw => by
        simp only [wsV, List.mem_append, List.mem_cons, List.not_mem_nil, or_false] at hw
        rcases hw with (rfl | rfl | rfl | rfl) | (rfl | hw)
        · exact hl1
        · exact hl2
        · exact hl3
        · exact hl4
        · exact hcode
        · exact hw)) rfl rfl rfl ⟨hcn, hyd⟩ ⟨by show 16 * d + 1 ≤ _; omega, by show 8 + (maxL + 11) + 200 * d ≤ _; omega⟩) ⟨ab_Pr_blind, hcell, ab_Pr_in (ab_cxE C) hR⟩ rfl (by omega) hl.1 (by simp) (lv_room (by rw [hcs2]; exact Nat.le_of_ble_eq_true b2)) dd ⟨Nat.le_trans (Nat.le_of_ble_eq_true b3) hmR, Nat.le_trans (Nat.le_of_ble_eq_true b4) hsR⟩
      refine vx_calli (A0 := ab_Ar X) (a := (Value.ref b :: cr).toArray) (post := ab_pi X z outs) (B := ab_bu X D) (A1 := ab_Ar X) (px := ab_pu X z outs 3) (BX := fun E u t => E = ab_Nm ∧ ab_bu X D u t) (AX := ab_Ar X) run hR.2.2.2.2.2.2.1 (fun _ _ h => h) (fun _ h => h) (fun _ _ h => h) (fun E ce q9 u t H1 locs1 ht hvm hp9 hB _ _ hS hce hcv hcl => ?_) (fun r0 u t H1 locs1 ht hvm hp9 hB _ _ hS => ?_)
      · obtain ⟨rfl, hB⟩ := hB
        refine vx_catch (own := own) (name := ab_Nm) C.2.2.2.1 [] ⟨0, eP, hP, ct⟩ [] htab (fun z hz => nomatch hz) hcov hct (C.2.2.2.2.1 _ hlk) (va_Nw.use (ab_nest_tab rfl) ((ab_cxE C).2.2.1 _ hcs rfl)) hce hcv hcl ?_
        obtain ⟨lc, g1, g2⟩ := (hl.ext hp9.2.2.1).list
        rcases dh with ⟨dh, rfl⟩ | ⟨k, hk4, dh, rfl⟩
        · refine lv_astore C.1 C.2.1 dh g1 hhi rfl (fun ls' hl' => ?_)
          exact hk _ (l3 u.1 hp9.1 hp9.2.1) u.2.1 u.2.2 H1 locs1 ls' [] (hR.back hp9 hB ht hvm hS) (ab_lR.drop1 hzc g2 hl') rfl
        · refine lv_astore_n C.1 C.2.1 dh hk4 g1 hhi rfl (fun ls' hl' => ?_)
          exact hk _ (l3 u.1 hp9.1 hp9.2.1) u.2.1 u.2.2 H1 locs1 ls' [] (hR.back hp9 hB ht hvm hS) (ab_lR.drop1 hzc g2 hl') rfl
      · obtain ⟨hp9, v, v1, v2⟩ := hp9
        exact hk _ (l2 u.1 hp9.1 v hp9.2.1 v1) u.2.1 u.2.2 H1 locs1 ls (.int r0 :: crest) (hR.back hp9 hB ht hvm hS) (hl.ext hp9.2.2.1) (by simp only [List.map_cons, v2, ab_evs.ext hp9.2.2.1 q4])
end
/-- the same for a method with handlers -/
def ab_ts2 (l : Launch) (X : ab_X) (D : va_G) (d : Nat) (ME : List ab_ME) (y : MethodName) (cc : ByteArray) (own : String) (maxL mc ms : Nat) (hh : List (Nat × Nat × Nat × Nat)) (tab : ab_tab) : Prop :=
  ∀ (cal : ab_K), ab_cal l X D d ME cal → ∀ (p : Program) (e : Env) (R : Room) (s : State) (m : MethodId) (args : Array Value) (below : List Frame) (meth : Method) (c : Code) (Q : State → Prop) (z0 : ab_Z), ab_cx p R s m args c cc own maxL X D → c.exceptionTable.toList = tableOf hh → 16 * (d + 1) ≤ R.frames → 200 * (d + 1) ≤ R.locals → mc ≤ R.cells → ms ≤ R.slots → ∀ b ∈ tab, ∀ q ∈ b, ab_tv p l e R s m args below meth c Q cc maxL X D z0 cal (fun _ => False) q
theorem ab_meth2 {l : Launch} {X : ab_X} {D : va_G} {d : Nat} {ME : List ab_ME} {y : MethodName} {cc : ByteArray} {own : String} {maxL mc ms : Nat} {ret : Option FieldType} {hh : List (Nat × Nat × Nat × Nat)} {tab : ab_tab} (hyo : y.cls = own) (hy : plainName y.cls = true) (hT : ab_ts2 l X D d ME y cc own maxL mc ms hh tab)
    {cal : ab_K} (hcal : ab_cal l X D d ME cal) {fuel : Nat} {env : ab_E} {nl : Nat} {aw : List ab_C} {as : List ab_V} {os : List (Nat × ab_S)} {outs : List ab_O} (hcs : ab_csum as ≤ maxL) (hrun : ab_run tab cal fuel [((env, nl, aw, 0, 0), 0, ab_ent 0 as, [])] [] = some os) (hfin : ab_fin ret mc ms os (fun L => some L) = some outs) {kd : Nat} : ab_ctr l X D (d + 1) (y, cc, maxL, ret, mc, ms, kd + 2, hh, tab) env nl aw as outs := by
  intro z ws vs hin hs
  show Met l y (Cond.codeWith y cc maxL ret hh :: ab_TG) (ab_rm (d + 1) mc ms) (ab_Pr X D aw z ws vs) (ab_Po X D z outs ret) mc ms (ab_Ar X)
  refine va_MetW (cc := cc) (maxL := maxL) (ret := ret) (hh := hh) hy rfl ?_
  intro p e s m args below meth c s₁ B hml hv
  obtain ⟨rfl, hE, hw, hP⟩ := hv
  have C : ab_cx p (headSpec (Cond.codeWith y cc maxL ret hh :: ab_TG) (ab_rm (d + 1) mc ms)).room s m vs.toArray c cc own maxL X D := ⟨B.exec, B.bytes, hml, hyo ▸ findClass_of_methodNamed B.named, fun w hw => atoms_spec (ws := Cond.codeWith y cc maxL ret hh :: ab_TG) B.pre w (List.mem_cons_of_mem _ hw), hE, by show 16 ≤ 16 * (d + 1); omega, by show 200 ≤ 200 * (d + 1); omega⟩
  have htab : c.exceptionTable.toList = tableOf hh := vx_table (x := y) B (atoms_spec (ws := Cond.codeWith y cc maxL ret hh :: ab_TG) B.pre _ List.mem_cons_self)
  have hTv := hT cal hcal p e (headSpec (Cond.codeWith y cc maxL ret hh :: ab_TG) (ab_rm (d + 1) mc ms)).room s m vs.toArray below meth c (MQ below (ab_Po X D z outs ret) vs.toArray s mc ms (ab_Ar X)) z C htab (Nat.le_refl _) (Nat.le_refl _) (Nat.le_refl _) (Nat.le_refl _)
  refine ab_first hE hin hs hw hP hcs ?_
  refine ab_run_ok hTv hrun (fun k pc S hS hpc hf => ?_) _ List.mem_cons_self
  subst hpc
  obtain ⟨f, b, hb1, hb2⟩ := hf
  have htv := hTv b hb1 _ hb2
  obtain ⟨L, h1, h2⟩ := ab_fin_ok hfin
  cases h1
  rcases h2 k S hS with g | g | ⟨rfl, -⟩
  · exact ab_stop C B.returns B.notSynchronized htv (Or.inl g)
  · exact ab_stop C B.returns B.notSynchronized htv (Or.inr g)
  · exact False.elim htv
/-- a method of the list is sound -/
def ab_snd (l : Launch) (X : ab_X) (D : va_G) (ME : List ab_ME) (M : ab_ME) : Prop := ∀ d : Nat, match M with
  | (y, cc, maxL, _, mc, ms, kd, hh, tab) => plainName y.cls = true ∧ match kd with
    | 0 => ab_ts l X D d ME y cc y.cls maxL mc ms tab (fun _ _ _ _ _ _ _ _ _ _ _ => False)
    | 1 => y.cls = "SundialTreaty" ∧ ab_ts l X D d ME y cc "SundialTreaty" maxL mc ms tab (fun _ _ _ _ _ _ _ _ _ _ pc => ab_thr cc pc)
    | _ => ab_ts2 l X D d ME y cc y.cls maxL mc ms hh tab
theorem ab_all {l : Launch} (hst : l.stackTraces = false) {X : ab_X} {D : va_G} {ME : List ab_ME} (hME : ∀ M ∈ ME, ab_snd l X D ME M) (fuel : Nat) : ∀ d : Nat, ab_cal l X D d ME (ab_eval ME fuel d)
  | 0 => fun mid M hM env nl aw as outs h => by cases h
  | d + 1 => fun mid M hM env nl aw as outs h => by
    have ih := ab_all hst hME fuel d
    have hs := hME M (List.mem_of_getElem? hM) d
    obtain ⟨y, cc, maxL, ret, mc, ms, kd, hh, tab⟩ := M
    obtain ⟨hy, hs⟩ := hs
    simp only [ab_eval, ab_get_eq, hM] at h
    cases hb : Nat.ble (ab_csum as) maxL
    · rw [hb] at h; cases h
    · rw [hb, cond_true, ab_entK_eq] at h
      have hcs := Nat.le_of_ble_eq_true hb
      split at h
      · cases h
      · rename_i os hos
        match kd, hs with
        | 0, hs => exact ab_meth0 rfl hy hs ih hcs hos h
        | 1, hs => exact ab_meth1 hst hs.1 hy hs.2 ih hcs hos h
        | kd + 2, hs => exact ab_meth2 rfl hy hs ih hcs hos h
end
section
/-! Words of the tables by their places; the classes; the callees. -/
theorem ab_in {w : Cond} (h : w ∈ lw_tbl) (g : goodWord w = true) : w ∈ ab_TG := List.mem_filter.mpr ⟨h, g⟩
theorem tk_0 {w : Cond} (i : Nat) (h : (k2_sels lw_privs)[i]? = some w) : w ∈ lw_tbl := List.mem_append_left _ (List.mem_of_getElem? h)
theorem tk_1 {w : Cond} (i : Nat) (h : tables_1_1[i]? = some w) : w ∈ lw_tbl := List.mem_append_right (k2_sels lw_privs) (List.mem_append_left _ (List.mem_of_getElem? h))
theorem tk_2 {w : Cond} (i : Nat) (h : tables_1_2[i]? = some w) : w ∈ lw_tbl := List.mem_append_right (k2_sels lw_privs) (List.mem_append_right _ (List.mem_append_left _ (List.mem_of_getElem? h)))
theorem tk_3 {w : Cond} (i : Nat) (h : tables_1_3[i]? = some w) : w ∈ lw_tbl := List.mem_append_right (k2_sels lw_privs) (List.mem_append_right _ (List.mem_append_right _ (List.mem_append_left _ (List.mem_of_getElem? h))))
theorem tk_4 {w : Cond} (i : Nat) (h : tables_1_4[i]? = some w) : w ∈ lw_tbl := List.mem_append_right (k2_sels lw_privs) (List.mem_append_right _ (List.mem_append_right _ (List.mem_append_right _ (List.mem_append_left _ (List.mem_of_getElem? h)))))
theorem tk_5 {w : Cond} (i : Nat) (h : tables_1_5[i]? = some w) : w ∈ lw_tbl := List.mem_append_right (k2_sels lw_privs) (List.mem_append_right _ (List.mem_append_right _ (List.mem_append_right _ (List.mem_append_right _ (List.mem_append_left _ (List.mem_of_getElem? h))))))
theorem tk_6 {w : Cond} (i : Nat) (h : tables_1_6[i]? = some w) : w ∈ lw_tbl := List.mem_append_right (k2_sels lw_privs) (List.mem_append_right _ (List.mem_append_right _ (List.mem_append_right _ (List.mem_append_right _ (List.mem_append_right _ (List.mem_append_left _ (List.mem_of_getElem? h)))))))
theorem tk_7 {w : Cond} (i : Nat) (h : tables_1_7[i]? = some w) : w ∈ lw_tbl := List.mem_append_right (k2_sels lw_privs) (List.mem_append_right _ (List.mem_append_right _ (List.mem_append_right _ (List.mem_append_right _ (List.mem_append_right _ (List.mem_append_right _ (List.mem_append_left _ (List.mem_of_getElem? h))))))))
theorem tk_8 {w : Cond} (i : Nat) (h : tables_1_8[i]? = some w) : w ∈ lw_tbl := List.mem_append_right (k2_sels lw_privs) (List.mem_append_right _ (List.mem_append_right _ (List.mem_append_right _ (List.mem_append_right _ (List.mem_append_right _ (List.mem_append_right _ (List.mem_append_right _ (List.mem_of_getElem? h))))))))
theorem ab_ins {ix : List Nat} {ws : List Cond} (h : ix.map (fun i => lw_tbl[i]?) = ws.map some) (g : ws.all goodWord = true) : ∀ w ∈ ws, w ∈ ab_TG := by
  intro w hw
  have h1 : some w ∈ ix.map (fun i => lw_tbl[i]?) := by rw [h]; exact List.mem_map.mpr ⟨w, hw, rfl⟩
  obtain ⟨i, -, hi⟩ := List.mem_map.mp h1
  exact ab_in (List.mem_of_getElem? hi) (List.all_eq_true.mp g w hw)
theorem ab_tg {pc : Nat} {offs : Array Int} {tg : List Nat} (h : offs.toList.map (fun o => (pc : Int) + o) = tg.map (fun t : Nat => (t : Int))) : ∀ (q t : Nat), tg[q]? = some t → ∃ off, offs[q]? = some off ∧ (pc : Int) + off = t := by
  intro q t hq
  have h1 : (offs.toList.map (fun o => (pc : Int) + o))[q]? = (tg.map (fun t : Nat => (t : Int)))[q]? := by rw [h]
  rw [List.getElem?_map, List.getElem?_map, hq, Array.getElem?_toList, Option.map_some, Option.map_eq_some_iff] at h1
  exact h1
theorem hc_X0 : vwCl[0]? = some (RX0, TX0, 10) := rfl
theorem hin_X0 : ∀ w ∈ u_ws RX0 TX0 10, w ∈ ab_TG := ab_ins (ix := [494, 496, 498, 500, 502, 504, 506, 508, 510, 512]) (by decide +kernel) (by decide +kernel)
def vs_X0 : List Value := [.null, .null, .null, .int 0, .int 0, .int 0, .int 0, .int 0, .int 0, .int 0]
theorem hfs_X0 : ∀ j, j < 10 → defaultValue (tyX0 j) = vp_V vs_X0 j := by decide +kernel
theorem hc_X1 : vwCl[1]? = some (RX1, TX1, 2) := rfl
theorem hin_X1 : ∀ w ∈ u_ws RX1 TX1 2, w ∈ ab_TG := ab_ins (ix := [443, 445]) (by decide +kernel) (by decide +kernel)
def vs_X1 : List Value := [.null, .int 0]
theorem hfs_X1 : ∀ j, j < 2 → defaultValue (tyX1 j) = vp_V vs_X1 j := by decide +kernel
theorem hc_X2 : vwCl[2]? = some (RX2, TX2, 4) := rfl
theorem hin_X2 : ∀ w ∈ u_ws RX2 TX2 4, w ∈ ab_TG := ab_ins (ix := [575, 577, 579, 581]) (by decide +kernel) (by decide +kernel)
def vs_X2 : List Value := [.null, .null, .null, .int 0]
theorem hfs_X2 : ∀ j, j < 4 → defaultValue (tyX2 j) = vp_V vs_X2 j := by decide +kernel
theorem hc_X3 : vwCl[3]? = some (RX3, TX3, 2) := rfl
theorem hin_X3 : ∀ w ∈ u_ws RX3 TX3 2, w ∈ ab_TG := ab_ins (ix := [549, 551]) (by decide +kernel) (by decide +kernel)
def vs_X3 : List Value := [.null, .int 0]
theorem hfs_X3 : ∀ j, j < 2 → defaultValue (tyX3 j) = vp_V vs_X3 j := by decide +kernel
theorem hc_X4 : vwCl[4]? = some (RX4, TX4, 15) := rfl
theorem hin_X4 : ∀ w ∈ u_ws RX4 TX4 15, w ∈ ab_TG := ab_ins (ix := [259, 261, 263, 265, 267, 269, 271, 273, 275, 277, 279, 281, 283, 285, 287]) (by decide +kernel) (by decide +kernel)
def vs_X4 : List Value := [.null, .int 0, .int 0, .int 0, .int 0, .int 0, .long 0, .int 0, .int 0, .int 0, .long 0, .int 0, .int 0, .int 0, .null]
theorem hfs_X4 : ∀ j, j < 15 → defaultValue (tyX4 j) = vp_V vs_X4 j := by decide +kernel
theorem hc_X5 : vwCl[5]? = some (RX5, TX5, 5) := rfl
theorem hin_X5 : ∀ w ∈ u_ws RX5 TX5 5, w ∈ ab_TG := ab_ins (ix := [528, 530, 532, 534, 536]) (by decide +kernel) (by decide +kernel)
def vs_X5 : List Value := [.null, .null, .int 0, .int 0, .int 0]
theorem hfs_X5 : ∀ j, j < 5 → defaultValue (tyX5 j) = vp_V vs_X5 j := by decide +kernel
theorem hc_X6 : vwCl[6]? = some (RX6, TX6, 5) := rfl
theorem hin_X6 : ∀ w ∈ u_ws RX6 TX6 5, w ∈ ab_TG := ab_ins (ix := [461, 463, 465, 467, 469]) (by decide +kernel) (by decide +kernel)
def vs_X6 : List Value := [.null, .null, .null, .int 0, .int 0]
theorem hfs_X6 : ∀ j, j < 5 → defaultValue (tyX6 j) = vp_V vs_X6 j := by decide +kernel
theorem hc_X7 : vwCl[7]? = some (RX7, TX7, 7) := rfl
theorem hin_X7 : ∀ w ∈ u_ws RX7 TX7 7, w ∈ ab_TG := ab_ins (ix := [416, 418, 420, 422, 424, 426, 428]) (by decide +kernel) (by decide +kernel)
def vs_X7 : List Value := [.int 0, .int 0, .int 0, .null, .null, .null, .int 0]
theorem hfs_X7 : ∀ j, j < 7 → defaultValue (tyX7 j) = vp_V vs_X7 j := by decide +kernel
theorem hc_X8 : vwCl[8]? = some (RX8, TX8, 16) := rfl
theorem hin_X8 : ∀ w ∈ u_ws RX8 TX8 16, w ∈ ab_TG := ab_ins (ix := [362, 364, 366, 368, 370, 372, 374, 376, 378, 380, 382, 384, 386, 388, 390, 392]) (by decide +kernel) (by decide +kernel)
def vs_X8 : List Value := [.int 0, .null, .null, .null, .int 0, .null, .null, .null, .null, .int 0, .null, .null, .null, .null, .null, .null]
theorem hfs_X8 : ∀ j, j < 16 → defaultValue (tyX8 j) = vp_V vs_X8 j := by decide +kernel
theorem hc_X9 : vwCl[9]? = some (RX9, TX9, 1) := rfl
theorem hin_X9 : ∀ w ∈ u_ws RX9 TX9 1, w ∈ ab_TG := ab_ins (ix := [302]) (by decide +kernel) (by decide +kernel)
def vs_X9 : List Value := [.null]
theorem hfs_X9 : ∀ j, j < 1 → defaultValue (tyX9 j) = vp_V vs_X9 j := by decide +kernel
theorem hc_X10 : vwCl[10]? = some (RX10, TX10, 17) := rfl
theorem hin_X10 : ∀ w ∈ u_ws RX10 TX10 17, w ∈ ab_TG := ab_ins (ix := [601, 603, 605, 607, 609, 611, 613, 615, 617, 619, 621, 623, 625, 627, 629, 631, 633]) (by decide +kernel) (by decide +kernel)
def vs_X10 : List Value := [.null, .null, .null, .null, .null, .null, .null, .null, .null, .null, .null, .null, .null, .null, .int 0, .null, .int 0]
theorem hfs_X10 : ∀ j, j < 17 → defaultValue (tyX10 j) = vp_V vs_X10 j := by decide +kernel
theorem hc_X11 : vwCl[11]? = some (RX11, TX11, 51) := rfl
theorem hin_X11 : ∀ w ∈ u_ws RX11 TX11 51, w ∈ ab_TG := ab_ins (ix := [1430, 1432, 1434, 1436, 1438, 1440, 1442, 1444, 1446, 1448, 1450, 1452, 1454, 1456, 1458, 1460, 1462, 1464, 1466, 1468, 1470, 1472, 1474, 1476, 1478, 1480, 1482, 1484, 1486, 1488, 1490, 1492, 1494, 1496, 1498, 1500, 1502, 1504, 1506, 1508, 1510, 1512, 1514, 1516, 1518, 1520, 1522, 1524, 1526, 1528, 1530]) (by decide +kernel) (by decide +kernel)
def vs_X11 : List Value := [.int 0, .null, .int 0, .int 0, .int 0, .int 0, .null, .null, .null, .null, .null, .int 0, .int 0, .int 0, .int 0, .int 0, .int 0, .long 0, .int 0, .int 0, .int 0, .null, .null, .int 0, .null, .null, .null, .int 0, .int 0, .null, .null, .null, .null, .null, .int 0, .null, .int 0, .int 0, .int 0, .null, .int 0, .null, .int 0, .int 0, .int 0, .int 0, .int 0, .null, .null, .null, .null]
theorem hfs_X11 : ∀ j, j < 51 → defaultValue (tyX11 j) = vp_V vs_X11 j := by decide +kernel
theorem hy_X4_init : yX4_init.cls ≠ "java/lang/invoke/MethodHandle" ∧ yX4_init.cls ≠ "java/lang/invoke/VarHandle" ∧ (parseMethodDescriptor yX4_init.desc).map (fun d => d.parameters.length) = some 0 := by decide +kernel
theorem hy_X9_init : yX9_init.cls ≠ "java/lang/invoke/MethodHandle" ∧ yX9_init.cls ≠ "java/lang/invoke/VarHandle" ∧ (parseMethodDescriptor yX9_init.desc).map (fun d => d.parameters.length) = some 0 := by decide +kernel
theorem hy_X8_init : yX8_init.cls ≠ "java/lang/invoke/MethodHandle" ∧ yX8_init.cls ≠ "java/lang/invoke/VarHandle" ∧ (parseMethodDescriptor yX8_init.desc).map (fun d => d.parameters.length) = some 0 := by decide +kernel
theorem hy_X7_init : yX7_init.cls ≠ "java/lang/invoke/MethodHandle" ∧ yX7_init.cls ≠ "java/lang/invoke/VarHandle" ∧ (parseMethodDescriptor yX7_init.desc).map (fun d => d.parameters.length) = some 0 := by decide +kernel
theorem hy_X1_init : yX1_init.cls ≠ "java/lang/invoke/MethodHandle" ∧ yX1_init.cls ≠ "java/lang/invoke/VarHandle" ∧ (parseMethodDescriptor yX1_init.desc).map (fun d => d.parameters.length) = some 0 := by decide +kernel
theorem hy_X6_init : yX6_init.cls ≠ "java/lang/invoke/MethodHandle" ∧ yX6_init.cls ≠ "java/lang/invoke/VarHandle" ∧ (parseMethodDescriptor yX6_init.desc).map (fun d => d.parameters.length) = some 0 := by decide +kernel
theorem hy_X0_init : yX0_init.cls ≠ "java/lang/invoke/MethodHandle" ∧ yX0_init.cls ≠ "java/lang/invoke/VarHandle" ∧ (parseMethodDescriptor yX0_init.desc).map (fun d => d.parameters.length) = some 0 := by decide +kernel
theorem hy_X5_init : yX5_init.cls ≠ "java/lang/invoke/MethodHandle" ∧ yX5_init.cls ≠ "java/lang/invoke/VarHandle" ∧ (parseMethodDescriptor yX5_init.desc).map (fun d => d.parameters.length) = some 0 := by decide +kernel
theorem hy_X3_init : yX3_init.cls ≠ "java/lang/invoke/MethodHandle" ∧ yX3_init.cls ≠ "java/lang/invoke/VarHandle" ∧ (parseMethodDescriptor yX3_init.desc).map (fun d => d.parameters.length) = some 0 := by decide +kernel
theorem hy_X2_init : yX2_init.cls ≠ "java/lang/invoke/MethodHandle" ∧ yX2_init.cls ≠ "java/lang/invoke/VarHandle" ∧ (parseMethodDescriptor yX2_init.desc).map (fun d => d.parameters.length) = some 0 := by decide +kernel
theorem hy_J0_length_8abf5 : yJ0_length_8abf5.cls ≠ "java/lang/invoke/MethodHandle" ∧ yJ0_length_8abf5.cls ≠ "java/lang/invoke/VarHandle" ∧ (parseMethodDescriptor yJ0_length_8abf5.desc).map (fun d => d.parameters.length) = some 0 := by decide +kernel
theorem hy_J0_charAt_5068e : yJ0_charAt_5068e.cls ≠ "java/lang/invoke/MethodHandle" ∧ yJ0_charAt_5068e.cls ≠ "java/lang/invoke/VarHandle" ∧ (parseMethodDescriptor yJ0_charAt_5068e.desc).map (fun d => d.parameters.length) = some 1 := by decide +kernel
theorem hy_J0_coder_7d493 : yJ0_coder_7d493.cls ≠ "java/lang/invoke/MethodHandle" ∧ yJ0_coder_7d493.cls ≠ "java/lang/invoke/VarHandle" ∧ (parseMethodDescriptor yJ0_coder_7d493.desc).map (fun d => d.parameters.length) = some 0 := by decide +kernel
theorem hy_J0_isLatin1_aae02 : yJ0_isLatin1_aae02.cls ≠ "java/lang/invoke/MethodHandle" ∧ yJ0_isLatin1_aae02.cls ≠ "java/lang/invoke/VarHandle" ∧ (parseMethodDescriptor yJ0_isLatin1_aae02.desc).map (fun d => d.parameters.length) = some 0 := by decide +kernel
theorem hy_J1_charAt_3b067 : yJ1_charAt_3b067.cls ≠ "java/lang/invoke/MethodHandle" ∧ yJ1_charAt_3b067.cls ≠ "java/lang/invoke/VarHandle" ∧ (parseMethodDescriptor yJ1_charAt_3b067.desc).map (fun d => d.parameters.length) = some 2 := by decide +kernel
theorem hy_J0_checkIndex_df160 : yJ0_checkIndex_df160.cls ≠ "java/lang/invoke/MethodHandle" ∧ yJ0_checkIndex_df160.cls ≠ "java/lang/invoke/VarHandle" ∧ (parseMethodDescriptor yJ0_checkIndex_df160.desc).map (fun d => d.parameters.length) = some 2 := by decide +kernel
theorem hy_J3_checkIndex_8e157 : yJ3_checkIndex_8e157.cls ≠ "java/lang/invoke/MethodHandle" ∧ yJ3_checkIndex_8e157.cls ≠ "java/lang/invoke/VarHandle" ∧ (parseMethodDescriptor yJ3_checkIndex_8e157.desc).map (fun d => d.parameters.length) = some 3 := by decide +kernel
theorem hy_X11_clears : yX11_clears.cls ≠ "java/lang/invoke/MethodHandle" ∧ yX11_clears.cls ≠ "java/lang/invoke/VarHandle" ∧ (parseMethodDescriptor yX11_clears.desc).map (fun d => d.parameters.length) = some 0 := by decide +kernel
theorem hy_X4_put : yX4_put.cls ≠ "java/lang/invoke/MethodHandle" ∧ yX4_put.cls ≠ "java/lang/invoke/VarHandle" ∧ (parseMethodDescriptor yX4_put.desc).map (fun d => d.parameters.length) = some 1 := by decide +kernel
theorem hy_X11_four : yX11_four.cls ≠ "java/lang/invoke/MethodHandle" ∧ yX11_four.cls ≠ "java/lang/invoke/VarHandle" ∧ (parseMethodDescriptor yX11_four.desc).map (fun d => d.parameters.length) = some 1 := by decide +kernel
theorem hy_X9_readInto : yX9_readInto.cls ≠ "java/lang/invoke/MethodHandle" ∧ yX9_readInto.cls ≠ "java/lang/invoke/VarHandle" ∧ (parseMethodDescriptor yX9_readInto.desc).map (fun d => d.parameters.length) = some 2 := by decide +kernel
theorem hy_X7_beginIn : yX7_beginIn.cls ≠ "java/lang/invoke/MethodHandle" ∧ yX7_beginIn.cls ≠ "java/lang/invoke/VarHandle" ∧ (parseMethodDescriptor yX7_beginIn.desc).map (fun d => d.parameters.length) = some 1 := by decide +kernel
theorem hy_X8_makeEmpty : yX8_makeEmpty.cls ≠ "java/lang/invoke/MethodHandle" ∧ yX8_makeEmpty.cls ≠ "java/lang/invoke/VarHandle" ∧ (parseMethodDescriptor yX8_makeEmpty.desc).map (fun d => d.parameters.length) = some 0 := by decide +kernel
theorem hy_X4_begin : yX4_begin.cls ≠ "java/lang/invoke/MethodHandle" ∧ yX4_begin.cls ≠ "java/lang/invoke/VarHandle" ∧ (parseMethodDescriptor yX4_begin.desc).map (fun d => d.parameters.length) = some 1 := by decide +kernel
theorem hy_X4_atEnd : yX4_atEnd.cls ≠ "java/lang/invoke/MethodHandle" ∧ yX4_atEnd.cls ≠ "java/lang/invoke/VarHandle" ∧ (parseMethodDescriptor yX4_atEnd.desc).map (fun d => d.parameters.length) = some 0 := by decide +kernel
theorem hy_X4_next : yX4_next.cls ≠ "java/lang/invoke/MethodHandle" ∧ yX4_next.cls ≠ "java/lang/invoke/VarHandle" ∧ (parseMethodDescriptor yX4_next.desc).map (fun d => d.parameters.length) = some 0 := by decide +kernel
theorem hy_X11_taken : yX11_taken.cls ≠ "java/lang/invoke/MethodHandle" ∧ yX11_taken.cls ≠ "java/lang/invoke/VarHandle" ∧ (parseMethodDescriptor yX11_taken.desc).map (fun d => d.parameters.length) = some 1 := by decide +kernel
theorem hy_X11_next : yX11_next.cls ≠ "java/lang/invoke/MethodHandle" ∧ yX11_next.cls ≠ "java/lang/invoke/VarHandle" ∧ (parseMethodDescriptor yX11_next.desc).map (fun d => d.parameters.length) = some 0 := by decide +kernel
theorem hy_X11_peek : yX11_peek.cls ≠ "java/lang/invoke/MethodHandle" ∧ yX11_peek.cls ≠ "java/lang/invoke/VarHandle" ∧ (parseMethodDescriptor yX11_peek.desc).map (fun d => d.parameters.length) = some 0 := by decide +kernel
theorem hy_X10_town : yX10_town.cls ≠ "java/lang/invoke/MethodHandle" ∧ yX10_town.cls ≠ "java/lang/invoke/VarHandle" ∧ (parseMethodDescriptor yX10_town.desc).map (fun d => d.parameters.length) = some 2 := by decide +kernel
theorem hy_X10_hasTown : yX10_hasTown.cls ≠ "java/lang/invoke/MethodHandle" ∧ yX10_hasTown.cls ≠ "java/lang/invoke/VarHandle" ∧ (parseMethodDescriptor yX10_hasTown.desc).map (fun d => d.parameters.length) = some 1 := by decide +kernel
theorem hy_X11_isTown : yX11_isTown.cls ≠ "java/lang/invoke/MethodHandle" ∧ yX11_isTown.cls ≠ "java/lang/invoke/VarHandle" ∧ (parseMethodDescriptor yX11_isTown.desc).map (fun d => d.parameters.length) = some 1 := by decide +kernel
theorem hy_X11_throwsIf : yX11_throwsIf.cls ≠ "java/lang/invoke/MethodHandle" ∧ yX11_throwsIf.cls ≠ "java/lang/invoke/VarHandle" ∧ (parseMethodDescriptor yX11_throwsIf.desc).map (fun d => d.parameters.length) = some 1 := by decide +kernel
theorem hy_X11_isIn : yX11_isIn.cls ≠ "java/lang/invoke/MethodHandle" ∧ yX11_isIn.cls ≠ "java/lang/invoke/VarHandle" ∧ (parseMethodDescriptor yX11_isIn.desc).map (fun d => d.parameters.length) = some 3 := by decide +kernel
theorem hy_X10_due : yX10_due.cls ≠ "java/lang/invoke/MethodHandle" ∧ yX10_due.cls ≠ "java/lang/invoke/VarHandle" ∧ (parseMethodDescriptor yX10_due.desc).map (fun d => d.parameters.length) = some 2 := by decide +kernel
theorem hy_X10_train : yX10_train.cls ≠ "java/lang/invoke/MethodHandle" ∧ yX10_train.cls ≠ "java/lang/invoke/VarHandle" ∧ (parseMethodDescriptor yX10_train.desc).map (fun d => d.parameters.length) = some 2 := by decide +kernel
theorem hy_X10_hasTrain : yX10_hasTrain.cls ≠ "java/lang/invoke/MethodHandle" ∧ yX10_hasTrain.cls ≠ "java/lang/invoke/VarHandle" ∧ (parseMethodDescriptor yX10_hasTrain.desc).map (fun d => d.parameters.length) = some 1 := by decide +kernel
theorem hy_X11_isTrain : yX11_isTrain.cls ≠ "java/lang/invoke/MethodHandle" ∧ yX11_isTrain.cls ≠ "java/lang/invoke/VarHandle" ∧ (parseMethodDescriptor yX11_isTrain.desc).map (fun d => d.parameters.length) = some 1 := by decide +kernel
theorem hy_X10_shows : yX10_shows.cls ≠ "java/lang/invoke/MethodHandle" ∧ yX10_shows.cls ≠ "java/lang/invoke/VarHandle" ∧ (parseMethodDescriptor yX10_shows.desc).map (fun d => d.parameters.length) = some 2 := by decide +kernel
theorem hy_X10_now : yX10_now.cls ≠ "java/lang/invoke/MethodHandle" ∧ yX10_now.cls ≠ "java/lang/invoke/VarHandle" ∧ (parseMethodDescriptor yX10_now.desc).map (fun d => d.parameters.length) = some 1 := by decide +kernel
theorem hy_X10_bendsAdded : yX10_bendsAdded.cls ≠ "java/lang/invoke/MethodHandle" ∧ yX10_bendsAdded.cls ≠ "java/lang/invoke/VarHandle" ∧ (parseMethodDescriptor yX10_bendsAdded.desc).map (fun d => d.parameters.length) = some 0 := by decide +kernel
theorem hy_X7_breachBits : yX7_breachBits.cls ≠ "java/lang/invoke/MethodHandle" ∧ yX7_breachBits.cls ≠ "java/lang/invoke/VarHandle" ∧ (parseMethodDescriptor yX7_breachBits.desc).map (fun d => d.parameters.length) = some 1 := by decide +kernel
theorem hy_X10_added : yX10_added.cls ≠ "java/lang/invoke/MethodHandle" ∧ yX10_added.cls ≠ "java/lang/invoke/VarHandle" ∧ (parseMethodDescriptor yX10_added.desc).map (fun d => d.parameters.length) = some 1 := by decide +kernel
theorem hy_X10_minutesOff : yX10_minutesOff.cls ≠ "java/lang/invoke/MethodHandle" ∧ yX10_minutesOff.cls ≠ "java/lang/invoke/VarHandle" ∧ (parseMethodDescriptor yX10_minutesOff.desc).map (fun d => d.parameters.length) = some 0 := by decide +kernel
theorem hy_X11_sumOf : yX11_sumOf.cls ≠ "java/lang/invoke/MethodHandle" ∧ yX11_sumOf.cls ≠ "java/lang/invoke/VarHandle" ∧ (parseMethodDescriptor yX11_sumOf.desc).map (fun d => d.parameters.length) = some 1 := by decide +kernel
theorem hy_X11_breachSet : yX11_breachSet.cls ≠ "java/lang/invoke/MethodHandle" ∧ yX11_breachSet.cls ≠ "java/lang/invoke/VarHandle" ∧ (parseMethodDescriptor yX11_breachSet.desc).map (fun d => d.parameters.length) = some 0 := by decide +kernel
theorem hy_X1_keep : yX1_keep.cls ≠ "java/lang/invoke/MethodHandle" ∧ yX1_keep.cls ≠ "java/lang/invoke/VarHandle" ∧ (parseMethodDescriptor yX1_keep.desc).map (fun d => d.parameters.length) = some 1 := by decide +kernel
theorem hy_X7_springBack : yX7_springBack.cls ≠ "java/lang/invoke/MethodHandle" ∧ yX7_springBack.cls ≠ "java/lang/invoke/VarHandle" ∧ (parseMethodDescriptor yX7_springBack.desc).map (fun d => d.parameters.length) = some 1 := by decide +kernel
theorem hy_X7_copyFrom : yX7_copyFrom.cls ≠ "java/lang/invoke/MethodHandle" ∧ yX7_copyFrom.cls ≠ "java/lang/invoke/VarHandle" ∧ (parseMethodDescriptor yX7_copyFrom.desc).map (fun d => d.parameters.length) = some 1 := by decide +kernel
theorem hy_X11_keep : yX11_keep.cls ≠ "java/lang/invoke/MethodHandle" ∧ yX11_keep.cls ≠ "java/lang/invoke/VarHandle" ∧ (parseMethodDescriptor yX11_keep.desc).map (fun d => d.parameters.length) = some 0 := by decide +kernel
theorem hy_X11_freezes : yX11_freezes.cls ≠ "java/lang/invoke/MethodHandle" ∧ yX11_freezes.cls ≠ "java/lang/invoke/VarHandle" ∧ (parseMethodDescriptor yX11_freezes.desc).map (fun d => d.parameters.length) = some 0 := by decide +kernel
theorem hy_J9_min_7cf53 : yJ9_min_7cf53.cls ≠ "java/lang/invoke/MethodHandle" ∧ yJ9_min_7cf53.cls ≠ "java/lang/invoke/VarHandle" ∧ (parseMethodDescriptor yJ9_min_7cf53.desc).map (fun d => d.parameters.length) = some 2 := by decide +kernel
theorem hy_X7_passDays : yX7_passDays.cls ≠ "java/lang/invoke/MethodHandle" ∧ yX7_passDays.cls ≠ "java/lang/invoke/VarHandle" ∧ (parseMethodDescriptor yX7_passDays.desc).map (fun d => d.parameters.length) = some 2 := by decide +kernel
theorem hy_X7_passDay : yX7_passDay.cls ≠ "java/lang/invoke/MethodHandle" ∧ yX7_passDay.cls ≠ "java/lang/invoke/VarHandle" ∧ (parseMethodDescriptor yX7_passDay.desc).map (fun d => d.parameters.length) = some 1 := by decide +kernel
theorem hy_X11_goesOn : yX11_goesOn.cls ≠ "java/lang/invoke/MethodHandle" ∧ yX11_goesOn.cls ≠ "java/lang/invoke/VarHandle" ∧ (parseMethodDescriptor yX11_goesOn.desc).map (fun d => d.parameters.length) = some 1 := by decide +kernel
theorem hy_X1_takeBack : yX1_takeBack.cls ≠ "java/lang/invoke/MethodHandle" ∧ yX1_takeBack.cls ≠ "java/lang/invoke/VarHandle" ∧ (parseMethodDescriptor yX1_takeBack.desc).map (fun d => d.parameters.length) = some 1 := by decide +kernel
theorem hy_X10_noonLong : yX10_noonLong.cls ≠ "java/lang/invoke/MethodHandle" ∧ yX10_noonLong.cls ≠ "java/lang/invoke/VarHandle" ∧ (parseMethodDescriptor yX10_noonLong.desc).map (fun d => d.parameters.length) = some 0 := by decide +kernel
theorem hy_X11_sorts : yX11_sorts.cls ≠ "java/lang/invoke/MethodHandle" ∧ yX11_sorts.cls ≠ "java/lang/invoke/VarHandle" ∧ (parseMethodDescriptor yX11_sorts.desc).map (fun d => d.parameters.length) = some 1 := by decide +kernel
theorem hy_X10_oneNoon : yX10_oneNoon.cls ≠ "java/lang/invoke/MethodHandle" ∧ yX10_oneNoon.cls ≠ "java/lang/invoke/VarHandle" ∧ (parseMethodDescriptor yX10_oneNoon.desc).map (fun d => d.parameters.length) = some 0 := by decide +kernel
theorem hy_X7_middleNoon : yX7_middleNoon.cls ≠ "java/lang/invoke/MethodHandle" ∧ yX7_middleNoon.cls ≠ "java/lang/invoke/VarHandle" ∧ (parseMethodDescriptor yX7_middleNoon.desc).map (fun d => d.parameters.length) = some 2 := by decide +kernel
theorem hy_J9_abs_0f7a4 : yJ9_abs_0f7a4.cls ≠ "java/lang/invoke/MethodHandle" ∧ yJ9_abs_0f7a4.cls ≠ "java/lang/invoke/VarHandle" ∧ (parseMethodDescriptor yJ9_abs_0f7a4.desc).map (fun d => d.parameters.length) = some 1 := by decide +kernel
theorem hy_X11_absolute : yX11_absolute.cls ≠ "java/lang/invoke/MethodHandle" ∧ yX11_absolute.cls ≠ "java/lang/invoke/VarHandle" ∧ (parseMethodDescriptor yX11_absolute.desc).map (fun d => d.parameters.length) = some 1 := by decide +kernel
theorem hy_X10_evenAt : yX10_evenAt.cls ≠ "java/lang/invoke/MethodHandle" ∧ yX10_evenAt.cls ≠ "java/lang/invoke/VarHandle" ∧ (parseMethodDescriptor yX10_evenAt.desc).map (fun d => d.parameters.length) = some 1 := by decide +kernel
theorem hy_X7_bendToDues : yX7_bendToDues.cls ≠ "java/lang/invoke/MethodHandle" ∧ yX7_bendToDues.cls ≠ "java/lang/invoke/VarHandle" ∧ (parseMethodDescriptor yX7_bendToDues.desc).map (fun d => d.parameters.length) = some 1 := by decide +kernel
theorem hy_X11_tries : yX11_tries.cls ≠ "java/lang/invoke/MethodHandle" ∧ yX11_tries.cls ≠ "java/lang/invoke/VarHandle" ∧ (parseMethodDescriptor yX11_tries.desc).map (fun d => d.parameters.length) = some 0 := by decide +kernel
theorem hy_X11_movesToDues : yX11_movesToDues.cls ≠ "java/lang/invoke/MethodHandle" ∧ yX11_movesToDues.cls ≠ "java/lang/invoke/VarHandle" ∧ (parseMethodDescriptor yX11_movesToDues.desc).map (fun d => d.parameters.length) = some 0 := by decide +kernel
theorem hy_X11_back : yX11_back.cls ≠ "java/lang/invoke/MethodHandle" ∧ yX11_back.cls ≠ "java/lang/invoke/VarHandle" ∧ (parseMethodDescriptor yX11_back.desc).map (fun d => d.parameters.length) = some 0 := by decide +kernel
theorem hy_X10_spare : yX10_spare.cls ≠ "java/lang/invoke/MethodHandle" ∧ yX10_spare.cls ≠ "java/lang/invoke/VarHandle" ∧ (parseMethodDescriptor yX10_spare.desc).map (fun d => d.parameters.length) = some 2 := by decide +kernel
theorem hy_X10_votes : yX10_votes.cls ≠ "java/lang/invoke/MethodHandle" ∧ yX10_votes.cls ≠ "java/lang/invoke/VarHandle" ∧ (parseMethodDescriptor yX10_votes.desc).map (fun d => d.parameters.length) = some 2 := by decide +kernel
theorem hy_X7_comeNearer : yX7_comeNearer.cls ≠ "java/lang/invoke/MethodHandle" ∧ yX7_comeNearer.cls ≠ "java/lang/invoke/VarHandle" ∧ (parseMethodDescriptor yX7_comeNearer.desc).map (fun d => d.parameters.length) = some 1 := by decide +kernel
theorem hy_X10_nearerAt : yX10_nearerAt.cls ≠ "java/lang/invoke/MethodHandle" ∧ yX10_nearerAt.cls ≠ "java/lang/invoke/VarHandle" ∧ (parseMethodDescriptor yX10_nearerAt.desc).map (fun d => d.parameters.length) = some 1 := by decide +kernel
theorem hy_X0_read : yX0_read.cls ≠ "java/lang/invoke/MethodHandle" ∧ yX0_read.cls ≠ "java/lang/invoke/VarHandle" ∧ (parseMethodDescriptor yX0_read.desc).map (fun d => d.parameters.length) = some 2 := by decide +kernel
theorem hy_X0_judge : yX0_judge.cls ≠ "java/lang/invoke/MethodHandle" ∧ yX0_judge.cls ≠ "java/lang/invoke/VarHandle" ∧ (parseMethodDescriptor yX0_judge.desc).map (fun d => d.parameters.length) = some 2 := by decide +kernel
theorem hy_X6_read : yX6_read.cls ≠ "java/lang/invoke/MethodHandle" ∧ yX6_read.cls ≠ "java/lang/invoke/VarHandle" ∧ (parseMethodDescriptor yX6_read.desc).map (fun d => d.parameters.length) = some 2 := by decide +kernel
theorem hy_X6_readCond : yX6_readCond.cls ≠ "java/lang/invoke/MethodHandle" ∧ yX6_readCond.cls ≠ "java/lang/invoke/VarHandle" ∧ (parseMethodDescriptor yX6_readCond.desc).map (fun d => d.parameters.length) = some 3 := by decide +kernel
theorem hy_X6_readAll : yX6_readAll.cls ≠ "java/lang/invoke/MethodHandle" ∧ yX6_readAll.cls ≠ "java/lang/invoke/VarHandle" ∧ (parseMethodDescriptor yX6_readAll.desc).map (fun d => d.parameters.length) = some 3 := by decide +kernel
theorem hy_X6_readOne : yX6_readOne.cls ≠ "java/lang/invoke/MethodHandle" ∧ yX6_readOne.cls ≠ "java/lang/invoke/VarHandle" ∧ (parseMethodDescriptor yX6_readOne.desc).map (fun d => d.parameters.length) = some 3 := by decide +kernel
theorem hy_X6_beginsOne : yX6_beginsOne.cls ≠ "java/lang/invoke/MethodHandle" ∧ yX6_beginsOne.cls ≠ "java/lang/invoke/VarHandle" ∧ (parseMethodDescriptor yX6_beginsOne.desc).map (fun d => d.parameters.length) = some 1 := by decide +kernel
theorem hy_X4_failAs : yX4_failAs.cls ≠ "java/lang/invoke/MethodHandle" ∧ yX4_failAs.cls ≠ "java/lang/invoke/VarHandle" ∧ (parseMethodDescriptor yX4_failAs.desc).map (fun d => d.parameters.length) = some 1 := by decide +kernel
theorem hy_X11_operand : yX11_operand.cls ≠ "java/lang/invoke/MethodHandle" ∧ yX11_operand.cls ≠ "java/lang/invoke/VarHandle" ∧ (parseMethodDescriptor yX11_operand.desc).map (fun d => d.parameters.length) = some 0 := by decide +kernel
theorem hy_X11_isWord : yX11_isWord.cls ≠ "java/lang/invoke/MethodHandle" ∧ yX11_isWord.cls ≠ "java/lang/invoke/VarHandle" ∧ (parseMethodDescriptor yX11_isWord.desc).map (fun d => d.parameters.length) = some 1 := by decide +kernel
theorem hy_X11_isSign : yX11_isSign.cls ≠ "java/lang/invoke/MethodHandle" ∧ yX11_isSign.cls ≠ "java/lang/invoke/VarHandle" ∧ (parseMethodDescriptor yX11_isSign.desc).map (fun d => d.parameters.length) = some 1 := by decide +kernel
theorem hy_X11_leafOf : yX11_leafOf.cls ≠ "java/lang/invoke/MethodHandle" ∧ yX11_leafOf.cls ≠ "java/lang/invoke/VarHandle" ∧ (parseMethodDescriptor yX11_leafOf.desc).map (fun d => d.parameters.length) = some 0 := by decide +kernel
theorem hy_X11_bad : yX11_bad.cls ≠ "java/lang/invoke/MethodHandle" ∧ yX11_bad.cls ≠ "java/lang/invoke/VarHandle" ∧ (parseMethodDescriptor yX11_bad.desc).map (fun d => d.parameters.length) = some 1 := by decide +kernel
theorem hy_X8_copyFrom : yX8_copyFrom.cls ≠ "java/lang/invoke/MethodHandle" ∧ yX8_copyFrom.cls ≠ "java/lang/invoke/VarHandle" ∧ (parseMethodDescriptor yX8_copyFrom.desc).map (fun d => d.parameters.length) = some 1 := by decide +kernel
theorem hy_X6_copyFrom : yX6_copyFrom.cls ≠ "java/lang/invoke/MethodHandle" ∧ yX6_copyFrom.cls ≠ "java/lang/invoke/VarHandle" ∧ (parseMethodDescriptor yX6_copyFrom.desc).map (fun d => d.parameters.length) = some 1 := by decide +kernel
theorem hy_X8_limit : yX8_limit.cls ≠ "java/lang/invoke/MethodHandle" ∧ yX8_limit.cls ≠ "java/lang/invoke/VarHandle" ∧ (parseMethodDescriptor yX8_limit.desc).map (fun d => d.parameters.length) = some 0 := by decide +kernel
theorem hy_X8_change : yX8_change.cls ≠ "java/lang/invoke/MethodHandle" ∧ yX8_change.cls ≠ "java/lang/invoke/VarHandle" ∧ (parseMethodDescriptor yX8_change.desc).map (fun d => d.parameters.length) = some 0 := by decide +kernel
theorem hy_X8_frost : yX8_frost.cls ≠ "java/lang/invoke/MethodHandle" ∧ yX8_frost.cls ≠ "java/lang/invoke/VarHandle" ∧ (parseMethodDescriptor yX8_frost.desc).map (fun d => d.parameters.length) = some 0 := by decide +kernel
theorem hy_X10_init : yX10_init.cls ≠ "java/lang/invoke/MethodHandle" ∧ yX10_init.cls ≠ "java/lang/invoke/VarHandle" ∧ (parseMethodDescriptor yX10_init.desc).map (fun d => d.parameters.length) = some 0 := by decide +kernel
theorem hy_X11_init : yX11_init.cls ≠ "java/lang/invoke/MethodHandle" ∧ yX11_init.cls ≠ "java/lang/invoke/VarHandle" ∧ (parseMethodDescriptor yX11_init.desc).map (fun d => d.parameters.length) = some 0 := by decide +kernel
theorem hy_X10_feed : yX10_feed.cls ≠ "java/lang/invoke/MethodHandle" ∧ yX10_feed.cls ≠ "java/lang/invoke/VarHandle" ∧ (parseMethodDescriptor yX10_feed.desc).map (fun d => d.parameters.length) = some 5 := by decide +kernel
theorem hy_X11_feed : yX11_feed.cls ≠ "java/lang/invoke/MethodHandle" ∧ yX11_feed.cls ≠ "java/lang/invoke/VarHandle" ∧ (parseMethodDescriptor yX11_feed.desc).map (fun d => d.parameters.length) = some 5 := by decide +kernel
theorem hy_X10_end : yX10_end.cls ≠ "java/lang/invoke/MethodHandle" ∧ yX10_end.cls ≠ "java/lang/invoke/VarHandle" ∧ (parseMethodDescriptor yX10_end.desc).map (fun d => d.parameters.length) = some 1 := by decide +kernel
theorem hy_X11_end : yX11_end.cls ≠ "java/lang/invoke/MethodHandle" ∧ yX11_end.cls ≠ "java/lang/invoke/VarHandle" ∧ (parseMethodDescriptor yX11_end.desc).map (fun d => d.parameters.length) = some 1 := by decide +kernel
theorem hy_X10_valley : yX10_valley.cls ≠ "java/lang/invoke/MethodHandle" ∧ yX10_valley.cls ≠ "java/lang/invoke/VarHandle" ∧ (parseMethodDescriptor yX10_valley.desc).map (fun d => d.parameters.length) = some 0 := by decide +kernel
theorem hy_X11_valley : yX11_valley.cls ≠ "java/lang/invoke/MethodHandle" ∧ yX11_valley.cls ≠ "java/lang/invoke/VarHandle" ∧ (parseMethodDescriptor yX11_valley.desc).map (fun d => d.parameters.length) = some 0 := by decide +kernel
theorem hy_X10_fault : yX10_fault.cls ≠ "java/lang/invoke/MethodHandle" ∧ yX10_fault.cls ≠ "java/lang/invoke/VarHandle" ∧ (parseMethodDescriptor yX10_fault.desc).map (fun d => d.parameters.length) = some 0 := by decide +kernel
theorem hy_X11_fault : yX11_fault.cls ≠ "java/lang/invoke/MethodHandle" ∧ yX11_fault.cls ≠ "java/lang/invoke/VarHandle" ∧ (parseMethodDescriptor yX11_fault.desc).map (fun d => d.parameters.length) = some 0 := by decide +kernel
theorem hy_L_town : yL_town.cls ≠ "java/lang/invoke/MethodHandle" ∧ yL_town.cls ≠ "java/lang/invoke/VarHandle" ∧ (parseMethodDescriptor yL_town.desc).map (fun d => d.parameters.length) = some 4 := by decide +kernel
theorem hy_X11_town : yX11_town.cls ≠ "java/lang/invoke/MethodHandle" ∧ yX11_town.cls ≠ "java/lang/invoke/VarHandle" ∧ (parseMethodDescriptor yX11_town.desc).map (fun d => d.parameters.length) = some 2 := by decide +kernel
theorem hy_X11_thrown : yX11_thrown.cls ≠ "java/lang/invoke/MethodHandle" ∧ yX11_thrown.cls ≠ "java/lang/invoke/VarHandle" ∧ (parseMethodDescriptor yX11_thrown.desc).map (fun d => d.parameters.length) = some 0 := by decide +kernel
theorem hy_L_due : yL_due.cls ≠ "java/lang/invoke/MethodHandle" ∧ yL_due.cls ≠ "java/lang/invoke/VarHandle" ∧ (parseMethodDescriptor yL_due.desc).map (fun d => d.parameters.length) = some 4 := by decide +kernel
theorem hy_X11_due : yX11_due.cls ≠ "java/lang/invoke/MethodHandle" ∧ yX11_due.cls ≠ "java/lang/invoke/VarHandle" ∧ (parseMethodDescriptor yX11_due.desc).map (fun d => d.parameters.length) = some 2 := by decide +kernel
theorem hy_L_train : yL_train.cls ≠ "java/lang/invoke/MethodHandle" ∧ yL_train.cls ≠ "java/lang/invoke/VarHandle" ∧ (parseMethodDescriptor yL_train.desc).map (fun d => d.parameters.length) = some 4 := by decide +kernel
theorem hy_X11_train : yX11_train.cls ≠ "java/lang/invoke/MethodHandle" ∧ yX11_train.cls ≠ "java/lang/invoke/VarHandle" ∧ (parseMethodDescriptor yX11_train.desc).map (fun d => d.parameters.length) = some 2 := by decide +kernel
theorem hy_L_shows : yL_shows.cls ≠ "java/lang/invoke/MethodHandle" ∧ yL_shows.cls ≠ "java/lang/invoke/VarHandle" ∧ (parseMethodDescriptor yL_shows.desc).map (fun d => d.parameters.length) = some 4 := by decide +kernel
theorem hy_X11_shows : yX11_shows.cls ≠ "java/lang/invoke/MethodHandle" ∧ yX11_shows.cls ≠ "java/lang/invoke/VarHandle" ∧ (parseMethodDescriptor yX11_shows.desc).map (fun d => d.parameters.length) = some 2 := by decide +kernel
theorem hy_L_now : yL_now.cls ≠ "java/lang/invoke/MethodHandle" ∧ yL_now.cls ≠ "java/lang/invoke/VarHandle" ∧ (parseMethodDescriptor yL_now.desc).map (fun d => d.parameters.length) = some 3 := by decide +kernel
theorem hy_X11_now : yX11_now.cls ≠ "java/lang/invoke/MethodHandle" ∧ yX11_now.cls ≠ "java/lang/invoke/VarHandle" ∧ (parseMethodDescriptor yX11_now.desc).map (fun d => d.parameters.length) = some 1 := by decide +kernel
theorem hy_X10_bend : yX10_bend.cls ≠ "java/lang/invoke/MethodHandle" ∧ yX10_bend.cls ≠ "java/lang/invoke/VarHandle" ∧ (parseMethodDescriptor yX10_bend.desc).map (fun d => d.parameters.length) = some 2 := by decide +kernel
theorem hy_X11_bend : yX11_bend.cls ≠ "java/lang/invoke/MethodHandle" ∧ yX11_bend.cls ≠ "java/lang/invoke/VarHandle" ∧ (parseMethodDescriptor yX11_bend.desc).map (fun d => d.parameters.length) = some 2 := by decide +kernel
theorem hy_X10_shade : yX10_shade.cls ≠ "java/lang/invoke/MethodHandle" ∧ yX10_shade.cls ≠ "java/lang/invoke/VarHandle" ∧ (parseMethodDescriptor yX10_shade.desc).map (fun d => d.parameters.length) = some 1 := by decide +kernel
theorem hy_X11_shade : yX11_shade.cls ≠ "java/lang/invoke/MethodHandle" ∧ yX11_shade.cls ≠ "java/lang/invoke/VarHandle" ∧ (parseMethodDescriptor yX11_shade.desc).map (fun d => d.parameters.length) = some 1 := by decide +kernel
theorem hy_X10_clear : yX10_clear.cls ≠ "java/lang/invoke/MethodHandle" ∧ yX10_clear.cls ≠ "java/lang/invoke/VarHandle" ∧ (parseMethodDescriptor yX10_clear.desc).map (fun d => d.parameters.length) = some 1 := by decide +kernel
theorem hy_X11_clear : yX11_clear.cls ≠ "java/lang/invoke/MethodHandle" ∧ yX11_clear.cls ≠ "java/lang/invoke/VarHandle" ∧ (parseMethodDescriptor yX11_clear.desc).map (fun d => d.parameters.length) = some 1 := by decide +kernel
theorem hy_X10_freeze : yX10_freeze.cls ≠ "java/lang/invoke/MethodHandle" ∧ yX10_freeze.cls ≠ "java/lang/invoke/VarHandle" ∧ (parseMethodDescriptor yX10_freeze.desc).map (fun d => d.parameters.length) = some 0 := by decide +kernel
theorem hy_X11_freeze : yX11_freeze.cls ≠ "java/lang/invoke/MethodHandle" ∧ yX11_freeze.cls ≠ "java/lang/invoke/VarHandle" ∧ (parseMethodDescriptor yX11_freeze.desc).map (fun d => d.parameters.length) = some 0 := by decide +kernel
theorem hy_X10_days : yX10_days.cls ≠ "java/lang/invoke/MethodHandle" ∧ yX10_days.cls ≠ "java/lang/invoke/VarHandle" ∧ (parseMethodDescriptor yX10_days.desc).map (fun d => d.parameters.length) = some 1 := by decide +kernel
theorem hy_X11_days : yX11_days.cls ≠ "java/lang/invoke/MethodHandle" ∧ yX11_days.cls ≠ "java/lang/invoke/VarHandle" ∧ (parseMethodDescriptor yX11_days.desc).map (fun d => d.parameters.length) = some 1 := by decide +kernel
theorem hy_X10_undo : yX10_undo.cls ≠ "java/lang/invoke/MethodHandle" ∧ yX10_undo.cls ≠ "java/lang/invoke/VarHandle" ∧ (parseMethodDescriptor yX10_undo.desc).map (fun d => d.parameters.length) = some 0 := by decide +kernel
theorem hy_X11_undo : yX11_undo.cls ≠ "java/lang/invoke/MethodHandle" ∧ yX11_undo.cls ≠ "java/lang/invoke/VarHandle" ∧ (parseMethodDescriptor yX11_undo.desc).map (fun d => d.parameters.length) = some 0 := by decide +kernel
theorem hy_L_noonLong : yL_noonLong.cls ≠ "java/lang/invoke/MethodHandle" ∧ yL_noonLong.cls ≠ "java/lang/invoke/VarHandle" ∧ (parseMethodDescriptor yL_noonLong.desc).map (fun d => d.parameters.length) = some 2 := by decide +kernel
theorem hy_X11_noonLong : yX11_noonLong.cls ≠ "java/lang/invoke/MethodHandle" ∧ yX11_noonLong.cls ≠ "java/lang/invoke/VarHandle" ∧ (parseMethodDescriptor yX11_noonLong.desc).map (fun d => d.parameters.length) = some 0 := by decide +kernel
theorem hy_L_oneNoon : yL_oneNoon.cls ≠ "java/lang/invoke/MethodHandle" ∧ yL_oneNoon.cls ≠ "java/lang/invoke/VarHandle" ∧ (parseMethodDescriptor yL_oneNoon.desc).map (fun d => d.parameters.length) = some 2 := by decide +kernel
theorem hy_X11_oneNoon : yX11_oneNoon.cls ≠ "java/lang/invoke/MethodHandle" ∧ yX11_oneNoon.cls ≠ "java/lang/invoke/VarHandle" ∧ (parseMethodDescriptor yX11_oneNoon.desc).map (fun d => d.parameters.length) = some 0 := by decide +kernel
theorem hy_X10_even : yX10_even.cls ≠ "java/lang/invoke/MethodHandle" ∧ yX10_even.cls ≠ "java/lang/invoke/VarHandle" ∧ (parseMethodDescriptor yX10_even.desc).map (fun d => d.parameters.length) = some 0 := by decide +kernel
theorem hy_X11_even : yX11_even.cls ≠ "java/lang/invoke/MethodHandle" ∧ yX11_even.cls ≠ "java/lang/invoke/VarHandle" ∧ (parseMethodDescriptor yX11_even.desc).map (fun d => d.parameters.length) = some 0 := by decide +kernel
theorem hy_L_evenAt : yL_evenAt.cls ≠ "java/lang/invoke/MethodHandle" ∧ yL_evenAt.cls ≠ "java/lang/invoke/VarHandle" ∧ (parseMethodDescriptor yL_evenAt.desc).map (fun d => d.parameters.length) = some 3 := by decide +kernel
theorem hy_X11_evenAt : yX11_evenAt.cls ≠ "java/lang/invoke/MethodHandle" ∧ yX11_evenAt.cls ≠ "java/lang/invoke/VarHandle" ∧ (parseMethodDescriptor yX11_evenAt.desc).map (fun d => d.parameters.length) = some 1 := by decide +kernel
theorem hy_X10_kept : yX10_kept.cls ≠ "java/lang/invoke/MethodHandle" ∧ yX10_kept.cls ≠ "java/lang/invoke/VarHandle" ∧ (parseMethodDescriptor yX10_kept.desc).map (fun d => d.parameters.length) = some 0 := by decide +kernel
theorem hy_X11_kept : yX11_kept.cls ≠ "java/lang/invoke/MethodHandle" ∧ yX11_kept.cls ≠ "java/lang/invoke/VarHandle" ∧ (parseMethodDescriptor yX11_kept.desc).map (fun d => d.parameters.length) = some 0 := by decide +kernel
theorem hy_X10_worst : yX10_worst.cls ≠ "java/lang/invoke/MethodHandle" ∧ yX10_worst.cls ≠ "java/lang/invoke/VarHandle" ∧ (parseMethodDescriptor yX10_worst.desc).map (fun d => d.parameters.length) = some 1 := by decide +kernel
theorem hy_X11_worst : yX11_worst.cls ≠ "java/lang/invoke/MethodHandle" ∧ yX11_worst.cls ≠ "java/lang/invoke/VarHandle" ∧ (parseMethodDescriptor yX11_worst.desc).map (fun d => d.parameters.length) = some 1 := by decide +kernel
theorem hy_L_spare : yL_spare.cls ≠ "java/lang/invoke/MethodHandle" ∧ yL_spare.cls ≠ "java/lang/invoke/VarHandle" ∧ (parseMethodDescriptor yL_spare.desc).map (fun d => d.parameters.length) = some 4 := by decide +kernel
theorem hy_X11_spare : yX11_spare.cls ≠ "java/lang/invoke/MethodHandle" ∧ yX11_spare.cls ≠ "java/lang/invoke/VarHandle" ∧ (parseMethodDescriptor yX11_spare.desc).map (fun d => d.parameters.length) = some 2 := by decide +kernel
theorem hy_X10_route : yX10_route.cls ≠ "java/lang/invoke/MethodHandle" ∧ yX10_route.cls ≠ "java/lang/invoke/VarHandle" ∧ (parseMethodDescriptor yX10_route.desc).map (fun d => d.parameters.length) = some 3 := by decide +kernel
theorem hy_X11_route : yX11_route.cls ≠ "java/lang/invoke/MethodHandle" ∧ yX11_route.cls ≠ "java/lang/invoke/VarHandle" ∧ (parseMethodDescriptor yX11_route.desc).map (fun d => d.parameters.length) = some 3 := by decide +kernel
theorem hy_X10_routeAt : yX10_routeAt.cls ≠ "java/lang/invoke/MethodHandle" ∧ yX10_routeAt.cls ≠ "java/lang/invoke/VarHandle" ∧ (parseMethodDescriptor yX10_routeAt.desc).map (fun d => d.parameters.length) = some 1 := by decide +kernel
theorem hy_X11_routeAt : yX11_routeAt.cls ≠ "java/lang/invoke/MethodHandle" ∧ yX11_routeAt.cls ≠ "java/lang/invoke/VarHandle" ∧ (parseMethodDescriptor yX11_routeAt.desc).map (fun d => d.parameters.length) = some 1 := by decide +kernel
theorem hy_X10_shadows : yX10_shadows.cls ≠ "java/lang/invoke/MethodHandle" ∧ yX10_shadows.cls ≠ "java/lang/invoke/VarHandle" ∧ (parseMethodDescriptor yX10_shadows.desc).map (fun d => d.parameters.length) = some 0 := by decide +kernel
theorem hy_X11_shadows : yX11_shadows.cls ≠ "java/lang/invoke/MethodHandle" ∧ yX11_shadows.cls ≠ "java/lang/invoke/VarHandle" ∧ (parseMethodDescriptor yX11_shadows.desc).map (fun d => d.parameters.length) = some 0 := by decide +kernel
theorem hy_L_votes : yL_votes.cls ≠ "java/lang/invoke/MethodHandle" ∧ yL_votes.cls ≠ "java/lang/invoke/VarHandle" ∧ (parseMethodDescriptor yL_votes.desc).map (fun d => d.parameters.length) = some 4 := by decide +kernel
theorem hy_X11_votes : yX11_votes.cls ≠ "java/lang/invoke/MethodHandle" ∧ yX11_votes.cls ≠ "java/lang/invoke/VarHandle" ∧ (parseMethodDescriptor yX11_votes.desc).map (fun d => d.parameters.length) = some 2 := by decide +kernel
theorem hy_X10_nearer : yX10_nearer.cls ≠ "java/lang/invoke/MethodHandle" ∧ yX10_nearer.cls ≠ "java/lang/invoke/VarHandle" ∧ (parseMethodDescriptor yX10_nearer.desc).map (fun d => d.parameters.length) = some 0 := by decide +kernel
theorem hy_X11_nearer : yX11_nearer.cls ≠ "java/lang/invoke/MethodHandle" ∧ yX11_nearer.cls ≠ "java/lang/invoke/VarHandle" ∧ (parseMethodDescriptor yX11_nearer.desc).map (fun d => d.parameters.length) = some 0 := by decide +kernel
theorem hy_L_nearerAt : yL_nearerAt.cls ≠ "java/lang/invoke/MethodHandle" ∧ yL_nearerAt.cls ≠ "java/lang/invoke/VarHandle" ∧ (parseMethodDescriptor yL_nearerAt.desc).map (fun d => d.parameters.length) = some 3 := by decide +kernel
theorem hy_X11_nearerAt : yX11_nearerAt.cls ≠ "java/lang/invoke/MethodHandle" ∧ yX11_nearerAt.cls ≠ "java/lang/invoke/VarHandle" ∧ (parseMethodDescriptor yX11_nearerAt.desc).map (fun d => d.parameters.length) = some 1 := by decide +kernel
theorem hy_X10_right : yX10_right.cls ≠ "java/lang/invoke/MethodHandle" ∧ yX10_right.cls ≠ "java/lang/invoke/VarHandle" ∧ (parseMethodDescriptor yX10_right.desc).map (fun d => d.parameters.length) = some 2 := by decide +kernel
theorem hy_X11_right : yX11_right.cls ≠ "java/lang/invoke/MethodHandle" ∧ yX11_right.cls ≠ "java/lang/invoke/VarHandle" ∧ (parseMethodDescriptor yX11_right.desc).map (fun d => d.parameters.length) = some 2 := by decide +kernel
theorem hy_X10_turns : yX10_turns.cls ≠ "java/lang/invoke/MethodHandle" ∧ yX10_turns.cls ≠ "java/lang/invoke/VarHandle" ∧ (parseMethodDescriptor yX10_turns.desc).map (fun d => d.parameters.length) = some 1 := by decide +kernel
theorem hy_X11_turns : yX11_turns.cls ≠ "java/lang/invoke/MethodHandle" ∧ yX11_turns.cls ≠ "java/lang/invoke/VarHandle" ∧ (parseMethodDescriptor yX11_turns.desc).map (fun d => d.parameters.length) = some 1 := by decide +kernel
theorem hy_X10_motto : yX10_motto.cls ≠ "java/lang/invoke/MethodHandle" ∧ yX10_motto.cls ≠ "java/lang/invoke/VarHandle" ∧ (parseMethodDescriptor yX10_motto.desc).map (fun d => d.parameters.length) = some 1 := by decide +kernel
theorem hy_X11_motto : yX11_motto.cls ≠ "java/lang/invoke/MethodHandle" ∧ yX11_motto.cls ≠ "java/lang/invoke/VarHandle" ∧ (parseMethodDescriptor yX11_motto.desc).map (fun d => d.parameters.length) = some 1 := by decide +kernel
theorem hy_X10_byteAt : yX10_byteAt.cls ≠ "java/lang/invoke/MethodHandle" ∧ yX10_byteAt.cls ≠ "java/lang/invoke/VarHandle" ∧ (parseMethodDescriptor yX10_byteAt.desc).map (fun d => d.parameters.length) = some 1 := by decide +kernel
theorem hy_X11_byteAt : yX11_byteAt.cls ≠ "java/lang/invoke/MethodHandle" ∧ yX11_byteAt.cls ≠ "java/lang/invoke/VarHandle" ∧ (parseMethodDescriptor yX11_byteAt.desc).map (fun d => d.parameters.length) = some 1 := by decide +kernel
theorem hy_X10_drawn : yX10_drawn.cls ≠ "java/lang/invoke/MethodHandle" ∧ yX10_drawn.cls ≠ "java/lang/invoke/VarHandle" ∧ (parseMethodDescriptor yX10_drawn.desc).map (fun d => d.parameters.length) = some 2 := by decide +kernel
theorem hy_X11_drawn : yX11_drawn.cls ≠ "java/lang/invoke/MethodHandle" ∧ yX11_drawn.cls ≠ "java/lang/invoke/VarHandle" ∧ (parseMethodDescriptor yX11_drawn.desc).map (fun d => d.parameters.length) = some 2 := by decide +kernel
theorem hy_X10_odds : yX10_odds.cls ≠ "java/lang/invoke/MethodHandle" ∧ yX10_odds.cls ≠ "java/lang/invoke/VarHandle" ∧ (parseMethodDescriptor yX10_odds.desc).map (fun d => d.parameters.length) = some 3 := by decide +kernel
theorem hy_X11_odds : yX11_odds.cls ≠ "java/lang/invoke/MethodHandle" ∧ yX11_odds.cls ≠ "java/lang/invoke/VarHandle" ∧ (parseMethodDescriptor yX11_odds.desc).map (fun d => d.parameters.length) = some 3 := by decide +kernel
theorem hy_X10_book : yX10_book.cls ≠ "java/lang/invoke/MethodHandle" ∧ yX10_book.cls ≠ "java/lang/invoke/VarHandle" ∧ (parseMethodDescriptor yX10_book.desc).map (fun d => d.parameters.length) = some 1 := by decide +kernel
theorem hy_X11_book : yX11_book.cls ≠ "java/lang/invoke/MethodHandle" ∧ yX11_book.cls ≠ "java/lang/invoke/VarHandle" ∧ (parseMethodDescriptor yX11_book.desc).map (fun d => d.parameters.length) = some 1 := by decide +kernel
theorem hy_X10_told : yX10_told.cls ≠ "java/lang/invoke/MethodHandle" ∧ yX10_told.cls ≠ "java/lang/invoke/VarHandle" ∧ (parseMethodDescriptor yX10_told.desc).map (fun d => d.parameters.length) = some 1 := by decide +kernel
theorem hy_X11_told : yX11_told.cls ≠ "java/lang/invoke/MethodHandle" ∧ yX11_told.cls ≠ "java/lang/invoke/VarHandle" ∧ (parseMethodDescriptor yX11_told.desc).map (fun d => d.parameters.length) = some 1 := by decide +kernel
theorem hy_X10_sentence : yX10_sentence.cls ≠ "java/lang/invoke/MethodHandle" ∧ yX10_sentence.cls ≠ "java/lang/invoke/VarHandle" ∧ (parseMethodDescriptor yX10_sentence.desc).map (fun d => d.parameters.length) = some 0 := by decide +kernel
theorem hy_X11_sentence : yX11_sentence.cls ≠ "java/lang/invoke/MethodHandle" ∧ yX11_sentence.cls ≠ "java/lang/invoke/VarHandle" ∧ (parseMethodDescriptor yX11_sentence.desc).map (fun d => d.parameters.length) = some 0 := by decide +kernel
theorem hy_X10_said : yX10_said.cls ≠ "java/lang/invoke/MethodHandle" ∧ yX10_said.cls ≠ "java/lang/invoke/VarHandle" ∧ (parseMethodDescriptor yX10_said.desc).map (fun d => d.parameters.length) = some 1 := by decide +kernel
theorem hy_X11_said : yX11_said.cls ≠ "java/lang/invoke/MethodHandle" ∧ yX11_said.cls ≠ "java/lang/invoke/VarHandle" ∧ (parseMethodDescriptor yX11_said.desc).map (fun d => d.parameters.length) = some 1 := by decide +kernel
theorem hy_X10_image : yX10_image.cls ≠ "java/lang/invoke/MethodHandle" ∧ yX10_image.cls ≠ "java/lang/invoke/VarHandle" ∧ (parseMethodDescriptor yX10_image.desc).map (fun d => d.parameters.length) = some 1 := by decide +kernel
theorem hy_X11_image : yX11_image.cls ≠ "java/lang/invoke/MethodHandle" ∧ yX11_image.cls ≠ "java/lang/invoke/VarHandle" ∧ (parseMethodDescriptor yX11_image.desc).map (fun d => d.parameters.length) = some 1 := by decide +kernel
theorem hy_X10_restore : yX10_restore.cls ≠ "java/lang/invoke/MethodHandle" ∧ yX10_restore.cls ≠ "java/lang/invoke/VarHandle" ∧ (parseMethodDescriptor yX10_restore.desc).map (fun d => d.parameters.length) = some 1 := by decide +kernel
theorem hy_X11_restore : yX11_restore.cls ≠ "java/lang/invoke/MethodHandle" ∧ yX11_restore.cls ≠ "java/lang/invoke/VarHandle" ∧ (parseMethodDescriptor yX11_restore.desc).map (fun d => d.parameters.length) = some 1 := by decide +kernel
theorem hy_X10_count : yX10_count.cls ≠ "java/lang/invoke/MethodHandle" ∧ yX10_count.cls ≠ "java/lang/invoke/VarHandle" ∧ (parseMethodDescriptor yX10_count.desc).map (fun d => d.parameters.length) = some 1 := by decide +kernel
theorem hy_X11_count : yX11_count.cls ≠ "java/lang/invoke/MethodHandle" ∧ yX11_count.cls ≠ "java/lang/invoke/VarHandle" ∧ (parseMethodDescriptor yX11_count.desc).map (fun d => d.parameters.length) = some 1 := by decide +kernel
theorem tg_171 : Jvm.Cond.methodLink "SundialTreaty" (1 : Nat) ({ cls := "java/lang/Object", name := "<init>", desc := "()V" } : Jvm.MethodName) ∈ ab_TG := ab_in (tk_1 29 (by decide +kernel)) (by decide +kernel)
theorem tg_172 : Jvm.Cond.instanceMethod ({ cls := "java/lang/Object", name := "<init>", desc := "()V" } : Jvm.MethodName) ∈ ab_TG := ab_in (tk_1 30 (by decide +kernel)) (by decide +kernel)
theorem tg_173 : Jvm.Cond.code ({ cls := "java/lang/Object", name := "<init>", desc := "()V" } : Jvm.MethodName) object_method_1_code (1 : Nat) (Option.none : Option Jvm.ClassFile.FieldType) ∈ ab_TG := ab_in (tk_1 31 (by decide +kernel)) (by decide +kernel)
theorem tg_174 : Jvm.Cond.classLink "SundialTreaty" (7 : Nat) "SundialTreaty$Reader" ∈ ab_TG := ab_in (tk_1 32 (by decide +kernel)) (by decide +kernel)
theorem tg_175 : Jvm.Cond.instantiable "SundialTreaty$Reader" (15 : Nat) ∈ ab_TG := ab_in (tk_1 33 (by decide +kernel)) (by decide +kernel)
theorem tg_144 : Jvm.Cond.initialized "SundialTreaty$Reader" ∈ ab_TG := ab_in (tk_1 2 (by decide +kernel)) (by decide +kernel)
theorem tg_177 : Jvm.Cond.instanceMethod ({ cls := "SundialTreaty$Reader", name := "<init>", desc := "()V" } : Jvm.MethodName) ∈ ab_TG := ab_in (tk_1 35 (by decide +kernel)) (by decide +kernel)
theorem tg_178 : Jvm.Cond.code ({ cls := "SundialTreaty$Reader", name := "<init>", desc := "()V" } : Jvm.MethodName) prog_6_method_1_code (3 : Nat) (Option.none : Option Jvm.ClassFile.FieldType) ∈ ab_TG := ab_in (tk_1 36 (by decide +kernel)) (by decide +kernel)
theorem tn_176 : Jvm.Cond.methodLinkNest "SundialTreaty" (9 : Nat) ({ cls := "SundialTreaty$Reader", name := "<init>", desc := "()V" } : Jvm.MethodName) "SundialTreaty" ∈ lw_tbl := tk_1 34 (by decide +kernel)
theorem tg_584 : Jvm.Cond.fieldLink "SundialTreaty" (10 : Nat) "SundialTreaty" "tape" "LSundialTreaty$Reader;" ∈ ab_TG := ab_in (tk_2 202 (by decide +kernel)) (by decide +kernel)
theorem tg_293 : Jvm.Cond.classLink "SundialTreaty" (16 : Nat) "SundialTreaty$ValleyText" ∈ ab_TG := ab_in (tk_1 151 (by decide +kernel)) (by decide +kernel)
theorem tg_294 : Jvm.Cond.instantiable "SundialTreaty$ValleyText" (1 : Nat) ∈ ab_TG := ab_in (tk_1 152 (by decide +kernel)) (by decide +kernel)
theorem tg_149 : Jvm.Cond.initialized "SundialTreaty$ValleyText" ∈ ab_TG := ab_in (tk_1 7 (by decide +kernel)) (by decide +kernel)
theorem tg_296 : Jvm.Cond.instanceMethod ({ cls := "SundialTreaty$ValleyText", name := "<init>", desc := "()V" } : Jvm.MethodName) ∈ ab_TG := ab_in (tk_1 154 (by decide +kernel)) (by decide +kernel)
theorem tg_297 : Jvm.Cond.code ({ cls := "SundialTreaty$ValleyText", name := "<init>", desc := "()V" } : Jvm.MethodName) prog_11_method_1_code (1 : Nat) (Option.none : Option Jvm.ClassFile.FieldType) ∈ ab_TG := ab_in (tk_1 155 (by decide +kernel)) (by decide +kernel)
theorem tn_295 : Jvm.Cond.methodLinkNest "SundialTreaty" (18 : Nat) ({ cls := "SundialTreaty$ValleyText", name := "<init>", desc := "()V" } : Jvm.MethodName) "SundialTreaty" ∈ lw_tbl := tk_1 153 (by decide +kernel)
theorem tg_585 : Jvm.Cond.fieldLink "SundialTreaty" (19 : Nat) "SundialTreaty" "valleyText" "LSundialTreaty$ValleyText;" ∈ ab_TG := ab_in (tk_2 203 (by decide +kernel)) (by decide +kernel)
theorem tg_306 : Jvm.Cond.classLink "SundialTreaty" (23 : Nat) "SundialTreaty$Valley" ∈ ab_TG := ab_in (tk_1 164 (by decide +kernel)) (by decide +kernel)
theorem tg_307 : Jvm.Cond.instantiable "SundialTreaty$Valley" (16 : Nat) ∈ ab_TG := ab_in (tk_1 165 (by decide +kernel)) (by decide +kernel)
theorem tg_150 : Jvm.Cond.initialized "SundialTreaty$Valley" ∈ ab_TG := ab_in (tk_1 8 (by decide +kernel)) (by decide +kernel)
theorem tg_309 : Jvm.Cond.instanceMethod ({ cls := "SundialTreaty$Valley", name := "<init>", desc := "()V" } : Jvm.MethodName) ∈ ab_TG := ab_in (tk_1 167 (by decide +kernel)) (by decide +kernel)
theorem tg_310 : Jvm.Cond.code ({ cls := "SundialTreaty$Valley", name := "<init>", desc := "()V" } : Jvm.MethodName) prog_10_method_1_code (1 : Nat) (Option.none : Option Jvm.ClassFile.FieldType) ∈ ab_TG := ab_in (tk_1 168 (by decide +kernel)) (by decide +kernel)
theorem tn_308 : Jvm.Cond.methodLinkNest "SundialTreaty" (25 : Nat) ({ cls := "SundialTreaty$Valley", name := "<init>", desc := "()V" } : Jvm.MethodName) "SundialTreaty" ∈ lw_tbl := tk_1 166 (by decide +kernel)
theorem tg_586 : Jvm.Cond.fieldLink "SundialTreaty" (26 : Nat) "SundialTreaty" "land" "LSundialTreaty$Valley;" ∈ ab_TG := ab_in (tk_2 204 (by decide +kernel)) (by decide +kernel)
theorem tg_587 : Jvm.Cond.fieldLink "SundialTreaty" (30 : Nat) "SundialTreaty" "draft" "LSundialTreaty$Valley;" ∈ ab_TG := ab_in (tk_2 205 (by decide +kernel)) (by decide +kernel)
theorem tg_395 : Jvm.Cond.classLink "SundialTreaty" (33 : Nat) "SundialTreaty$State" ∈ ab_TG := ab_in (tk_2 13 (by decide +kernel)) (by decide +kernel)
theorem tg_396 : Jvm.Cond.instantiable "SundialTreaty$State" (7 : Nat) ∈ ab_TG := ab_in (tk_2 14 (by decide +kernel)) (by decide +kernel)
theorem tg_151 : Jvm.Cond.initialized "SundialTreaty$State" ∈ ab_TG := ab_in (tk_1 9 (by decide +kernel)) (by decide +kernel)
theorem tg_398 : Jvm.Cond.instanceMethod ({ cls := "SundialTreaty$State", name := "<init>", desc := "()V" } : Jvm.MethodName) ∈ ab_TG := ab_in (tk_2 16 (by decide +kernel)) (by decide +kernel)
theorem tg_399 : Jvm.Cond.code ({ cls := "SundialTreaty$State", name := "<init>", desc := "()V" } : Jvm.MethodName) prog_9_method_1_code (1 : Nat) (Option.none : Option Jvm.ClassFile.FieldType) ∈ ab_TG := ab_in (tk_2 17 (by decide +kernel)) (by decide +kernel)
theorem tn_397 : Jvm.Cond.methodLinkNest "SundialTreaty" (35 : Nat) ({ cls := "SundialTreaty$State", name := "<init>", desc := "()V" } : Jvm.MethodName) "SundialTreaty" ∈ lw_tbl := tk_2 15 (by decide +kernel)
theorem tg_588 : Jvm.Cond.fieldLink "SundialTreaty" (36 : Nat) "SundialTreaty" "state" "LSundialTreaty$State;" ∈ ab_TG := ab_in (tk_2 206 (by decide +kernel)) (by decide +kernel)
theorem tg_589 : Jvm.Cond.fieldLink "SundialTreaty" (40 : Nat) "SundialTreaty" "trial" "LSundialTreaty$State;" ∈ ab_TG := ab_in (tk_2 207 (by decide +kernel)) (by decide +kernel)
theorem tg_431 : Jvm.Cond.classLink "SundialTreaty" (43 : Nat) "SundialTreaty$History" ∈ ab_TG := ab_in (tk_2 49 (by decide +kernel)) (by decide +kernel)
theorem tg_432 : Jvm.Cond.instantiable "SundialTreaty$History" (2 : Nat) ∈ ab_TG := ab_in (tk_2 50 (by decide +kernel)) (by decide +kernel)
theorem tg_152 : Jvm.Cond.initialized "SundialTreaty$History" ∈ ab_TG := ab_in (tk_1 10 (by decide +kernel)) (by decide +kernel)
theorem tg_434 : Jvm.Cond.instanceMethod ({ cls := "SundialTreaty$History", name := "<init>", desc := "()V" } : Jvm.MethodName) ∈ ab_TG := ab_in (tk_2 52 (by decide +kernel)) (by decide +kernel)
theorem tg_435 : Jvm.Cond.code ({ cls := "SundialTreaty$History", name := "<init>", desc := "()V" } : Jvm.MethodName) prog_3_method_1_code (2 : Nat) (Option.none : Option Jvm.ClassFile.FieldType) ∈ ab_TG := ab_in (tk_2 53 (by decide +kernel)) (by decide +kernel)
theorem tn_433 : Jvm.Cond.methodLinkNest "SundialTreaty" (45 : Nat) ({ cls := "SundialTreaty$History", name := "<init>", desc := "()V" } : Jvm.MethodName) "SundialTreaty" ∈ lw_tbl := tk_2 51 (by decide +kernel)
theorem tg_590 : Jvm.Cond.fieldLink "SundialTreaty" (46 : Nat) "SundialTreaty" "history" "LSundialTreaty$History;" ∈ ab_TG := ab_in (tk_2 208 (by decide +kernel)) (by decide +kernel)
theorem tg_448 : Jvm.Cond.classLink "SundialTreaty" (50 : Nat) "SundialTreaty$Sentence" ∈ ab_TG := ab_in (tk_2 66 (by decide +kernel)) (by decide +kernel)
theorem tg_449 : Jvm.Cond.instantiable "SundialTreaty$Sentence" (5 : Nat) ∈ ab_TG := ab_in (tk_2 67 (by decide +kernel)) (by decide +kernel)
theorem tg_153 : Jvm.Cond.initialized "SundialTreaty$Sentence" ∈ ab_TG := ab_in (tk_1 11 (by decide +kernel)) (by decide +kernel)
theorem tg_451 : Jvm.Cond.instanceMethod ({ cls := "SundialTreaty$Sentence", name := "<init>", desc := "()V" } : Jvm.MethodName) ∈ ab_TG := ab_in (tk_2 69 (by decide +kernel)) (by decide +kernel)
theorem tg_452 : Jvm.Cond.code ({ cls := "SundialTreaty$Sentence", name := "<init>", desc := "()V" } : Jvm.MethodName) prog_8_method_1_code (1 : Nat) (Option.none : Option Jvm.ClassFile.FieldType) ∈ ab_TG := ab_in (tk_2 70 (by decide +kernel)) (by decide +kernel)
theorem tn_450 : Jvm.Cond.methodLinkNest "SundialTreaty" (52 : Nat) ({ cls := "SundialTreaty$Sentence", name := "<init>", desc := "()V" } : Jvm.MethodName) "SundialTreaty" ∈ lw_tbl := tk_2 68 (by decide +kernel)
theorem tg_591 : Jvm.Cond.fieldLink "SundialTreaty" (53 : Nat) "SundialTreaty" "saying" "LSundialTreaty$Sentence;" ∈ ab_TG := ab_in (tk_2 209 (by decide +kernel)) (by decide +kernel)
theorem tg_592 : Jvm.Cond.fieldLink "SundialTreaty" (57 : Nat) "SundialTreaty" "sayingDraft" "LSundialTreaty$Sentence;" ∈ ab_TG := ab_in (tk_2 210 (by decide +kernel)) (by decide +kernel)
theorem tg_472 : Jvm.Cond.classLink "SundialTreaty" (60 : Nat) "SundialTreaty$Book" ∈ ab_TG := ab_in (tk_2 90 (by decide +kernel)) (by decide +kernel)
theorem tg_473 : Jvm.Cond.instantiable "SundialTreaty$Book" (10 : Nat) ∈ ab_TG := ab_in (tk_2 91 (by decide +kernel)) (by decide +kernel)
theorem tg_154 : Jvm.Cond.initialized "SundialTreaty$Book" ∈ ab_TG := ab_in (tk_1 12 (by decide +kernel)) (by decide +kernel)
theorem tg_475 : Jvm.Cond.instanceMethod ({ cls := "SundialTreaty$Book", name := "<init>", desc := "()V" } : Jvm.MethodName) ∈ ab_TG := ab_in (tk_2 93 (by decide +kernel)) (by decide +kernel)
theorem tg_476 : Jvm.Cond.code ({ cls := "SundialTreaty$Book", name := "<init>", desc := "()V" } : Jvm.MethodName) prog_2_method_1_code (1 : Nat) (Option.none : Option Jvm.ClassFile.FieldType) ∈ ab_TG := ab_in (tk_2 94 (by decide +kernel)) (by decide +kernel)
theorem tn_474 : Jvm.Cond.methodLinkNest "SundialTreaty" (62 : Nat) ({ cls := "SundialTreaty$Book", name := "<init>", desc := "()V" } : Jvm.MethodName) "SundialTreaty" ∈ lw_tbl := tk_2 92 (by decide +kernel)
theorem tg_593 : Jvm.Cond.fieldLink "SundialTreaty" (63 : Nat) "SundialTreaty" "pages" "LSundialTreaty$Book;" ∈ ab_TG := ab_in (tk_2 211 (by decide +kernel)) (by decide +kernel)
theorem tg_515 : Jvm.Cond.classLink "SundialTreaty" (67 : Nat) "SundialTreaty$Router" ∈ ab_TG := ab_in (tk_2 133 (by decide +kernel)) (by decide +kernel)
theorem tg_516 : Jvm.Cond.instantiable "SundialTreaty$Router" (5 : Nat) ∈ ab_TG := ab_in (tk_2 134 (by decide +kernel)) (by decide +kernel)
theorem tg_155 : Jvm.Cond.initialized "SundialTreaty$Router" ∈ ab_TG := ab_in (tk_1 13 (by decide +kernel)) (by decide +kernel)
theorem tg_518 : Jvm.Cond.instanceMethod ({ cls := "SundialTreaty$Router", name := "<init>", desc := "()V" } : Jvm.MethodName) ∈ ab_TG := ab_in (tk_2 136 (by decide +kernel)) (by decide +kernel)
theorem tg_519 : Jvm.Cond.code ({ cls := "SundialTreaty$Router", name := "<init>", desc := "()V" } : Jvm.MethodName) prog_7_method_1_code (1 : Nat) (Option.none : Option Jvm.ClassFile.FieldType) ∈ ab_TG := ab_in (tk_2 137 (by decide +kernel)) (by decide +kernel)
theorem tn_517 : Jvm.Cond.methodLinkNest "SundialTreaty" (69 : Nat) ({ cls := "SundialTreaty$Router", name := "<init>", desc := "()V" } : Jvm.MethodName) "SundialTreaty" ∈ lw_tbl := tk_2 135 (by decide +kernel)
theorem tg_594 : Jvm.Cond.fieldLink "SundialTreaty" (70 : Nat) "SundialTreaty" "router" "LSundialTreaty$Router;" ∈ ab_TG := ab_in (tk_2 212 (by decide +kernel)) (by decide +kernel)
theorem tg_539 : Jvm.Cond.classLink "SundialTreaty" (74 : Nat) "SundialTreaty$Motto" ∈ ab_TG := ab_in (tk_2 157 (by decide +kernel)) (by decide +kernel)
theorem tg_540 : Jvm.Cond.instantiable "SundialTreaty$Motto" (2 : Nat) ∈ ab_TG := ab_in (tk_2 158 (by decide +kernel)) (by decide +kernel)
theorem tg_156 : Jvm.Cond.initialized "SundialTreaty$Motto" ∈ ab_TG := ab_in (tk_1 14 (by decide +kernel)) (by decide +kernel)
theorem tg_542 : Jvm.Cond.instanceMethod ({ cls := "SundialTreaty$Motto", name := "<init>", desc := "()V" } : Jvm.MethodName) ∈ ab_TG := ab_in (tk_2 160 (by decide +kernel)) (by decide +kernel)
theorem tg_543 : Jvm.Cond.code ({ cls := "SundialTreaty$Motto", name := "<init>", desc := "()V" } : Jvm.MethodName) prog_5_method_1_code (1 : Nat) (Option.none : Option Jvm.ClassFile.FieldType) ∈ ab_TG := ab_in (tk_2 161 (by decide +kernel)) (by decide +kernel)
theorem tn_541 : Jvm.Cond.methodLinkNest "SundialTreaty" (76 : Nat) ({ cls := "SundialTreaty$Motto", name := "<init>", desc := "()V" } : Jvm.MethodName) "SundialTreaty" ∈ lw_tbl := tk_2 159 (by decide +kernel)
theorem tg_595 : Jvm.Cond.fieldLink "SundialTreaty" (77 : Nat) "SundialTreaty" "words" "LSundialTreaty$Motto;" ∈ ab_TG := ab_in (tk_2 213 (by decide +kernel)) (by decide +kernel)
theorem tg_554 : Jvm.Cond.classLink "SundialTreaty" (81 : Nat) "SundialTreaty$Image" ∈ ab_TG := ab_in (tk_2 172 (by decide +kernel)) (by decide +kernel)
theorem tg_556 : Jvm.Cond.instantiable "SundialTreaty$Image" (4 : Nat) ∈ ab_TG := ab_in (tk_2 174 (by decide +kernel)) (by decide +kernel)
theorem tg_157 : Jvm.Cond.initialized "SundialTreaty$Image" ∈ ab_TG := ab_in (tk_1 15 (by decide +kernel)) (by decide +kernel)
theorem tg_558 : Jvm.Cond.instanceMethod ({ cls := "SundialTreaty$Image", name := "<init>", desc := "()V" } : Jvm.MethodName) ∈ ab_TG := ab_in (tk_2 176 (by decide +kernel)) (by decide +kernel)
theorem tg_559 : Jvm.Cond.code ({ cls := "SundialTreaty$Image", name := "<init>", desc := "()V" } : Jvm.MethodName) prog_4_method_1_code (1 : Nat) (Option.none : Option Jvm.ClassFile.FieldType) ∈ ab_TG := ab_in (tk_2 177 (by decide +kernel)) (by decide +kernel)
theorem tn_557 : Jvm.Cond.methodLinkNest "SundialTreaty" (83 : Nat) ({ cls := "SundialTreaty$Image", name := "<init>", desc := "()V" } : Jvm.MethodName) "SundialTreaty" ∈ lw_tbl := tk_2 175 (by decide +kernel)
theorem tg_596 : Jvm.Cond.fieldLink "SundialTreaty" (84 : Nat) "SundialTreaty" "images" "[LSundialTreaty$Image;" ∈ ab_TG := ab_in (tk_2 214 (by decide +kernel)) (by decide +kernel)
theorem tg_290 : Jvm.Cond.arrayClass Jvm.ClassFile.FieldType.int ∈ ab_TG := ab_in (tk_1 148 (by decide +kernel)) (by decide +kernel)
theorem tg_597 : Jvm.Cond.fieldLink "SundialTreaty" (88 : Nat) "SundialTreaty" "evenBy" "[I" ∈ ab_TG := ab_in (tk_2 215 (by decide +kernel)) (by decide +kernel)
theorem tg_598 : Jvm.Cond.fieldLink "SundialTreaty" (92 : Nat) "SundialTreaty" "evenTowns" "I" ∈ ab_TG := ab_in (tk_2 216 (by decide +kernel)) (by decide +kernel)
theorem tg_599 : Jvm.Cond.fieldLink "SundialTreaty" (96 : Nat) "SundialTreaty" "nearerBends" "[I" ∈ ab_TG := ab_in (tk_2 217 (by decide +kernel)) (by decide +kernel)
theorem tg_600 : Jvm.Cond.fieldLink "SundialTreaty" (99 : Nat) "SundialTreaty" "nearerTowns" "I" ∈ ab_TG := ab_in (tk_2 218 (by decide +kernel)) (by decide +kernel)
theorem tg_179 : Jvm.Cond.methodLink "SundialTreaty$Reader" (3 : Nat) ({ cls := "java/lang/Object", name := "<init>", desc := "()V" } : Jvm.MethodName) ∈ ab_TG := ab_in (tk_1 37 (by decide +kernel)) (by decide +kernel)
theorem tg_229 : Jvm.Cond.fieldLink "SundialTreaty$Reader" (9 : Nat) "SundialTreaty$Reader" "bytes" "[I" ∈ ab_TG := ab_in (tk_1 87 (by decide +kernel)) (by decide +kernel)
theorem tg_231 : Jvm.Cond.fieldLink "SundialTreaty$Reader" (15 : Nat) "SundialTreaty$Reader" "size" "I" ∈ ab_TG := ab_in (tk_1 89 (by decide +kernel)) (by decide +kernel)
theorem tg_233 : Jvm.Cond.fieldLink "SundialTreaty$Reader" (19 : Nat) "SundialTreaty$Reader" "most" "I" ∈ ab_TG := ab_in (tk_1 91 (by decide +kernel)) (by decide +kernel)
theorem tg_234 : Jvm.Cond.fieldLink "SundialTreaty$Reader" (22 : Nat) "SundialTreaty$Reader" "pos" "I" ∈ ab_TG := ab_in (tk_1 92 (by decide +kernel)) (by decide +kernel)
theorem tg_235 : Jvm.Cond.fieldLink "SundialTreaty$Reader" (25 : Nat) "SundialTreaty$Reader" "start" "I" ∈ ab_TG := ab_in (tk_1 93 (by decide +kernel)) (by decide +kernel)
theorem tg_236 : Jvm.Cond.fieldLink "SundialTreaty$Reader" (28 : Nat) "SundialTreaty$Reader" "kind" "I" ∈ ab_TG := ab_in (tk_1 94 (by decide +kernel)) (by decide +kernel)
theorem tg_239 : Jvm.Cond.fieldLink "SundialTreaty$Reader" (31 : Nat) "SundialTreaty$Reader" "letters" "J" ∈ ab_TG := ab_in (tk_1 97 (by decide +kernel)) (by decide +kernel)
theorem tg_240 : Jvm.Cond.fieldLink "SundialTreaty$Reader" (35 : Nat) "SundialTreaty$Reader" "digits" "I" ∈ ab_TG := ab_in (tk_1 98 (by decide +kernel)) (by decide +kernel)
theorem tg_241 : Jvm.Cond.fieldLink "SundialTreaty$Reader" (38 : Nat) "SundialTreaty$Reader" "word" "I" ∈ ab_TG := ab_in (tk_1 99 (by decide +kernel)) (by decide +kernel)
theorem tg_245 : Jvm.Cond.fieldLink "SundialTreaty$Reader" (41 : Nat) "SundialTreaty$Reader" "value" "I" ∈ ab_TG := ab_in (tk_1 103 (by decide +kernel)) (by decide +kernel)
theorem tg_249 : Jvm.Cond.fieldLink "SundialTreaty$Reader" (44 : Nat) "SundialTreaty$Reader" "name" "J" ∈ ab_TG := ab_in (tk_1 107 (by decide +kernel)) (by decide +kernel)
theorem tg_251 : Jvm.Cond.fieldLink "SundialTreaty$Reader" (47 : Nat) "SundialTreaty$Reader" "way" "I" ∈ ab_TG := ab_in (tk_1 109 (by decide +kernel)) (by decide +kernel)
theorem tg_254 : Jvm.Cond.fieldLink "SundialTreaty$Reader" (50 : Nat) "SundialTreaty$Reader" "faultKind" "I" ∈ ab_TG := ab_in (tk_1 112 (by decide +kernel)) (by decide +kernel)
theorem tg_256 : Jvm.Cond.fieldLink "SundialTreaty$Reader" (53 : Nat) "SundialTreaty$Reader" "faultPlace" "I" ∈ ab_TG := ab_in (tk_1 114 (by decide +kernel)) (by decide +kernel)
theorem tg_291 : Jvm.Cond.arrayClass Jvm.ClassFile.FieldType.long ∈ ab_TG := ab_in (tk_1 149 (by decide +kernel)) (by decide +kernel)
theorem tg_258 : Jvm.Cond.fieldLink "SundialTreaty$Reader" (56 : Nat) "SundialTreaty$Reader" "wordLetters" "[J" ∈ ab_TG := ab_in (tk_1 116 (by decide +kernel)) (by decide +kernel)
theorem tg_145 : Jvm.Cond.initialized "java/lang/String" ∈ ab_TG := ab_in (tk_1 3 (by decide +kernel)) (by decide +kernel)
theorem tg_182 : Jvm.Cond.instanceMethod ({ cls := "java/lang/String", name := "length", desc := "()I" } : Jvm.MethodName) ∈ ab_TG := ab_in (tk_1 40 (by decide +kernel)) (by decide +kernel)
theorem tg_184 : Jvm.Cond.code ({ cls := "java/lang/String", name := "length", desc := "()I" } : Jvm.MethodName) prog_21_method_54_code (1 : Nat) (Option.some Jvm.ClassFile.FieldType.int) ∈ ab_TG := ab_in (tk_1 42 (by decide +kernel)) (by decide +kernel)
theorem tg_181 : Jvm.Cond.methodLink "SundialTreaty$Reader" (62 : Nat) ({ cls := "java/lang/String", name := "length", desc := "()I" } : Jvm.MethodName) ∈ ab_TG := ab_in (tk_1 39 (by decide +kernel)) (by decide +kernel)
theorem tg_183 : Jvm.Cond.selects "java/lang/String" ({ cls := "java/lang/String", name := "length", desc := "()I" } : Jvm.MethodName) ({ cls := "java/lang/String", name := "length", desc := "()I" } : Jvm.MethodName) ∈ ab_TG := ab_in (tk_1 41 (by decide +kernel)) (by decide +kernel)
theorem tg_192 : Jvm.Cond.instanceMethod ({ cls := "java/lang/String", name := "charAt", desc := "(I)C" } : Jvm.MethodName) ∈ ab_TG := ab_in (tk_1 50 (by decide +kernel)) (by decide +kernel)
theorem tg_194 : Jvm.Cond.code ({ cls := "java/lang/String", name := "charAt", desc := "(I)C" } : Jvm.MethodName) prog_21_method_56_code (2 : Nat) (Option.some Jvm.ClassFile.FieldType.char) ∈ ab_TG := ab_in (tk_1 52 (by decide +kernel)) (by decide +kernel)
theorem tg_191 : Jvm.Cond.methodLink "SundialTreaty$Reader" (68 : Nat) ({ cls := "java/lang/String", name := "charAt", desc := "(I)C" } : Jvm.MethodName) ∈ ab_TG := ab_in (tk_1 49 (by decide +kernel)) (by decide +kernel)
theorem tg_193 : Jvm.Cond.selects "java/lang/String" ({ cls := "java/lang/String", name := "charAt", desc := "(I)C" } : Jvm.MethodName) ({ cls := "java/lang/String", name := "charAt", desc := "(I)C" } : Jvm.MethodName) ∈ ab_TG := ab_in (tk_1 51 (by decide +kernel)) (by decide +kernel)
theorem tg_1972 : Jvm.Cond.fieldLink "java/lang/String" (9 : Nat) "java/lang/String" "value" "[B" ∈ ab_TG := ab_in (tk_8 150 (by decide +kernel)) (by decide +kernel)
theorem tg_186 : Jvm.Cond.instanceMethod ({ cls := "java/lang/String", name := "coder", desc := "()B" } : Jvm.MethodName) ∈ ab_TG := ab_in (tk_1 44 (by decide +kernel)) (by decide +kernel)
theorem tg_188 : Jvm.Cond.code ({ cls := "java/lang/String", name := "coder", desc := "()B" } : Jvm.MethodName) prog_21_method_152_code (1 : Nat) (Option.some Jvm.ClassFile.FieldType.byte) ∈ ab_TG := ab_in (tk_1 46 (by decide +kernel)) (by decide +kernel)
theorem tg_185 : Jvm.Cond.methodLink "java/lang/String" (335 : Nat) ({ cls := "java/lang/String", name := "coder", desc := "()B" } : Jvm.MethodName) ∈ ab_TG := ab_in (tk_1 43 (by decide +kernel)) (by decide +kernel)
theorem tg_187 : Jvm.Cond.selects "java/lang/String" ({ cls := "java/lang/String", name := "coder", desc := "()B" } : Jvm.MethodName) ({ cls := "java/lang/String", name := "coder", desc := "()B" } : Jvm.MethodName) ∈ ab_TG := ab_in (tk_1 45 (by decide +kernel)) (by decide +kernel)
theorem tg_189 : Jvm.Cond.fieldLink "java/lang/String" (38 : Nat) "java/lang/String" "COMPACT_STRINGS" "Z" ∈ ab_TG := ab_in (tk_1 47 (by decide +kernel)) (by decide +kernel)
theorem tg_1973 : Jvm.Cond.fieldLink "java/lang/String" (15 : Nat) "java/lang/String" "coder" "B" ∈ ab_TG := ab_in (tk_8 151 (by decide +kernel)) (by decide +kernel)
theorem tg_196 : Jvm.Cond.instanceMethod ({ cls := "java/lang/String", name := "isLatin1", desc := "()Z" } : Jvm.MethodName) ∈ ab_TG := ab_in (tk_1 54 (by decide +kernel)) (by decide +kernel)
theorem tg_198 : Jvm.Cond.code ({ cls := "java/lang/String", name := "isLatin1", desc := "()Z" } : Jvm.MethodName) prog_21_method_154_code (1 : Nat) (Option.some Jvm.ClassFile.FieldType.boolean) ∈ ab_TG := ab_in (tk_1 56 (by decide +kernel)) (by decide +kernel)
theorem tg_195 : Jvm.Cond.methodLink "java/lang/String" (492 : Nat) ({ cls := "java/lang/String", name := "isLatin1", desc := "()Z" } : Jvm.MethodName) ∈ ab_TG := ab_in (tk_1 53 (by decide +kernel)) (by decide +kernel)
theorem tg_197 : Jvm.Cond.selects "java/lang/String" ({ cls := "java/lang/String", name := "isLatin1", desc := "()Z" } : Jvm.MethodName) ({ cls := "java/lang/String", name := "isLatin1", desc := "()Z" } : Jvm.MethodName) ∈ ab_TG := ab_in (tk_1 55 (by decide +kernel)) (by decide +kernel)
theorem tg_146 : Jvm.Cond.initialized "java/lang/StringLatin1" ∈ ab_TG := ab_in (tk_1 4 (by decide +kernel)) (by decide +kernel)
theorem tg_201 : Jvm.Cond.code ({ cls := "java/lang/StringLatin1", name := "charAt", desc := "([BI)C" } : Jvm.MethodName) prog_22_method_2_code (2 : Nat) (Option.some Jvm.ClassFile.FieldType.char) ∈ ab_TG := ab_in (tk_1 59 (by decide +kernel)) (by decide +kernel)
theorem tg_199 : Jvm.Cond.methodLink "java/lang/String" (495 : Nat) ({ cls := "java/lang/StringLatin1", name := "charAt", desc := "([BI)C" } : Jvm.MethodName) ∈ ab_TG := ab_in (tk_1 57 (by decide +kernel)) (by decide +kernel)
theorem tg_200 : Jvm.Cond.static ({ cls := "java/lang/StringLatin1", name := "charAt", desc := "([BI)C" } : Jvm.MethodName) ∈ ab_TG := ab_in (tk_1 58 (by decide +kernel)) (by decide +kernel)
theorem tg_204 : Jvm.Cond.code ({ cls := "java/lang/String", name := "checkIndex", desc := "(II)V" } : Jvm.MethodName) prog_21_method_155_code (2 : Nat) (Option.none : Option Jvm.ClassFile.FieldType) ∈ ab_TG := ab_in (tk_1 62 (by decide +kernel)) (by decide +kernel)
theorem tg_202 : Jvm.Cond.methodLink "java/lang/StringLatin1" (9 : Nat) ({ cls := "java/lang/String", name := "checkIndex", desc := "(II)V" } : Jvm.MethodName) ∈ ab_TG := ab_in (tk_1 60 (by decide +kernel)) (by decide +kernel)
theorem tg_203 : Jvm.Cond.static ({ cls := "java/lang/String", name := "checkIndex", desc := "(II)V" } : Jvm.MethodName) ∈ ab_TG := ab_in (tk_1 61 (by decide +kernel)) (by decide +kernel)
theorem tg_205 : Jvm.Cond.fieldLink "java/lang/String" (1053 : Nat) "jdk/internal/util/Preconditions" "SIOOBE_FORMATTER" "Ljava/util/function/BiFunction;" ∈ ab_TG := ab_in (tk_1 63 (by decide +kernel)) (by decide +kernel)
theorem tg_147 : Jvm.Cond.initialized "jdk/internal/util/Preconditions" ∈ ab_TG := ab_in (tk_1 5 (by decide +kernel)) (by decide +kernel)
theorem tg_209 : Jvm.Cond.code ({ cls := "jdk/internal/util/Preconditions", name := "checkIndex", desc := "(IILjava/util/function/BiFunction;)I" } : Jvm.MethodName) prog_29_method_11_code (3 : Nat) (Option.some Jvm.ClassFile.FieldType.int) ∈ ab_TG := ab_in (tk_1 67 (by decide +kernel)) (by decide +kernel)
theorem tg_207 : Jvm.Cond.methodLink "java/lang/String" (1059 : Nat) ({ cls := "jdk/internal/util/Preconditions", name := "checkIndex", desc := "(IILjava/util/function/BiFunction;)I" } : Jvm.MethodName) ∈ ab_TG := ab_in (tk_1 65 (by decide +kernel)) (by decide +kernel)
theorem tg_208 : Jvm.Cond.static ({ cls := "jdk/internal/util/Preconditions", name := "checkIndex", desc := "(IILjava/util/function/BiFunction;)I" } : Jvm.MethodName) ∈ ab_TG := ab_in (tk_1 66 (by decide +kernel)) (by decide +kernel)
theorem tg_298 : Jvm.Cond.methodLink "SundialTreaty$ValleyText" (3 : Nat) ({ cls := "java/lang/Object", name := "<init>", desc := "()V" } : Jvm.MethodName) ∈ ab_TG := ab_in (tk_1 156 (by decide +kernel)) (by decide +kernel)
theorem tg_299 : Jvm.Cond.fieldLink "SundialTreaty$ValleyText" (9 : Nat) "SundialTreaty$ValleyText" "HIGHEST" "[I" ∈ ab_TG := ab_in (tk_1 157 (by decide +kernel)) (by decide +kernel)
theorem tg_305 : Jvm.Cond.arrayClass Jvm.ClassFile.FieldType.boolean ∈ ab_TG := ab_in (tk_1 163 (by decide +kernel)) (by decide +kernel)
theorem tg_301 : Jvm.Cond.fieldLink "SundialTreaty$ValleyText" (15 : Nat) "SundialTreaty$ValleyText" "isSet" "[Z" ∈ ab_TG := ab_in (tk_1 159 (by decide +kernel)) (by decide +kernel)
theorem tg_311 : Jvm.Cond.methodLink "SundialTreaty$Valley" (3 : Nat) ({ cls := "java/lang/Object", name := "<init>", desc := "()V" } : Jvm.MethodName) ∈ ab_TG := ab_in (tk_1 169 (by decide +kernel)) (by decide +kernel)
theorem tg_312 : Jvm.Cond.fieldLink "SundialTreaty$Valley" (9 : Nat) "SundialTreaty$Valley" "towns" "I" ∈ ab_TG := ab_in (tk_1 170 (by decide +kernel)) (by decide +kernel)
theorem tg_316 : Jvm.Cond.fieldLink "SundialTreaty$Valley" (15 : Nat) "SundialTreaty$Valley" "townName" "[J" ∈ ab_TG := ab_in (tk_1 174 (by decide +kernel)) (by decide +kernel)
theorem tg_319 : Jvm.Cond.fieldLink "SundialTreaty$Valley" (19 : Nat) "SundialTreaty$Valley" "noon" "[I" ∈ ab_TG := ab_in (tk_1 177 (by decide +kernel)) (by decide +kernel)
theorem tg_323 : Jvm.Cond.fieldLink "SundialTreaty$Valley" (23 : Nat) "SundialTreaty$Valley" "bendTold" "[I" ∈ ab_TG := ab_in (tk_1 181 (by decide +kernel)) (by decide +kernel)
theorem tg_326 : Jvm.Cond.fieldLink "SundialTreaty$Valley" (26 : Nat) "SundialTreaty$Valley" "terms" "I" ∈ ab_TG := ab_in (tk_1 184 (by decide +kernel)) (by decide +kernel)
theorem tg_329 : Jvm.Cond.fieldLink "SundialTreaty$Valley" (29 : Nat) "SundialTreaty$Valley" "termTown" "[I" ∈ ab_TG := ab_in (tk_1 187 (by decide +kernel)) (by decide +kernel)
theorem tg_331 : Jvm.Cond.fieldLink "SundialTreaty$Valley" (32 : Nat) "SundialTreaty$Valley" "termFrom" "[I" ∈ ab_TG := ab_in (tk_1 189 (by decide +kernel)) (by decide +kernel)
theorem tg_333 : Jvm.Cond.fieldLink "SundialTreaty$Valley" (35 : Nat) "SundialTreaty$Valley" "termTo" "[I" ∈ ab_TG := ab_in (tk_1 191 (by decide +kernel)) (by decide +kernel)
theorem tg_335 : Jvm.Cond.fieldLink "SundialTreaty$Valley" (38 : Nat) "SundialTreaty$Valley" "termBend" "[I" ∈ ab_TG := ab_in (tk_1 193 (by decide +kernel)) (by decide +kernel)
theorem tg_337 : Jvm.Cond.fieldLink "SundialTreaty$Valley" (41 : Nat) "SundialTreaty$Valley" "trains" "I" ∈ ab_TG := ab_in (tk_1 195 (by decide +kernel)) (by decide +kernel)
theorem tg_341 : Jvm.Cond.fieldLink "SundialTreaty$Valley" (44 : Nat) "SundialTreaty$Valley" "trainName" "[J" ∈ ab_TG := ab_in (tk_1 199 (by decide +kernel)) (by decide +kernel)
theorem tg_343 : Jvm.Cond.fieldLink "SundialTreaty$Valley" (47 : Nat) "SundialTreaty$Valley" "trainFrom" "[I" ∈ ab_TG := ab_in (tk_1 201 (by decide +kernel)) (by decide +kernel)
theorem tg_348 : Jvm.Cond.fieldLink "SundialTreaty$Valley" (50 : Nat) "SundialTreaty$Valley" "trainTo" "[I" ∈ ab_TG := ab_in (tk_1 206 (by decide +kernel)) (by decide +kernel)
theorem tg_352 : Jvm.Cond.fieldLink "SundialTreaty$Valley" (53 : Nat) "SundialTreaty$Valley" "trainLeaves" "[I" ∈ ab_TG := ab_in (tk_1 210 (by decide +kernel)) (by decide +kernel)
theorem tg_356 : Jvm.Cond.fieldLink "SundialTreaty$Valley" (56 : Nat) "SundialTreaty$Valley" "trainTakes" "[I" ∈ ab_TG := ab_in (tk_1 214 (by decide +kernel)) (by decide +kernel)
theorem tg_360 : Jvm.Cond.fieldLink "SundialTreaty$Valley" (59 : Nat) "SundialTreaty$Valley" "settings" "[I" ∈ ab_TG := ab_in (tk_1 218 (by decide +kernel)) (by decide +kernel)
theorem tg_400 : Jvm.Cond.methodLink "SundialTreaty$State" (3 : Nat) ({ cls := "java/lang/Object", name := "<init>", desc := "()V" } : Jvm.MethodName) ∈ ab_TG := ab_in (tk_2 18 (by decide +kernel)) (by decide +kernel)
theorem tg_401 : Jvm.Cond.fieldLink "SundialTreaty$State" (9 : Nat) "SundialTreaty$State" "day" "I" ∈ ab_TG := ab_in (tk_2 19 (by decide +kernel)) (by decide +kernel)
theorem tg_404 : Jvm.Cond.fieldLink "SundialTreaty$State" (15 : Nat) "SundialTreaty$State" "shadedBits" "I" ∈ ab_TG := ab_in (tk_2 22 (by decide +kernel)) (by decide +kernel)
theorem tg_406 : Jvm.Cond.fieldLink "SundialTreaty$State" (18 : Nat) "SundialTreaty$State" "bentBits" "I" ∈ ab_TG := ab_in (tk_2 24 (by decide +kernel)) (by decide +kernel)
theorem tg_407 : Jvm.Cond.fieldLink "SundialTreaty$State" (21 : Nat) "SundialTreaty$State" "bends" "[I" ∈ ab_TG := ab_in (tk_2 25 (by decide +kernel)) (by decide +kernel)
theorem tg_410 : Jvm.Cond.fieldLink "SundialTreaty$State" (25 : Nat) "SundialTreaty$State" "breaches" "[I" ∈ ab_TG := ab_in (tk_2 28 (by decide +kernel)) (by decide +kernel)
theorem tg_413 : Jvm.Cond.fieldLink "SundialTreaty$State" (28 : Nat) "SundialTreaty$State" "sprung" "[I" ∈ ab_TG := ab_in (tk_2 31 (by decide +kernel)) (by decide +kernel)
theorem tg_415 : Jvm.Cond.fieldLink "SundialTreaty$State" (31 : Nat) "SundialTreaty$State" "seed" "I" ∈ ab_TG := ab_in (tk_2 33 (by decide +kernel)) (by decide +kernel)
theorem tg_436 : Jvm.Cond.methodLink "SundialTreaty$History" (3 : Nat) ({ cls := "java/lang/Object", name := "<init>", desc := "()V" } : Jvm.MethodName) ∈ ab_TG := ab_in (tk_2 54 (by decide +kernel)) (by decide +kernel)
theorem tg_437 : Jvm.Cond.classLink "SundialTreaty$History" (11 : Nat) "SundialTreaty$State" ∈ ab_TG := ab_in (tk_2 55 (by decide +kernel)) (by decide +kernel)
theorem tg_440 : Jvm.Cond.fieldLink "SundialTreaty$History" (13 : Nat) "SundialTreaty$History" "states" "[LSundialTreaty$State;" ∈ ab_TG := ab_in (tk_2 58 (by decide +kernel)) (by decide +kernel)
theorem tg_441 : Jvm.Cond.fieldLink "SundialTreaty$History" (17 : Nat) "SundialTreaty$History" "kept" "I" ∈ ab_TG := ab_in (tk_2 59 (by decide +kernel)) (by decide +kernel)
theorem tn_439 : Jvm.Cond.methodLinkNest "SundialTreaty$History" (21 : Nat) ({ cls := "SundialTreaty$State", name := "<init>", desc := "()V" } : Jvm.MethodName) "SundialTreaty" ∈ lw_tbl := tk_2 57 (by decide +kernel)
theorem tg_453 : Jvm.Cond.methodLink "SundialTreaty$Sentence" (5 : Nat) ({ cls := "java/lang/Object", name := "<init>", desc := "()V" } : Jvm.MethodName) ∈ ab_TG := ab_in (tk_2 71 (by decide +kernel)) (by decide +kernel)
theorem tg_454 : Jvm.Cond.fieldLink "SundialTreaty$Sentence" (11 : Nat) "SundialTreaty$Sentence" "steps" "[I" ∈ ab_TG := ab_in (tk_2 72 (by decide +kernel)) (by decide +kernel)
theorem tg_455 : Jvm.Cond.fieldLink "SundialTreaty$Sentence" (15 : Nat) "SundialTreaty$Sentence" "signs" "[I" ∈ ab_TG := ab_in (tk_2 73 (by decide +kernel)) (by decide +kernel)
theorem tg_456 : Jvm.Cond.fieldLink "SundialTreaty$Sentence" (18 : Nat) "SundialTreaty$Sentence" "numbers" "[I" ∈ ab_TG := ab_in (tk_2 74 (by decide +kernel)) (by decide +kernel)
theorem tg_457 : Jvm.Cond.fieldLink "SundialTreaty$Sentence" (21 : Nat) "SundialTreaty$Sentence" "size" "I" ∈ ab_TG := ab_in (tk_2 75 (by decide +kernel)) (by decide +kernel)
theorem tg_459 : Jvm.Cond.fieldLink "SundialTreaty$Sentence" (25 : Nat) "SundialTreaty$Sentence" "ones" "I" ∈ ab_TG := ab_in (tk_2 77 (by decide +kernel)) (by decide +kernel)
theorem tg_477 : Jvm.Cond.methodLink "SundialTreaty$Book" (3 : Nat) ({ cls := "java/lang/Object", name := "<init>", desc := "()V" } : Jvm.MethodName) ∈ ab_TG := ab_in (tk_2 95 (by decide +kernel)) (by decide +kernel)
theorem tg_478 : Jvm.Cond.fieldLink "SundialTreaty$Book" (11 : Nat) "SundialTreaty$Book" "acts" "[I" ∈ ab_TG := ab_in (tk_2 96 (by decide +kernel)) (by decide +kernel)
theorem tg_479 : Jvm.Cond.fieldLink "SundialTreaty$Book" (15 : Nat) "SundialTreaty$Book" "towns" "[I" ∈ ab_TG := ab_in (tk_2 97 (by decide +kernel)) (by decide +kernel)
theorem tg_480 : Jvm.Cond.fieldLink "SundialTreaty$Book" (18 : Nat) "SundialTreaty$Book" "numbers" "[I" ∈ ab_TG := ab_in (tk_2 98 (by decide +kernel)) (by decide +kernel)
theorem tg_481 : Jvm.Cond.fieldLink "SundialTreaty$Book" (21 : Nat) "SundialTreaty$Book" "lines" "I" ∈ ab_TG := ab_in (tk_2 99 (by decide +kernel)) (by decide +kernel)
theorem tg_482 : Jvm.Cond.fieldLink "SundialTreaty$Book" (25 : Nat) "SundialTreaty$Book" "judged" "Z" ∈ ab_TG := ab_in (tk_2 100 (by decide +kernel)) (by decide +kernel)
theorem tg_484 : Jvm.Cond.fieldLink "SundialTreaty$Book" (29 : Nat) "SundialTreaty$Book" "wrongLine" "I" ∈ ab_TG := ab_in (tk_2 102 (by decide +kernel)) (by decide +kernel)
theorem tg_486 : Jvm.Cond.fieldLink "SundialTreaty$Book" (32 : Nat) "SundialTreaty$Book" "why" "I" ∈ ab_TG := ab_in (tk_2 104 (by decide +kernel)) (by decide +kernel)
theorem tg_488 : Jvm.Cond.fieldLink "SundialTreaty$Book" (35 : Nat) "SundialTreaty$Book" "goodLines" "I" ∈ ab_TG := ab_in (tk_2 106 (by decide +kernel)) (by decide +kernel)
theorem tg_490 : Jvm.Cond.fieldLink "SundialTreaty$Book" (38 : Nat) "SundialTreaty$Book" "dayThen" "I" ∈ ab_TG := ab_in (tk_2 108 (by decide +kernel)) (by decide +kernel)
theorem tg_492 : Jvm.Cond.fieldLink "SundialTreaty$Book" (41 : Nat) "SundialTreaty$Book" "breachesThen" "I" ∈ ab_TG := ab_in (tk_2 110 (by decide +kernel)) (by decide +kernel)
theorem tg_520 : Jvm.Cond.methodLink "SundialTreaty$Router" (3 : Nat) ({ cls := "java/lang/Object", name := "<init>", desc := "()V" } : Jvm.MethodName) ∈ ab_TG := ab_in (tk_2 138 (by decide +kernel)) (by decide +kernel)
theorem tg_521 : Jvm.Cond.fieldLink "SundialTreaty$Router" (9 : Nat) "SundialTreaty$Router" "path" "[I" ∈ ab_TG := ab_in (tk_2 139 (by decide +kernel)) (by decide +kernel)
theorem tg_522 : Jvm.Cond.fieldLink "SundialTreaty$Router" (15 : Nat) "SundialTreaty$Router" "told" "[I" ∈ ab_TG := ab_in (tk_2 140 (by decide +kernel)) (by decide +kernel)
theorem tg_524 : Jvm.Cond.fieldLink "SundialTreaty$Router" (18 : Nat) "SundialTreaty$Router" "toldTrains" "I" ∈ ab_TG := ab_in (tk_2 142 (by decide +kernel)) (by decide +kernel)
theorem tg_526 : Jvm.Cond.fieldLink "SundialTreaty$Router" (22 : Nat) "SundialTreaty$Router" "best" "I" ∈ ab_TG := ab_in (tk_2 144 (by decide +kernel)) (by decide +kernel)
theorem tg_527 : Jvm.Cond.fieldLink "SundialTreaty$Router" (25 : Nat) "SundialTreaty$Router" "goal" "I" ∈ ab_TG := ab_in (tk_2 145 (by decide +kernel)) (by decide +kernel)
theorem tg_544 : Jvm.Cond.methodLink "SundialTreaty$Motto" (1 : Nat) ({ cls := "java/lang/Object", name := "<init>", desc := "()V" } : Jvm.MethodName) ∈ ab_TG := ab_in (tk_2 162 (by decide +kernel)) (by decide +kernel)
theorem tg_545 : Jvm.Cond.fieldLink "SundialTreaty$Motto" (7 : Nat) "SundialTreaty$Motto" "bytes" "[I" ∈ ab_TG := ab_in (tk_2 163 (by decide +kernel)) (by decide +kernel)
theorem tg_547 : Jvm.Cond.fieldLink "SundialTreaty$Motto" (13 : Nat) "SundialTreaty$Motto" "size" "I" ∈ ab_TG := ab_in (tk_2 165 (by decide +kernel)) (by decide +kernel)
theorem tg_560 : Jvm.Cond.methodLink "SundialTreaty$Image" (1 : Nat) ({ cls := "java/lang/Object", name := "<init>", desc := "()V" } : Jvm.MethodName) ∈ ab_TG := ab_in (tk_2 178 (by decide +kernel)) (by decide +kernel)
theorem tg_561 : Jvm.Cond.classLink "SundialTreaty$Image" (7 : Nat) "SundialTreaty$Valley" ∈ ab_TG := ab_in (tk_2 179 (by decide +kernel)) (by decide +kernel)
theorem tn_562 : Jvm.Cond.methodLinkNest "SundialTreaty$Image" (9 : Nat) ({ cls := "SundialTreaty$Valley", name := "<init>", desc := "()V" } : Jvm.MethodName) "SundialTreaty" ∈ lw_tbl := tk_2 180 (by decide +kernel)
theorem tg_567 : Jvm.Cond.fieldLink "SundialTreaty$Image" (10 : Nat) "SundialTreaty$Image" "land" "LSundialTreaty$Valley;" ∈ ab_TG := ab_in (tk_2 185 (by decide +kernel)) (by decide +kernel)
theorem tg_563 : Jvm.Cond.classLink "SundialTreaty$Image" (16 : Nat) "SundialTreaty$State" ∈ ab_TG := ab_in (tk_2 181 (by decide +kernel)) (by decide +kernel)
theorem tn_564 : Jvm.Cond.methodLinkNest "SundialTreaty$Image" (18 : Nat) ({ cls := "SundialTreaty$State", name := "<init>", desc := "()V" } : Jvm.MethodName) "SundialTreaty" ∈ lw_tbl := tk_2 182 (by decide +kernel)
theorem tg_569 : Jvm.Cond.fieldLink "SundialTreaty$Image" (19 : Nat) "SundialTreaty$Image" "state" "LSundialTreaty$State;" ∈ ab_TG := ab_in (tk_2 187 (by decide +kernel)) (by decide +kernel)
theorem tg_565 : Jvm.Cond.classLink "SundialTreaty$Image" (23 : Nat) "SundialTreaty$Sentence" ∈ ab_TG := ab_in (tk_2 183 (by decide +kernel)) (by decide +kernel)
theorem tn_566 : Jvm.Cond.methodLinkNest "SundialTreaty$Image" (25 : Nat) ({ cls := "SundialTreaty$Sentence", name := "<init>", desc := "()V" } : Jvm.MethodName) "SundialTreaty" ∈ lw_tbl := tk_2 184 (by decide +kernel)
theorem tg_571 : Jvm.Cond.fieldLink "SundialTreaty$Image" (26 : Nat) "SundialTreaty$Image" "saying" "LSundialTreaty$Sentence;" ∈ ab_TG := ab_in (tk_2 189 (by decide +kernel)) (by decide +kernel)
theorem tg_573 : Jvm.Cond.fieldLink "SundialTreaty$Image" (30 : Nat) "SundialTreaty$Image" "isKept" "Z" ∈ ab_TG := ab_in (tk_2 191 (by decide +kernel)) (by decide +kernel)
theorem tg_1352 : Jvm.Cond.methodLink "SundialTreatyModel" (27 : Nat) ({ cls := "java/lang/Object", name := "<init>", desc := "()V" } : Jvm.MethodName) ∈ ab_TG := ab_in (tk_6 10 (by decide +kernel)) (by decide +kernel)
theorem tg_292 : Jvm.Cond.arrayClass Jvm.ClassFile.FieldType.byte ∈ ab_TG := ab_in (tk_1 150 (by decide +kernel)) (by decide +kernel)
theorem tg_1380 : Jvm.Cond.fieldLink "SundialTreatyModel" (14 : Nat) "SundialTreatyModel" "tape" "[B" ∈ ab_TG := ab_in (tk_6 38 (by decide +kernel)) (by decide +kernel)
theorem tg_1385 : Jvm.Cond.fieldLink "SundialTreatyModel" (33 : Nat) "SundialTreatyModel" "s" "[I" ∈ ab_TG := ab_in (tk_6 43 (by decide +kernel)) (by decide +kernel)
theorem tg_1386 : Jvm.Cond.fieldLink "SundialTreatyModel" (37 : Nat) "SundialTreatyModel" "h" "[I" ∈ ab_TG := ab_in (tk_6 44 (by decide +kernel)) (by decide +kernel)
theorem tg_1387 : Jvm.Cond.fieldLink "SundialTreatyModel" (40 : Nat) "SundialTreatyModel" "read" "[I" ∈ ab_TG := ab_in (tk_6 45 (by decide +kernel)) (by decide +kernel)
theorem tg_1388 : Jvm.Cond.fieldLink "SundialTreatyModel" (43 : Nat) "SundialTreatyModel" "names" "[J" ∈ ab_TG := ab_in (tk_6 46 (by decide +kernel)) (by decide +kernel)
theorem tg_1389 : Jvm.Cond.fieldLink "SundialTreatyModel" (47 : Nat) "SundialTreatyModel" "reserved" "[J" ∈ ab_TG := ab_in (tk_6 47 (by decide +kernel)) (by decide +kernel)
theorem tg_1400 : Jvm.Cond.fieldLink "SundialTreatyModel" (50 : Nat) "SundialTreatyModel" "undone" "[I" ∈ ab_TG := ab_in (tk_6 58 (by decide +kernel)) (by decide +kernel)
theorem tg_1401 : Jvm.Cond.fieldLink "SundialTreatyModel" (53 : Nat) "SundialTreatyModel" "before" "[I" ∈ ab_TG := ab_in (tk_6 59 (by decide +kernel)) (by decide +kernel)
theorem tg_1403 : Jvm.Cond.fieldLink "SundialTreatyModel" (56 : Nat) "SundialTreatyModel" "noons" "[I" ∈ ab_TG := ab_in (tk_6 61 (by decide +kernel)) (by decide +kernel)
theorem tg_1404 : Jvm.Cond.fieldLink "SundialTreatyModel" (59 : Nat) "SundialTreatyModel" "evenRow" "[I" ∈ ab_TG := ab_in (tk_6 62 (by decide +kernel)) (by decide +kernel)
theorem tg_1405 : Jvm.Cond.fieldLink "SundialTreatyModel" (62 : Nat) "SundialTreatyModel" "nearRow" "[I" ∈ ab_TG := ab_in (tk_6 63 (by decide +kernel)) (by decide +kernel)
theorem tg_1406 : Jvm.Cond.fieldLink "SundialTreatyModel" (65 : Nat) "SundialTreatyModel" "evenMany" "I" ∈ ab_TG := ab_in (tk_6 64 (by decide +kernel)) (by decide +kernel)
theorem tg_1407 : Jvm.Cond.fieldLink "SundialTreatyModel" (68 : Nat) "SundialTreatyModel" "nearMany" "I" ∈ ab_TG := ab_in (tk_6 65 (by decide +kernel)) (by decide +kernel)
theorem tg_1408 : Jvm.Cond.fieldLink "SundialTreatyModel" (71 : Nat) "SundialTreatyModel" "place" "[I" ∈ ab_TG := ab_in (tk_6 66 (by decide +kernel)) (by decide +kernel)
theorem tg_1409 : Jvm.Cond.fieldLink "SundialTreatyModel" (74 : Nat) "SundialTreatyModel" "time" "[I" ∈ ab_TG := ab_in (tk_6 67 (by decide +kernel)) (by decide +kernel)
theorem tg_1410 : Jvm.Cond.fieldLink "SundialTreatyModel" (77 : Nat) "SundialTreatyModel" "tryNext" "[I" ∈ ab_TG := ab_in (tk_6 68 (by decide +kernel)) (by decide +kernel)
theorem tg_1411 : Jvm.Cond.fieldLink "SundialTreatyModel" (80 : Nat) "SundialTreatyModel" "took" "[I" ∈ ab_TG := ab_in (tk_6 69 (by decide +kernel)) (by decide +kernel)
theorem tg_1412 : Jvm.Cond.fieldLink "SundialTreatyModel" (83 : Nat) "SundialTreatyModel" "routeRow" "[I" ∈ ab_TG := ab_in (tk_6 70 (by decide +kernel)) (by decide +kernel)
theorem tg_1413 : Jvm.Cond.fieldLink "SundialTreatyModel" (86 : Nat) "SundialTreatyModel" "routeMany" "I" ∈ ab_TG := ab_in (tk_6 71 (by decide +kernel)) (by decide +kernel)
theorem tg_1414 : Jvm.Cond.fieldLink "SundialTreatyModel" (89 : Nat) "SundialTreatyModel" "text" "[B" ∈ ab_TG := ab_in (tk_6 72 (by decide +kernel)) (by decide +kernel)
theorem tg_1418 : Jvm.Cond.fieldLink "SundialTreatyModel" (92 : Nat) "SundialTreatyModel" "toldAt" "[I" ∈ ab_TG := ab_in (tk_6 76 (by decide +kernel)) (by decide +kernel)
theorem tg_1420 : Jvm.Cond.fieldLink "SundialTreatyModel" (95 : Nat) "SundialTreatyModel" "stack" "[I" ∈ ab_TG := ab_in (tk_6 78 (by decide +kernel)) (by decide +kernel)
theorem tg_1426 : Jvm.Cond.fieldLink "SundialTreatyModel" (98 : Nat) "SundialTreatyModel" "truths" "[Z" ∈ ab_TG := ab_in (tk_6 84 (by decide +kernel)) (by decide +kernel)
theorem tg_1427 : Jvm.Cond.fieldLink "SundialTreatyModel" (102 : Nat) "SundialTreatyModel" "imaged" "[I" ∈ ab_TG := ab_in (tk_6 85 (by decide +kernel)) (by decide +kernel)
theorem tg_1428 : Jvm.Cond.fieldLink "SundialTreatyModel" (105 : Nat) "SundialTreatyModel" "namesKept" "[J" ∈ ab_TG := ab_in (tk_6 86 (by decide +kernel)) (by decide +kernel)
theorem tg_1429 : Jvm.Cond.fieldLink "SundialTreatyModel" (108 : Nat) "SundialTreatyModel" "areKept" "[Z" ∈ ab_TG := ab_in (tk_6 87 (by decide +kernel)) (by decide +kernel)
theorem tg_1353 : Jvm.Cond.constantLong "SundialTreatyModel" (111 : Nat) (1953462126 : Int64) ∈ ab_TG := ab_in (tk_6 11 (by decide +kernel)) (by decide +kernel)
theorem tg_1354 : Jvm.Cond.constantLong "SundialTreatyModel" (113 : Nat) (1717662580 : Int64) ∈ ab_TG := ab_in (tk_6 12 (by decide +kernel)) (by decide +kernel)
theorem tg_1355 : Jvm.Cond.constantLong "SundialTreatyModel" (115 : Nat) (1936486263 : Int64) ∈ ab_TG := ab_in (tk_6 13 (by decide +kernel)) (by decide +kernel)
theorem tg_1356 : Jvm.Cond.constantLong "SundialTreatyModel" (117 : Nat) (1952805485 : Int64) ∈ ab_TG := ab_in (tk_6 14 (by decide +kernel)) (by decide +kernel)
theorem tg_1357 : Jvm.Cond.constantLong "SundialTreatyModel" (119 : Nat) (500135192942 : Int64) ∈ ab_TG := ab_in (tk_6 15 (by decide +kernel)) (by decide +kernel)
theorem tg_1358 : Jvm.Cond.constantLong "SundialTreatyModel" (121 : Nat) (465625246068 : Int64) ∈ ab_TG := ab_in (tk_6 16 (by decide +kernel)) (by decide +kernel)
theorem tg_1359 : Jvm.Cond.constantLong "SundialTreatyModel" (123 : Nat) (109299962373989 : Int64) ∈ ab_TG := ab_in (tk_6 17 (by decide +kernel)) (by decide +kernel)
theorem tg_1360 : Jvm.Cond.constantLong "SundialTreatyModel" (125 : Nat) (440006570868 : Int64) ∈ ab_TG := ab_in (tk_6 18 (by decide +kernel)) (by decide +kernel)
theorem tg_1361 : Jvm.Cond.constantLong "SundialTreatyModel" (127 : Nat) (1650814564 : Int64) ∈ ab_TG := ab_in (tk_6 19 (by decide +kernel)) (by decide +kernel)
theorem tg_1362 : Jvm.Cond.constantLong "SundialTreatyModel" (129 : Nat) (495672452197 : Int64) ∈ ab_TG := ab_in (tk_6 20 (by decide +kernel)) (by decide +kernel)
theorem tg_1363 : Jvm.Cond.constantLong "SundialTreatyModel" (131 : Nat) (427020345714 : Int64) ∈ ab_TG := ab_in (tk_6 21 (by decide +kernel)) (by decide +kernel)
theorem tg_1364 : Jvm.Cond.constantLong "SundialTreatyModel" (133 : Nat) (112641513454181 : Int64) ∈ ab_TG := ab_in (tk_6 22 (by decide +kernel)) (by decide +kernel)
theorem tg_1365 : Jvm.Cond.constantLong "SundialTreatyModel" (135 : Nat) (6578553 : Int64) ∈ ab_TG := ab_in (tk_6 23 (by decide +kernel)) (by decide +kernel)
theorem tg_1366 : Jvm.Cond.constantLong "SundialTreatyModel" (137 : Nat) (28530 : Int64) ∈ ab_TG := ab_in (tk_6 24 (by decide +kernel)) (by decide +kernel)
theorem tg_1367 : Jvm.Cond.constantLong "SundialTreatyModel" (139 : Nat) (6385252 : Int64) ∈ ab_TG := ab_in (tk_6 25 (by decide +kernel)) (by decide +kernel)
theorem tg_1368 : Jvm.Cond.constantLong "SundialTreatyModel" (141 : Nat) (7237492 : Int64) ∈ ab_TG := ab_in (tk_6 26 (by decide +kernel)) (by decide +kernel)
theorem tg_1369 : Jvm.Cond.constantLong "SundialTreatyModel" (143 : Nat) (491394656372 : Int64) ∈ ab_TG := ab_in (tk_6 27 (by decide +kernel)) (by decide +kernel)
theorem tg_1370 : Jvm.Cond.constantLong "SundialTreatyModel" (145 : Nat) (126892147762532 : Int64) ∈ ab_TG := ab_in (tk_6 28 (by decide +kernel)) (by decide +kernel)
theorem tg_1371 : Jvm.Cond.constantLong "SundialTreatyModel" (147 : Nat) (108243466675048 : Int64) ∈ ab_TG := ab_in (tk_6 29 (by decide +kernel)) (by decide +kernel)
theorem tg_1372 : Jvm.Cond.constantLong "SundialTreatyModel" (149 : Nat) (418363302244 : Int64) ∈ ab_TG := ab_in (tk_6 30 (by decide +kernel)) (by decide +kernel)
theorem tg_1373 : Jvm.Cond.constantLong "SundialTreatyModel" (151 : Nat) (108243635103086 : Int64) ∈ ab_TG := ab_in (tk_6 31 (by decide +kernel)) (by decide +kernel)
theorem tg_1374 : Jvm.Cond.constantLong "SundialTreatyModel" (153 : Nat) (121450625394034 : Int64) ∈ ab_TG := ab_in (tk_6 32 (by decide +kernel)) (by decide +kernel)
theorem tg_158 : Jvm.Cond.initialized "SundialTreatyModel" ∈ ab_TG := ab_in (tk_1 16 (by decide +kernel)) (by decide +kernel)
theorem tg_1377 : Jvm.Cond.instanceMethod ({ cls := "SundialTreatyModel", name := "clears", desc := "()V" } : Jvm.MethodName) ∈ ab_TG := ab_in (tk_6 35 (by decide +kernel)) (by decide +kernel)
theorem tg_1378 : Jvm.Cond.code ({ cls := "SundialTreatyModel", name := "clears", desc := "()V" } : Jvm.MethodName) prog_13_method_15_code (2 : Nat) (Option.none : Option Jvm.ClassFile.FieldType) ∈ ab_TG := ab_in (tk_6 36 (by decide +kernel)) (by decide +kernel)
theorem tg_1375 : Jvm.Cond.methodLink "SundialTreatyModel" (155 : Nat) ({ cls := "SundialTreatyModel", name := "clears", desc := "()V" } : Jvm.MethodName) ∈ ab_TG := ab_in (tk_6 33 (by decide +kernel)) (by decide +kernel)
theorem tg_81 : Jvm.Cond.selects "SundialTreatyModel" ({ cls := "SundialTreatyModel", name := "clears", desc := "()V" } : Jvm.MethodName) ({ cls := "SundialTreatyModel", name := "clears", desc := "()V" } : Jvm.MethodName) ∈ ab_TG := ab_in (tk_0 81 (by decide +kernel)) (by decide +kernel)
theorem tn_232 : Jvm.Cond.fieldLinkNest "SundialTreaty" (102 : Nat) "SundialTreaty$Reader" "size" "I" "SundialTreaty" ∈ lw_tbl := tk_1 90 (by decide +kernel)
theorem tg_642 : Jvm.Cond.instanceMethod ({ cls := "SundialTreaty$Reader", name := "put", desc := "(I)V" } : Jvm.MethodName) ∈ ab_TG := ab_in (tk_3 20 (by decide +kernel)) (by decide +kernel)
theorem tg_643 : Jvm.Cond.code ({ cls := "SundialTreaty$Reader", name := "put", desc := "(I)V" } : Jvm.MethodName) prog_6_method_2_code (3 : Nat) (Option.none : Option Jvm.ClassFile.FieldType) ∈ ab_TG := ab_in (tk_3 21 (by decide +kernel)) (by decide +kernel)
theorem tn_640 : Jvm.Cond.methodLinkNest "SundialTreaty" (105 : Nat) ({ cls := "SundialTreaty$Reader", name := "put", desc := "(I)V" } : Jvm.MethodName) "SundialTreaty" ∈ lw_tbl := tk_3 18 (by decide +kernel)
theorem tg_0 : Jvm.Cond.selects "SundialTreaty$Reader" ({ cls := "SundialTreaty$Reader", name := "put", desc := "(I)V" } : Jvm.MethodName) ({ cls := "SundialTreaty$Reader", name := "put", desc := "(I)V" } : Jvm.MethodName) ∈ ab_TG := ab_in (tk_0 0 (by decide +kernel)) (by decide +kernel)
theorem tg_1379 : Jvm.Cond.fieldLink "SundialTreatyModel" (1 : Nat) "SundialTreatyModel" "thrown" "I" ∈ ab_TG := ab_in (tk_6 37 (by decide +kernel)) (by decide +kernel)
theorem tg_1381 : Jvm.Cond.fieldLink "SundialTreatyModel" (7 : Nat) "SundialTreatyModel" "length" "I" ∈ ab_TG := ab_in (tk_6 39 (by decide +kernel)) (by decide +kernel)
theorem tg_1341 : Jvm.Cond.instanceMethod ({ cls := "SundialTreatyModel", name := "four", desc := "(I)V" } : Jvm.MethodName) ∈ ab_TG := ab_in (tk_5 239 (by decide +kernel)) (by decide +kernel)
theorem tg_1343 : Jvm.Cond.code ({ cls := "SundialTreatyModel", name := "four", desc := "(I)V" } : Jvm.MethodName) prog_13_method_4_code (3 : Nat) (Option.none : Option Jvm.ClassFile.FieldType) ∈ ab_TG := ab_in (tk_6 1 (by decide +kernel)) (by decide +kernel)
theorem tg_1339 : Jvm.Cond.methodLink "SundialTreatyModel" (10 : Nat) ({ cls := "SundialTreatyModel", name := "four", desc := "(I)V" } : Jvm.MethodName) ∈ ab_TG := ab_in (tk_5 237 (by decide +kernel)) (by decide +kernel)
theorem tg_80 : Jvm.Cond.selects "SundialTreatyModel" ({ cls := "SundialTreatyModel", name := "four", desc := "(I)V" } : Jvm.MethodName) ({ cls := "SundialTreatyModel", name := "four", desc := "(I)V" } : Jvm.MethodName) ∈ ab_TG := ab_in (tk_0 80 (by decide +kernel)) (by decide +kernel)
theorem tg_654 : Jvm.Cond.instanceMethod ({ cls := "SundialTreaty$ValleyText", name := "readInto", desc := "(LSundialTreaty$Valley;LSundialTreaty$Reader;)I" } : Jvm.MethodName) ∈ ab_TG := ab_in (tk_3 32 (by decide +kernel)) (by decide +kernel)
theorem tg_655 : Jvm.Cond.code ({ cls := "SundialTreaty$ValleyText", name := "readInto", desc := "(LSundialTreaty$Valley;LSundialTreaty$Reader;)I" } : Jvm.MethodName) prog_11_method_2_code (4 : Nat) (Option.some Jvm.ClassFile.FieldType.int) ∈ ab_TG := ab_in (tk_3 33 (by decide +kernel)) (by decide +kernel)
theorem tn_652 : Jvm.Cond.methodLinkNest "SundialTreaty" (109 : Nat) ({ cls := "SundialTreaty$ValleyText", name := "readInto", desc := "(LSundialTreaty$Valley;LSundialTreaty$Reader;)I" } : Jvm.MethodName) "SundialTreaty" ∈ lw_tbl := tk_3 30 (by decide +kernel)
theorem tg_1 : Jvm.Cond.selects "SundialTreaty$ValleyText" ({ cls := "SundialTreaty$ValleyText", name := "readInto", desc := "(LSundialTreaty$Valley;LSundialTreaty$Reader;)I" } : Jvm.MethodName) ({ cls := "SundialTreaty$ValleyText", name := "readInto", desc := "(LSundialTreaty$Valley;LSundialTreaty$Reader;)I" } : Jvm.MethodName) ∈ ab_TG := ab_in (tk_0 1 (by decide +kernel)) (by decide +kernel)
theorem tg_746 : Jvm.Cond.instanceMethod ({ cls := "SundialTreaty$State", name := "beginIn", desc := "(LSundialTreaty$Valley;)V" } : Jvm.MethodName) ∈ ab_TG := ab_in (tk_3 124 (by decide +kernel)) (by decide +kernel)
theorem tg_747 : Jvm.Cond.code ({ cls := "SundialTreaty$State", name := "beginIn", desc := "(LSundialTreaty$Valley;)V" } : Jvm.MethodName) prog_9_method_2_code (3 : Nat) (Option.none : Option Jvm.ClassFile.FieldType) ∈ ab_TG := ab_in (tk_3 125 (by decide +kernel)) (by decide +kernel)
theorem tn_744 : Jvm.Cond.methodLinkNest "SundialTreaty" (116 : Nat) ({ cls := "SundialTreaty$State", name := "beginIn", desc := "(LSundialTreaty$Valley;)V" } : Jvm.MethodName) "SundialTreaty" ∈ lw_tbl := tk_3 122 (by decide +kernel)
theorem tg_22 : Jvm.Cond.selects "SundialTreaty$State" ({ cls := "SundialTreaty$State", name := "beginIn", desc := "(LSundialTreaty$Valley;)V" } : Jvm.MethodName) ({ cls := "SundialTreaty$State", name := "beginIn", desc := "(LSundialTreaty$Valley;)V" } : Jvm.MethodName) ∈ ab_TG := ab_in (tk_0 22 (by decide +kernel)) (by decide +kernel)
theorem tn_458 : Jvm.Cond.fieldLinkNest "SundialTreaty" (120 : Nat) "SundialTreaty$Sentence" "size" "I" "SundialTreaty" ∈ lw_tbl := tk_2 76 (by decide +kernel)
theorem tn_442 : Jvm.Cond.fieldLinkNest "SundialTreaty" (121 : Nat) "SundialTreaty$History" "kept" "I" "SundialTreaty" ∈ lw_tbl := tk_2 60 (by decide +kernel)
theorem tg_658 : Jvm.Cond.instanceMethod ({ cls := "SundialTreaty$Valley", name := "makeEmpty", desc := "()V" } : Jvm.MethodName) ∈ ab_TG := ab_in (tk_3 36 (by decide +kernel)) (by decide +kernel)
theorem tg_659 : Jvm.Cond.code ({ cls := "SundialTreaty$Valley", name := "makeEmpty", desc := "()V" } : Jvm.MethodName) prog_10_method_2_code (1 : Nat) (Option.none : Option Jvm.ClassFile.FieldType) ∈ ab_TG := ab_in (tk_3 37 (by decide +kernel)) (by decide +kernel)
theorem tn_656 : Jvm.Cond.methodLinkNest "SundialTreaty$ValleyText" (19 : Nat) ({ cls := "SundialTreaty$Valley", name := "makeEmpty", desc := "()V" } : Jvm.MethodName) "SundialTreaty" ∈ lw_tbl := tk_3 34 (by decide +kernel)
theorem tg_2 : Jvm.Cond.selects "SundialTreaty$Valley" ({ cls := "SundialTreaty$Valley", name := "makeEmpty", desc := "()V" } : Jvm.MethodName) ({ cls := "SundialTreaty$Valley", name := "makeEmpty", desc := "()V" } : Jvm.MethodName) ∈ ab_TG := ab_in (tk_0 2 (by decide +kernel)) (by decide +kernel)
theorem tg_662 : Jvm.Cond.instanceMethod ({ cls := "SundialTreaty$Reader", name := "begin", desc := "(I)V" } : Jvm.MethodName) ∈ ab_TG := ab_in (tk_3 40 (by decide +kernel)) (by decide +kernel)
theorem tg_663 : Jvm.Cond.code ({ cls := "SundialTreaty$Reader", name := "begin", desc := "(I)V" } : Jvm.MethodName) prog_6_method_3_code (2 : Nat) (Option.none : Option Jvm.ClassFile.FieldType) ∈ ab_TG := ab_in (tk_3 41 (by decide +kernel)) (by decide +kernel)
theorem tn_660 : Jvm.Cond.methodLinkNest "SundialTreaty$ValleyText" (24 : Nat) ({ cls := "SundialTreaty$Reader", name := "begin", desc := "(I)V" } : Jvm.MethodName) "SundialTreaty" ∈ lw_tbl := tk_3 38 (by decide +kernel)
theorem tg_3 : Jvm.Cond.selects "SundialTreaty$Reader" ({ cls := "SundialTreaty$Reader", name := "begin", desc := "(I)V" } : Jvm.MethodName) ({ cls := "SundialTreaty$Reader", name := "begin", desc := "(I)V" } : Jvm.MethodName) ∈ ab_TG := ab_in (tk_0 3 (by decide +kernel)) (by decide +kernel)
theorem tg_681 : Jvm.Cond.instanceMethod ({ cls := "SundialTreaty$Reader", name := "atEnd", desc := "()Z" } : Jvm.MethodName) ∈ ab_TG := ab_in (tk_3 59 (by decide +kernel)) (by decide +kernel)
theorem tg_682 : Jvm.Cond.code ({ cls := "SundialTreaty$Reader", name := "atEnd", desc := "()Z" } : Jvm.MethodName) prog_6_method_9_code (1 : Nat) (Option.some Jvm.ClassFile.FieldType.boolean) ∈ ab_TG := ab_in (tk_3 60 (by decide +kernel)) (by decide +kernel)
theorem tn_679 : Jvm.Cond.methodLinkNest "SundialTreaty$ValleyText" (30 : Nat) ({ cls := "SundialTreaty$Reader", name := "atEnd", desc := "()Z" } : Jvm.MethodName) "SundialTreaty" ∈ lw_tbl := tk_3 57 (by decide +kernel)
theorem tg_7 : Jvm.Cond.selects "SundialTreaty$Reader" ({ cls := "SundialTreaty$Reader", name := "atEnd", desc := "()Z" } : Jvm.MethodName) ({ cls := "SundialTreaty$Reader", name := "atEnd", desc := "()Z" } : Jvm.MethodName) ∈ ab_TG := ab_in (tk_0 7 (by decide +kernel)) (by decide +kernel)
theorem tg_666 : Jvm.Cond.instanceMethod ({ cls := "SundialTreaty$Reader", name := "next", desc := "()V" } : Jvm.MethodName) ∈ ab_TG := ab_in (tk_3 44 (by decide +kernel)) (by decide +kernel)
theorem tg_667 : Jvm.Cond.code ({ cls := "SundialTreaty$Reader", name := "next", desc := "()V" } : Jvm.MethodName) prog_6_method_4_code (1 : Nat) (Option.none : Option Jvm.ClassFile.FieldType) ∈ ab_TG := ab_in (tk_3 45 (by decide +kernel)) (by decide +kernel)
theorem tg_664 : Jvm.Cond.methodLink "SundialTreaty$Reader" (72 : Nat) ({ cls := "SundialTreaty$Reader", name := "next", desc := "()V" } : Jvm.MethodName) ∈ ab_TG := ab_in (tk_3 42 (by decide +kernel)) (by decide +kernel)
theorem tg_4 : Jvm.Cond.selects "SundialTreaty$Reader" ({ cls := "SundialTreaty$Reader", name := "next", desc := "()V" } : Jvm.MethodName) ({ cls := "SundialTreaty$Reader", name := "next", desc := "()V" } : Jvm.MethodName) ∈ ab_TG := ab_in (tk_0 4 (by decide +kernel)) (by decide +kernel)
theorem tn_313 : Jvm.Cond.fieldLinkNest "SundialTreaty$State" (34 : Nat) "SundialTreaty$Valley" "towns" "I" "SundialTreaty" ∈ lw_tbl := tk_1 171 (by decide +kernel)
theorem tg_1539 : Jvm.Cond.instanceMethod ({ cls := "SundialTreatyModel", name := "taken", desc := "(I)V" } : Jvm.MethodName) ∈ ab_TG := ab_in (tk_6 197 (by decide +kernel)) (by decide +kernel)
theorem tg_1540 : Jvm.Cond.code ({ cls := "SundialTreatyModel", name := "taken", desc := "(I)V" } : Jvm.MethodName) prog_13_method_6_code (2 : Nat) (Option.none : Option Jvm.ClassFile.FieldType) ∈ ab_TG := ab_in (tk_6 198 (by decide +kernel)) (by decide +kernel)
theorem tg_1537 : Jvm.Cond.methodLink "SundialTreatyModel" (257 : Nat) ({ cls := "SundialTreatyModel", name := "taken", desc := "(I)V" } : Jvm.MethodName) ∈ ab_TG := ab_in (tk_6 195 (by decide +kernel)) (by decide +kernel)
theorem tg_82 : Jvm.Cond.selects "SundialTreatyModel" ({ cls := "SundialTreatyModel", name := "taken", desc := "(I)V" } : Jvm.MethodName) ({ cls := "SundialTreatyModel", name := "taken", desc := "(I)V" } : Jvm.MethodName) ∈ ab_TG := ab_in (tk_0 82 (by decide +kernel)) (by decide +kernel)
theorem tg_1394 : Jvm.Cond.fieldLink "SundialTreatyModel" (185 : Nat) "SundialTreatyModel" "fault" "I" ∈ ab_TG := ab_in (tk_6 52 (by decide +kernel)) (by decide +kernel)
theorem tg_1398 : Jvm.Cond.fieldLink "SundialTreatyModel" (260 : Nat) "SundialTreatyModel" "lines" "I" ∈ ab_TG := ab_in (tk_6 56 (by decide +kernel)) (by decide +kernel)
theorem tg_1399 : Jvm.Cond.fieldLink "SundialTreatyModel" (226 : Nat) "SundialTreatyModel" "onces" "I" ∈ ab_TG := ab_in (tk_6 57 (by decide +kernel)) (by decide +kernel)
theorem tg_1543 : Jvm.Cond.instanceMethod ({ cls := "SundialTreatyModel", name := "next", desc := "()V" } : Jvm.MethodName) ∈ ab_TG := ab_in (tk_6 201 (by decide +kernel)) (by decide +kernel)
theorem tg_1544 : Jvm.Cond.code ({ cls := "SundialTreatyModel", name := "next", desc := "()V" } : Jvm.MethodName) prog_13_method_19_code (4 : Nat) (Option.none : Option Jvm.ClassFile.FieldType) ∈ ab_TG := ab_in (tk_6 202 (by decide +kernel)) (by decide +kernel)
theorem tg_1541 : Jvm.Cond.methodLink "SundialTreatyModel" (197 : Nat) ({ cls := "SundialTreatyModel", name := "next", desc := "()V" } : Jvm.MethodName) ∈ ab_TG := ab_in (tk_6 199 (by decide +kernel)) (by decide +kernel)
theorem tg_83 : Jvm.Cond.selects "SundialTreatyModel" ({ cls := "SundialTreatyModel", name := "next", desc := "()V" } : Jvm.MethodName) ({ cls := "SundialTreatyModel", name := "next", desc := "()V" } : Jvm.MethodName) ∈ ab_TG := ab_in (tk_0 83 (by decide +kernel)) (by decide +kernel)
theorem tg_1390 : Jvm.Cond.fieldLink "SundialTreatyModel" (168 : Nat) "SundialTreatyModel" "token" "I" ∈ ab_TG := ab_in (tk_6 48 (by decide +kernel)) (by decide +kernel)
theorem tg_1402 : Jvm.Cond.fieldLink "SundialTreatyModel" (269 : Nat) "SundialTreatyModel" "undoMany" "I" ∈ ab_TG := ab_in (tk_6 60 (by decide +kernel)) (by decide +kernel)
theorem tg_1382 : Jvm.Cond.fieldLink "SundialTreatyModel" (18 : Nat) "SundialTreatyModel" "size" "I" ∈ ab_TG := ab_in (tk_6 40 (by decide +kernel)) (by decide +kernel)
theorem tg_1383 : Jvm.Cond.fieldLink "SundialTreatyModel" (21 : Nat) "SundialTreatyModel" "p" "I" ∈ ab_TG := ab_in (tk_6 41 (by decide +kernel)) (by decide +kernel)
theorem tg_1384 : Jvm.Cond.fieldLink "SundialTreatyModel" (24 : Nat) "SundialTreatyModel" "limit" "I" ∈ ab_TG := ab_in (tk_6 42 (by decide +kernel)) (by decide +kernel)
theorem tg_1547 : Jvm.Cond.instanceMethod ({ cls := "SundialTreatyModel", name := "peek", desc := "()I" } : Jvm.MethodName) ∈ ab_TG := ab_in (tk_6 205 (by decide +kernel)) (by decide +kernel)
theorem tg_1548 : Jvm.Cond.code ({ cls := "SundialTreatyModel", name := "peek", desc := "()I" } : Jvm.MethodName) prog_13_method_16_code (1 : Nat) (Option.some Jvm.ClassFile.FieldType.int) ∈ ab_TG := ab_in (tk_6 206 (by decide +kernel)) (by decide +kernel)
theorem tg_1545 : Jvm.Cond.methodLink "SundialTreatyModel" (158 : Nat) ({ cls := "SundialTreatyModel", name := "peek", desc := "()I" } : Jvm.MethodName) ∈ ab_TG := ab_in (tk_6 203 (by decide +kernel)) (by decide +kernel)
theorem tg_84 : Jvm.Cond.selects "SundialTreatyModel" ({ cls := "SundialTreatyModel", name := "peek", desc := "()I" } : Jvm.MethodName) ({ cls := "SundialTreatyModel", name := "peek", desc := "()I" } : Jvm.MethodName) ∈ ab_TG := ab_in (tk_0 84 (by decide +kernel)) (by decide +kernel)
theorem tg_1391 : Jvm.Cond.fieldLink "SundialTreatyModel" (162 : Nat) "SundialTreatyModel" "at" "I" ∈ ab_TG := ab_in (tk_6 49 (by decide +kernel)) (by decide +kernel)
theorem tg_1392 : Jvm.Cond.fieldLink "SundialTreatyModel" (165 : Nat) "SundialTreatyModel" "span" "I" ∈ ab_TG := ab_in (tk_6 50 (by decide +kernel)) (by decide +kernel)
theorem tn_255 : Jvm.Cond.fieldLinkNest "SundialTreaty" (124 : Nat) "SundialTreaty$Reader" "faultKind" "I" "SundialTreaty" ∈ lw_tbl := tk_1 113 (by decide +kernel)
theorem tg_143 : Jvm.Cond.initialized "SundialTreaty" ∈ ab_TG := ab_in (tk_1 1 (by decide +kernel)) (by decide +kernel)
theorem tg_1168 : Jvm.Cond.code ({ cls := "SundialTreaty", name := "town", desc := "(II)I" } : Jvm.MethodName) prog_1_method_6_code (3 : Nat) (Option.some Jvm.ClassFile.FieldType.int) ∈ ab_TG := ab_in (tk_5 66 (by decide +kernel)) (by decide +kernel)
theorem tg_1165 : Jvm.Cond.methodLink "SundialTreatyLaw" (7 : Nat) ({ cls := "SundialTreaty", name := "town", desc := "(II)I" } : Jvm.MethodName) ∈ ab_TG := ab_in (tk_5 63 (by decide +kernel)) (by decide +kernel)
theorem tg_1166 : Jvm.Cond.instanceMethod ({ cls := "SundialTreaty", name := "town", desc := "(II)I" } : Jvm.MethodName) ∈ ab_TG := ab_in (tk_5 64 (by decide +kernel)) (by decide +kernel)
theorem tg_1167 : Jvm.Cond.selects "SundialTreaty" ({ cls := "SundialTreaty", name := "town", desc := "(II)I" } : Jvm.MethodName) ({ cls := "SundialTreaty", name := "town", desc := "(II)I" } : Jvm.MethodName) ∈ ab_TG := ab_in (tk_5 65 (by decide +kernel)) (by decide +kernel)
theorem tg_1164 : Jvm.Cond.classLink "SundialTreatyLaw" (13 : Nat) "java/util/NoSuchElementException" ∈ ab_TG := ab_in (tk_5 62 (by decide +kernel)) (by decide +kernel)
theorem tn_1171 : Jvm.Cond.castable "java/util/NoSuchElementException" "java/util/NoSuchElementException" ∈ lw_tbl := tk_5 69 (by decide +kernel)
theorem tg_758 : Jvm.Cond.instanceMethod ({ cls := "SundialTreaty", name := "hasTown", desc := "(I)Z" } : Jvm.MethodName) ∈ ab_TG := ab_in (tk_3 136 (by decide +kernel)) (by decide +kernel)
theorem tg_759 : Jvm.Cond.code ({ cls := "SundialTreaty", name := "hasTown", desc := "(I)Z" } : Jvm.MethodName) prog_1_method_43_code (2 : Nat) (Option.some Jvm.ClassFile.FieldType.boolean) ∈ ab_TG := ab_in (tk_3 137 (by decide +kernel)) (by decide +kernel)
theorem tg_756 : Jvm.Cond.methodLink "SundialTreaty" (127 : Nat) ({ cls := "SundialTreaty", name := "hasTown", desc := "(I)Z" } : Jvm.MethodName) ∈ ab_TG := ab_in (tk_3 134 (by decide +kernel)) (by decide +kernel)
theorem tg_23 : Jvm.Cond.selects "SundialTreaty" ({ cls := "SundialTreaty", name := "hasTown", desc := "(I)Z" } : Jvm.MethodName) ({ cls := "SundialTreaty", name := "hasTown", desc := "(I)Z" } : Jvm.MethodName) ∈ ab_TG := ab_in (tk_0 23 (by decide +kernel)) (by decide +kernel)
theorem tg_1169 : Jvm.Cond.classLink "SundialTreaty" (131 : Nat) "java/util/NoSuchElementException" ∈ ab_TG := ab_in (tk_5 67 (by decide +kernel)) (by decide +kernel)
theorem tn_315 : Jvm.Cond.fieldLinkNest "SundialTreaty" (258 : Nat) "SundialTreaty$Valley" "towns" "I" "SundialTreaty" ∈ lw_tbl := tk_1 173 (by decide +kernel)
theorem tg_1639 : Jvm.Cond.instanceMethod ({ cls := "SundialTreatyModel", name := "isTown", desc := "(I)Z" } : Jvm.MethodName) ∈ ab_TG := ab_in (tk_7 57 (by decide +kernel)) (by decide +kernel)
theorem tg_1640 : Jvm.Cond.code ({ cls := "SundialTreatyModel", name := "isTown", desc := "(I)Z" } : Jvm.MethodName) prog_13_method_39_code (2 : Nat) (Option.some Jvm.ClassFile.FieldType.boolean) ∈ ab_TG := ab_in (tk_7 58 (by decide +kernel)) (by decide +kernel)
theorem tg_1637 : Jvm.Cond.methodLink "SundialTreatyModel" (281 : Nat) ({ cls := "SundialTreatyModel", name := "isTown", desc := "(I)Z" } : Jvm.MethodName) ∈ ab_TG := ab_in (tk_7 55 (by decide +kernel)) (by decide +kernel)
theorem tg_102 : Jvm.Cond.selects "SundialTreatyModel" ({ cls := "SundialTreatyModel", name := "isTown", desc := "(I)Z" } : Jvm.MethodName) ({ cls := "SundialTreatyModel", name := "isTown", desc := "(I)Z" } : Jvm.MethodName) ∈ ab_TG := ab_in (tk_0 102 (by decide +kernel)) (by decide +kernel)
theorem tg_1643 : Jvm.Cond.instanceMethod ({ cls := "SundialTreatyModel", name := "throwsIf", desc := "(Z)Z" } : Jvm.MethodName) ∈ ab_TG := ab_in (tk_7 61 (by decide +kernel)) (by decide +kernel)
theorem tg_1644 : Jvm.Cond.code ({ cls := "SundialTreatyModel", name := "throwsIf", desc := "(Z)Z" } : Jvm.MethodName) prog_13_method_2_code (2 : Nat) (Option.some Jvm.ClassFile.FieldType.boolean) ∈ ab_TG := ab_in (tk_7 62 (by decide +kernel)) (by decide +kernel)
theorem tg_1641 : Jvm.Cond.methodLink "SundialTreatyModel" (284 : Nat) ({ cls := "SundialTreatyModel", name := "throwsIf", desc := "(Z)Z" } : Jvm.MethodName) ∈ ab_TG := ab_in (tk_7 59 (by decide +kernel)) (by decide +kernel)
theorem tg_103 : Jvm.Cond.selects "SundialTreatyModel" ({ cls := "SundialTreatyModel", name := "throwsIf", desc := "(Z)Z" } : Jvm.MethodName) ({ cls := "SundialTreatyModel", name := "throwsIf", desc := "(Z)Z" } : Jvm.MethodName) ∈ ab_TG := ab_in (tk_0 103 (by decide +kernel)) (by decide +kernel)
theorem tg_1593 : Jvm.Cond.code ({ cls := "SundialTreatyModel", name := "isIn", desc := "(III)Z" } : Jvm.MethodName) prog_13_method_7_code (3 : Nat) (Option.some Jvm.ClassFile.FieldType.boolean) ∈ ab_TG := ab_in (tk_7 11 (by decide +kernel)) (by decide +kernel)
theorem tg_1591 : Jvm.Cond.methodLink "SundialTreatyModel" (200 : Nat) ({ cls := "SundialTreatyModel", name := "isIn", desc := "(III)Z" } : Jvm.MethodName) ∈ ab_TG := ab_in (tk_7 9 (by decide +kernel)) (by decide +kernel)
theorem tg_1592 : Jvm.Cond.static ({ cls := "SundialTreatyModel", name := "isIn", desc := "(III)Z" } : Jvm.MethodName) ∈ ab_TG := ab_in (tk_7 10 (by decide +kernel)) (by decide +kernel)
theorem tg_1244 : Jvm.Cond.code ({ cls := "SundialTreaty", name := "due", desc := "(II)I" } : Jvm.MethodName) prog_1_method_7_code (4 : Nat) (Option.some Jvm.ClassFile.FieldType.int) ∈ ab_TG := ab_in (tk_5 142 (by decide +kernel)) (by decide +kernel)
theorem tg_1241 : Jvm.Cond.methodLink "SundialTreatyLaw" (15 : Nat) ({ cls := "SundialTreaty", name := "due", desc := "(II)I" } : Jvm.MethodName) ∈ ab_TG := ab_in (tk_5 139 (by decide +kernel)) (by decide +kernel)
theorem tg_1242 : Jvm.Cond.instanceMethod ({ cls := "SundialTreaty", name := "due", desc := "(II)I" } : Jvm.MethodName) ∈ ab_TG := ab_in (tk_5 140 (by decide +kernel)) (by decide +kernel)
theorem tg_1243 : Jvm.Cond.selects "SundialTreaty" ({ cls := "SundialTreaty", name := "due", desc := "(II)I" } : Jvm.MethodName) ({ cls := "SundialTreaty", name := "due", desc := "(II)I" } : Jvm.MethodName) ∈ ab_TG := ab_in (tk_5 141 (by decide +kernel)) (by decide +kernel)
theorem tg_1253 : Jvm.Cond.code ({ cls := "SundialTreaty", name := "train", desc := "(II)I" } : Jvm.MethodName) prog_1_method_8_code (3 : Nat) (Option.some Jvm.ClassFile.FieldType.int) ∈ ab_TG := ab_in (tk_5 151 (by decide +kernel)) (by decide +kernel)
theorem tg_1250 : Jvm.Cond.methodLink "SundialTreatyLaw" (18 : Nat) ({ cls := "SundialTreaty", name := "train", desc := "(II)I" } : Jvm.MethodName) ∈ ab_TG := ab_in (tk_5 148 (by decide +kernel)) (by decide +kernel)
theorem tg_1251 : Jvm.Cond.instanceMethod ({ cls := "SundialTreaty", name := "train", desc := "(II)I" } : Jvm.MethodName) ∈ ab_TG := ab_in (tk_5 149 (by decide +kernel)) (by decide +kernel)
theorem tg_1252 : Jvm.Cond.selects "SundialTreaty" ({ cls := "SundialTreaty", name := "train", desc := "(II)I" } : Jvm.MethodName) ({ cls := "SundialTreaty", name := "train", desc := "(II)I" } : Jvm.MethodName) ∈ ab_TG := ab_in (tk_5 150 (by decide +kernel)) (by decide +kernel)
theorem tg_1256 : Jvm.Cond.instanceMethod ({ cls := "SundialTreaty", name := "hasTrain", desc := "(I)Z" } : Jvm.MethodName) ∈ ab_TG := ab_in (tk_5 154 (by decide +kernel)) (by decide +kernel)
theorem tg_1257 : Jvm.Cond.code ({ cls := "SundialTreaty", name := "hasTrain", desc := "(I)Z" } : Jvm.MethodName) prog_1_method_44_code (2 : Nat) (Option.some Jvm.ClassFile.FieldType.boolean) ∈ ab_TG := ab_in (tk_5 155 (by decide +kernel)) (by decide +kernel)
theorem tg_1254 : Jvm.Cond.methodLink "SundialTreaty" (177 : Nat) ({ cls := "SundialTreaty", name := "hasTrain", desc := "(I)Z" } : Jvm.MethodName) ∈ ab_TG := ab_in (tk_5 152 (by decide +kernel)) (by decide +kernel)
theorem tg_78 : Jvm.Cond.selects "SundialTreaty" ({ cls := "SundialTreaty", name := "hasTrain", desc := "(I)Z" } : Jvm.MethodName) ({ cls := "SundialTreaty", name := "hasTrain", desc := "(I)Z" } : Jvm.MethodName) ∈ ab_TG := ab_in (tk_0 78 (by decide +kernel)) (by decide +kernel)
theorem tn_340 : Jvm.Cond.fieldLinkNest "SundialTreaty" (378 : Nat) "SundialTreaty$Valley" "trains" "I" "SundialTreaty" ∈ lw_tbl := tk_1 198 (by decide +kernel)
theorem tg_1675 : Jvm.Cond.instanceMethod ({ cls := "SundialTreatyModel", name := "isTrain", desc := "(I)Z" } : Jvm.MethodName) ∈ ab_TG := ab_in (tk_7 93 (by decide +kernel)) (by decide +kernel)
theorem tg_1676 : Jvm.Cond.code ({ cls := "SundialTreatyModel", name := "isTrain", desc := "(I)Z" } : Jvm.MethodName) prog_13_method_40_code (2 : Nat) (Option.some Jvm.ClassFile.FieldType.boolean) ∈ ab_TG := ab_in (tk_7 94 (by decide +kernel)) (by decide +kernel)
theorem tg_1673 : Jvm.Cond.methodLink "SundialTreatyModel" (298 : Nat) ({ cls := "SundialTreatyModel", name := "isTrain", desc := "(I)Z" } : Jvm.MethodName) ∈ ab_TG := ab_in (tk_7 91 (by decide +kernel)) (by decide +kernel)
theorem tg_109 : Jvm.Cond.selects "SundialTreatyModel" ({ cls := "SundialTreatyModel", name := "isTrain", desc := "(I)Z" } : Jvm.MethodName) ({ cls := "SundialTreatyModel", name := "isTrain", desc := "(I)Z" } : Jvm.MethodName) ∈ ab_TG := ab_in (tk_0 109 (by decide +kernel)) (by decide +kernel)
theorem tg_1268 : Jvm.Cond.code ({ cls := "SundialTreaty", name := "shows", desc := "(II)I" } : Jvm.MethodName) prog_1_method_9_code (3 : Nat) (Option.some Jvm.ClassFile.FieldType.int) ∈ ab_TG := ab_in (tk_5 166 (by decide +kernel)) (by decide +kernel)
theorem tg_1265 : Jvm.Cond.methodLink "SundialTreatyLaw" (21 : Nat) ({ cls := "SundialTreaty", name := "shows", desc := "(II)I" } : Jvm.MethodName) ∈ ab_TG := ab_in (tk_5 163 (by decide +kernel)) (by decide +kernel)
theorem tg_1266 : Jvm.Cond.instanceMethod ({ cls := "SundialTreaty", name := "shows", desc := "(II)I" } : Jvm.MethodName) ∈ ab_TG := ab_in (tk_5 164 (by decide +kernel)) (by decide +kernel)
theorem tg_1267 : Jvm.Cond.selects "SundialTreaty" ({ cls := "SundialTreaty", name := "shows", desc := "(II)I" } : Jvm.MethodName) ({ cls := "SundialTreaty", name := "shows", desc := "(II)I" } : Jvm.MethodName) ∈ ab_TG := ab_in (tk_5 165 (by decide +kernel)) (by decide +kernel)
theorem tg_1276 : Jvm.Cond.code ({ cls := "SundialTreaty", name := "now", desc := "(I)I" } : Jvm.MethodName) prog_1_method_10_code (2 : Nat) (Option.some Jvm.ClassFile.FieldType.int) ∈ ab_TG := ab_in (tk_5 174 (by decide +kernel)) (by decide +kernel)
theorem tg_1273 : Jvm.Cond.methodLink "SundialTreatyLaw" (24 : Nat) ({ cls := "SundialTreaty", name := "now", desc := "(I)I" } : Jvm.MethodName) ∈ ab_TG := ab_in (tk_5 171 (by decide +kernel)) (by decide +kernel)
theorem tg_1274 : Jvm.Cond.instanceMethod ({ cls := "SundialTreaty", name := "now", desc := "(I)I" } : Jvm.MethodName) ∈ ab_TG := ab_in (tk_5 172 (by decide +kernel)) (by decide +kernel)
theorem tg_1275 : Jvm.Cond.selects "SundialTreaty" ({ cls := "SundialTreaty", name := "now", desc := "(I)I" } : Jvm.MethodName) ({ cls := "SundialTreaty", name := "now", desc := "(I)I" } : Jvm.MethodName) ∈ ab_TG := ab_in (tk_5 173 (by decide +kernel)) (by decide +kernel)
theorem tn_403 : Jvm.Cond.fieldLinkNest "SundialTreaty" (204 : Nat) "SundialTreaty$State" "day" "I" "SundialTreaty" ∈ lw_tbl := tk_2 21 (by decide +kernel)
theorem tg_855 : Jvm.Cond.instanceMethod ({ cls := "SundialTreaty", name := "bendsAdded", desc := "()I" } : Jvm.MethodName) ∈ ab_TG := ab_in (tk_3 233 (by decide +kernel)) (by decide +kernel)
theorem tg_856 : Jvm.Cond.code ({ cls := "SundialTreaty", name := "bendsAdded", desc := "()I" } : Jvm.MethodName) prog_1_method_47_code (1 : Nat) (Option.some Jvm.ClassFile.FieldType.int) ∈ ab_TG := ab_in (tk_3 234 (by decide +kernel)) (by decide +kernel)
theorem tg_853 : Jvm.Cond.methodLink "SundialTreaty" (207 : Nat) ({ cls := "SundialTreaty", name := "bendsAdded", desc := "()I" } : Jvm.MethodName) ∈ ab_TG := ab_in (tk_3 231 (by decide +kernel)) (by decide +kernel)
theorem tg_38 : Jvm.Cond.selects "SundialTreaty" ({ cls := "SundialTreaty", name := "bendsAdded", desc := "()I" } : Jvm.MethodName) ({ cls := "SundialTreaty", name := "bendsAdded", desc := "()I" } : Jvm.MethodName) ∈ ab_TG := ab_in (tk_0 38 (by decide +kernel)) (by decide +kernel)
theorem tg_887 : Jvm.Cond.instanceMethod ({ cls := "SundialTreaty$State", name := "breachBits", desc := "(LSundialTreaty$Valley;)I" } : Jvm.MethodName) ∈ ab_TG := ab_in (tk_4 25 (by decide +kernel)) (by decide +kernel)
theorem tg_888 : Jvm.Cond.code ({ cls := "SundialTreaty$State", name := "breachBits", desc := "(LSundialTreaty$Valley;)I" } : Jvm.MethodName) prog_9_method_9_code (4 : Nat) (Option.some Jvm.ClassFile.FieldType.int) ∈ ab_TG := ab_in (tk_4 26 (by decide +kernel)) (by decide +kernel)
theorem tn_885 : Jvm.Cond.methodLinkNest "SundialTreaty" (211 : Nat) ({ cls := "SundialTreaty$State", name := "breachBits", desc := "(LSundialTreaty$Valley;)I" } : Jvm.MethodName) "SundialTreaty" ∈ lw_tbl := tk_4 23 (by decide +kernel)
theorem tg_43 : Jvm.Cond.selects "SundialTreaty$State" ({ cls := "SundialTreaty$State", name := "breachBits", desc := "(LSundialTreaty$Valley;)I" } : Jvm.MethodName) ({ cls := "SundialTreaty$State", name := "breachBits", desc := "(LSundialTreaty$Valley;)I" } : Jvm.MethodName) ∈ ab_TG := ab_in (tk_0 43 (by decide +kernel)) (by decide +kernel)
theorem tn_405 : Jvm.Cond.fieldLinkNest "SundialTreaty" (215 : Nat) "SundialTreaty$State" "shadedBits" "I" "SundialTreaty" ∈ lw_tbl := tk_2 23 (by decide +kernel)
theorem tn_411 : Jvm.Cond.fieldLinkNest "SundialTreaty" (151 : Nat) "SundialTreaty$State" "breaches" "[I" "SundialTreaty" ∈ lw_tbl := tk_2 29 (by decide +kernel)
theorem tg_859 : Jvm.Cond.instanceMethod ({ cls := "SundialTreaty", name := "added", desc := "([I)I" } : Jvm.MethodName) ∈ ab_TG := ab_in (tk_3 237 (by decide +kernel)) (by decide +kernel)
theorem tg_860 : Jvm.Cond.code ({ cls := "SundialTreaty", name := "added", desc := "([I)I" } : Jvm.MethodName) prog_1_method_46_code (4 : Nat) (Option.some Jvm.ClassFile.FieldType.int) ∈ ab_TG := ab_in (tk_3 238 (by decide +kernel)) (by decide +kernel)
theorem tg_857 : Jvm.Cond.methodLink "SundialTreaty" (218 : Nat) ({ cls := "SundialTreaty", name := "added", desc := "([I)I" } : Jvm.MethodName) ∈ ab_TG := ab_in (tk_3 235 (by decide +kernel)) (by decide +kernel)
theorem tg_39 : Jvm.Cond.selects "SundialTreaty" ({ cls := "SundialTreaty", name := "added", desc := "([I)I" } : Jvm.MethodName) ({ cls := "SundialTreaty", name := "added", desc := "([I)I" } : Jvm.MethodName) ∈ ab_TG := ab_in (tk_0 39 (by decide +kernel)) (by decide +kernel)
theorem tn_414 : Jvm.Cond.fieldLinkNest "SundialTreaty" (154 : Nat) "SundialTreaty$State" "sprung" "[I" "SundialTreaty" ∈ lw_tbl := tk_2 32 (by decide +kernel)
theorem tg_1279 : Jvm.Cond.instanceMethod ({ cls := "SundialTreaty", name := "minutesOff", desc := "()I" } : Jvm.MethodName) ∈ ab_TG := ab_in (tk_5 177 (by decide +kernel)) (by decide +kernel)
theorem tg_1280 : Jvm.Cond.code ({ cls := "SundialTreaty", name := "minutesOff", desc := "()I" } : Jvm.MethodName) prog_1_method_48_code (3 : Nat) (Option.some Jvm.ClassFile.FieldType.int) ∈ ab_TG := ab_in (tk_5 178 (by decide +kernel)) (by decide +kernel)
theorem tg_1277 : Jvm.Cond.methodLink "SundialTreaty" (222 : Nat) ({ cls := "SundialTreaty", name := "minutesOff", desc := "()I" } : Jvm.MethodName) ∈ ab_TG := ab_in (tk_5 175 (by decide +kernel)) (by decide +kernel)
theorem tg_79 : Jvm.Cond.selects "SundialTreaty" ({ cls := "SundialTreaty", name := "minutesOff", desc := "()I" } : Jvm.MethodName) ({ cls := "SundialTreaty", name := "minutesOff", desc := "()I" } : Jvm.MethodName) ∈ ab_TG := ab_in (tk_0 79 (by decide +kernel)) (by decide +kernel)
theorem tn_408 : Jvm.Cond.fieldLinkNest "SundialTreaty" (141 : Nat) "SundialTreaty$State" "bends" "[I" "SundialTreaty" ∈ lw_tbl := tk_2 26 (by decide +kernel)
theorem tg_1695 : Jvm.Cond.instanceMethod ({ cls := "SundialTreatyModel", name := "sumOf", desc := "(I)I" } : Jvm.MethodName) ∈ ab_TG := ab_in (tk_7 113 (by decide +kernel)) (by decide +kernel)
theorem tg_1696 : Jvm.Cond.code ({ cls := "SundialTreatyModel", name := "sumOf", desc := "(I)I" } : Jvm.MethodName) prog_13_method_53_code (4 : Nat) (Option.some Jvm.ClassFile.FieldType.int) ∈ ab_TG := ab_in (tk_7 114 (by decide +kernel)) (by decide +kernel)
theorem tg_1693 : Jvm.Cond.methodLink "SundialTreatyModel" (304 : Nat) ({ cls := "SundialTreatyModel", name := "sumOf", desc := "(I)I" } : Jvm.MethodName) ∈ ab_TG := ab_in (tk_7 111 (by decide +kernel)) (by decide +kernel)
theorem tg_112 : Jvm.Cond.selects "SundialTreatyModel" ({ cls := "SundialTreatyModel", name := "sumOf", desc := "(I)I" } : Jvm.MethodName) ({ cls := "SundialTreatyModel", name := "sumOf", desc := "(I)I" } : Jvm.MethodName) ∈ ab_TG := ab_in (tk_0 112 (by decide +kernel)) (by decide +kernel)
theorem tg_1699 : Jvm.Cond.instanceMethod ({ cls := "SundialTreatyModel", name := "breachSet", desc := "()I" } : Jvm.MethodName) ∈ ab_TG := ab_in (tk_7 117 (by decide +kernel)) (by decide +kernel)
theorem tg_1700 : Jvm.Cond.code ({ cls := "SundialTreatyModel", name := "breachSet", desc := "()I" } : Jvm.MethodName) prog_13_method_46_code (3 : Nat) (Option.some Jvm.ClassFile.FieldType.int) ∈ ab_TG := ab_in (tk_7 118 (by decide +kernel)) (by decide +kernel)
theorem tg_1697 : Jvm.Cond.methodLink "SundialTreatyModel" (307 : Nat) ({ cls := "SundialTreatyModel", name := "breachSet", desc := "()I" } : Jvm.MethodName) ∈ ab_TG := ab_in (tk_7 115 (by decide +kernel)) (by decide +kernel)
theorem tg_113 : Jvm.Cond.selects "SundialTreatyModel" ({ cls := "SundialTreatyModel", name := "breachSet", desc := "()I" } : Jvm.MethodName) ({ cls := "SundialTreatyModel", name := "breachSet", desc := "()I" } : Jvm.MethodName) ∈ ab_TG := ab_in (tk_0 113 (by decide +kernel)) (by decide +kernel)
theorem tg_777 : Jvm.Cond.instanceMethod ({ cls := "SundialTreaty$History", name := "keep", desc := "(LSundialTreaty$State;)V" } : Jvm.MethodName) ∈ ab_TG := ab_in (tk_3 155 (by decide +kernel)) (by decide +kernel)
theorem tg_778 : Jvm.Cond.code ({ cls := "SundialTreaty$History", name := "keep", desc := "(LSundialTreaty$State;)V" } : Jvm.MethodName) prog_3_method_2_code (4 : Nat) (Option.none : Option Jvm.ClassFile.FieldType) ∈ ab_TG := ab_in (tk_3 156 (by decide +kernel)) (by decide +kernel)
theorem tn_775 : Jvm.Cond.methodLinkNest "SundialTreaty" (231 : Nat) ({ cls := "SundialTreaty$History", name := "keep", desc := "(LSundialTreaty$State;)V" } : Jvm.MethodName) "SundialTreaty" ∈ lw_tbl := tk_3 153 (by decide +kernel)
theorem tg_27 : Jvm.Cond.selects "SundialTreaty$History" ({ cls := "SundialTreaty$History", name := "keep", desc := "(LSundialTreaty$State;)V" } : Jvm.MethodName) ({ cls := "SundialTreaty$History", name := "keep", desc := "(LSundialTreaty$State;)V" } : Jvm.MethodName) ∈ ab_TG := ab_in (tk_0 27 (by decide +kernel)) (by decide +kernel)
theorem tg_812 : Jvm.Cond.instanceMethod ({ cls := "SundialTreaty$State", name := "springBack", desc := "(LSundialTreaty$Valley;)I" } : Jvm.MethodName) ∈ ab_TG := ab_in (tk_3 190 (by decide +kernel)) (by decide +kernel)
theorem tg_813 : Jvm.Cond.code ({ cls := "SundialTreaty$State", name := "springBack", desc := "(LSundialTreaty$Valley;)I" } : Jvm.MethodName) prog_9_method_14_code (4 : Nat) (Option.some Jvm.ClassFile.FieldType.int) ∈ ab_TG := ab_in (tk_3 191 (by decide +kernel)) (by decide +kernel)
theorem tn_810 : Jvm.Cond.methodLinkNest "SundialTreaty" (242 : Nat) ({ cls := "SundialTreaty$State", name := "springBack", desc := "(LSundialTreaty$Valley;)I" } : Jvm.MethodName) "SundialTreaty" ∈ lw_tbl := tk_3 188 (by decide +kernel)
theorem tg_32 : Jvm.Cond.selects "SundialTreaty$State" ({ cls := "SundialTreaty$State", name := "springBack", desc := "(LSundialTreaty$Valley;)I" } : Jvm.MethodName) ({ cls := "SundialTreaty$State", name := "springBack", desc := "(LSundialTreaty$Valley;)I" } : Jvm.MethodName) ∈ ab_TG := ab_in (tk_0 32 (by decide +kernel)) (by decide +kernel)
theorem tg_781 : Jvm.Cond.instanceMethod ({ cls := "SundialTreaty$State", name := "copyFrom", desc := "(LSundialTreaty$State;)V" } : Jvm.MethodName) ∈ ab_TG := ab_in (tk_3 159 (by decide +kernel)) (by decide +kernel)
theorem tg_782 : Jvm.Cond.code ({ cls := "SundialTreaty$State", name := "copyFrom", desc := "(LSundialTreaty$State;)V" } : Jvm.MethodName) prog_9_method_3_code (2 : Nat) (Option.none : Option Jvm.ClassFile.FieldType) ∈ ab_TG := ab_in (tk_3 160 (by decide +kernel)) (by decide +kernel)
theorem tn_779 : Jvm.Cond.methodLinkNest "SundialTreaty$History" (22 : Nat) ({ cls := "SundialTreaty$State", name := "copyFrom", desc := "(LSundialTreaty$State;)V" } : Jvm.MethodName) "SundialTreaty" ∈ lw_tbl := tk_3 157 (by decide +kernel)
theorem tg_28 : Jvm.Cond.selects "SundialTreaty$State" ({ cls := "SundialTreaty$State", name := "copyFrom", desc := "(LSundialTreaty$State;)V" } : Jvm.MethodName) ({ cls := "SundialTreaty$State", name := "copyFrom", desc := "(LSundialTreaty$State;)V" } : Jvm.MethodName) ∈ ab_TG := ab_in (tk_0 28 (by decide +kernel)) (by decide +kernel)
theorem tg_783 : Jvm.Cond.methodLink "SundialTreaty$State" (42 : Nat) ({ cls := "java/lang/System", name := "arraycopy", desc := "(Ljava/lang/Object;ILjava/lang/Object;II)V" } : Jvm.MethodName) ∈ ab_TG := ab_in (tk_3 161 (by decide +kernel)) (by decide +kernel)
theorem tg_785 : Jvm.Cond.native ({ cls := "java/lang/System", name := "arraycopy", desc := "(Ljava/lang/Object;ILjava/lang/Object;II)V" } : Jvm.MethodName) ∈ ab_TG := ab_in (tk_3 163 (by decide +kernel)) (by decide +kernel)
theorem tg_784 : Jvm.Cond.static ({ cls := "java/lang/System", name := "arraycopy", desc := "(Ljava/lang/Object;ILjava/lang/Object;II)V" } : Jvm.MethodName) ∈ ab_TG := ab_in (tk_3 162 (by decide +kernel)) (by decide +kernel)
theorem tg_164 : Jvm.Cond.initialized "java/lang/System" ∈ ab_TG := ab_in (tk_1 22 (by decide +kernel)) (by decide +kernel)
theorem tg_1714 : Jvm.Cond.instanceMethod ({ cls := "SundialTreatyModel", name := "keep", desc := "()V" } : Jvm.MethodName) ∈ ab_TG := ab_in (tk_7 132 (by decide +kernel)) (by decide +kernel)
theorem tg_1715 : Jvm.Cond.code ({ cls := "SundialTreatyModel", name := "keep", desc := "()V" } : Jvm.MethodName) prog_13_method_64_code (2 : Nat) (Option.none : Option Jvm.ClassFile.FieldType) ∈ ab_TG := ab_in (tk_7 133 (by decide +kernel)) (by decide +kernel)
theorem tg_1712 : Jvm.Cond.methodLink "SundialTreatyModel" (316 : Nat) ({ cls := "SundialTreatyModel", name := "keep", desc := "()V" } : Jvm.MethodName) ∈ ab_TG := ab_in (tk_7 130 (by decide +kernel)) (by decide +kernel)
theorem tg_115 : Jvm.Cond.selects "SundialTreatyModel" ({ cls := "SundialTreatyModel", name := "keep", desc := "()V" } : Jvm.MethodName) ({ cls := "SundialTreatyModel", name := "keep", desc := "()V" } : Jvm.MethodName) ∈ ab_TG := ab_in (tk_0 115 (by decide +kernel)) (by decide +kernel)
theorem tg_1734 : Jvm.Cond.instanceMethod ({ cls := "SundialTreatyModel", name := "freezes", desc := "()I" } : Jvm.MethodName) ∈ ab_TG := ab_in (tk_7 152 (by decide +kernel)) (by decide +kernel)
theorem tg_1735 : Jvm.Cond.code ({ cls := "SundialTreatyModel", name := "freezes", desc := "()I" } : Jvm.MethodName) prog_13_method_57_code (4 : Nat) (Option.some Jvm.ClassFile.FieldType.int) ∈ ab_TG := ab_in (tk_7 153 (by decide +kernel)) (by decide +kernel)
theorem tg_1732 : Jvm.Cond.methodLink "SundialTreatyModel" (323 : Nat) ({ cls := "SundialTreatyModel", name := "freezes", desc := "()I" } : Jvm.MethodName) ∈ ab_TG := ab_in (tk_7 150 (by decide +kernel)) (by decide +kernel)
theorem tg_117 : Jvm.Cond.selects "SundialTreatyModel" ({ cls := "SundialTreatyModel", name := "freezes", desc := "()I" } : Jvm.MethodName) ({ cls := "SundialTreatyModel", name := "freezes", desc := "()I" } : Jvm.MethodName) ∈ ab_TG := ab_in (tk_0 117 (by decide +kernel)) (by decide +kernel)
theorem tg_163 : Jvm.Cond.initialized "java/lang/Math" ∈ ab_TG := ab_in (tk_1 21 (by decide +kernel)) (by decide +kernel)
theorem tg_823 : Jvm.Cond.code ({ cls := "java/lang/Math", name := "min", desc := "(II)I" } : Jvm.MethodName) prog_19_method_69_code (2 : Nat) (Option.some Jvm.ClassFile.FieldType.int) ∈ ab_TG := ab_in (tk_3 201 (by decide +kernel)) (by decide +kernel)
theorem tg_821 : Jvm.Cond.methodLink "SundialTreaty" (245 : Nat) ({ cls := "java/lang/Math", name := "min", desc := "(II)I" } : Jvm.MethodName) ∈ ab_TG := ab_in (tk_3 199 (by decide +kernel)) (by decide +kernel)
theorem tg_822 : Jvm.Cond.static ({ cls := "java/lang/Math", name := "min", desc := "(II)I" } : Jvm.MethodName) ∈ ab_TG := ab_in (tk_3 200 (by decide +kernel)) (by decide +kernel)
theorem tg_826 : Jvm.Cond.instanceMethod ({ cls := "SundialTreaty$State", name := "passDays", desc := "(LSundialTreaty$Valley;I)V" } : Jvm.MethodName) ∈ ab_TG := ab_in (tk_3 204 (by decide +kernel)) (by decide +kernel)
theorem tg_827 : Jvm.Cond.code ({ cls := "SundialTreaty$State", name := "passDays", desc := "(LSundialTreaty$Valley;I)V" } : Jvm.MethodName) prog_9_method_16_code (4 : Nat) (Option.none : Option Jvm.ClassFile.FieldType) ∈ ab_TG := ab_in (tk_3 205 (by decide +kernel)) (by decide +kernel)
theorem tn_824 : Jvm.Cond.methodLinkNest "SundialTreaty" (250 : Nat) ({ cls := "SundialTreaty$State", name := "passDays", desc := "(LSundialTreaty$Valley;I)V" } : Jvm.MethodName) "SundialTreaty" ∈ lw_tbl := tk_3 202 (by decide +kernel)
theorem tg_33 : Jvm.Cond.selects "SundialTreaty$State" ({ cls := "SundialTreaty$State", name := "passDays", desc := "(LSundialTreaty$Valley;I)V" } : Jvm.MethodName) ({ cls := "SundialTreaty$State", name := "passDays", desc := "(LSundialTreaty$Valley;I)V" } : Jvm.MethodName) ∈ ab_TG := ab_in (tk_0 33 (by decide +kernel)) (by decide +kernel)
theorem tg_830 : Jvm.Cond.instanceMethod ({ cls := "SundialTreaty$State", name := "passDay", desc := "(LSundialTreaty$Valley;)V" } : Jvm.MethodName) ∈ ab_TG := ab_in (tk_3 208 (by decide +kernel)) (by decide +kernel)
theorem tg_831 : Jvm.Cond.code ({ cls := "SundialTreaty$State", name := "passDay", desc := "(LSundialTreaty$Valley;)V" } : Jvm.MethodName) prog_9_method_15_code (3 : Nat) (Option.none : Option Jvm.ClassFile.FieldType) ∈ ab_TG := ab_in (tk_3 209 (by decide +kernel)) (by decide +kernel)
theorem tg_828 : Jvm.Cond.methodLink "SundialTreaty$State" (97 : Nat) ({ cls := "SundialTreaty$State", name := "passDay", desc := "(LSundialTreaty$Valley;)V" } : Jvm.MethodName) ∈ ab_TG := ab_in (tk_3 206 (by decide +kernel)) (by decide +kernel)
theorem tg_34 : Jvm.Cond.selects "SundialTreaty$State" ({ cls := "SundialTreaty$State", name := "passDay", desc := "(LSundialTreaty$Valley;)V" } : Jvm.MethodName) ({ cls := "SundialTreaty$State", name := "passDay", desc := "(LSundialTreaty$Valley;)V" } : Jvm.MethodName) ∈ ab_TG := ab_in (tk_0 34 (by decide +kernel)) (by decide +kernel)
theorem tg_1742 : Jvm.Cond.instanceMethod ({ cls := "SundialTreatyModel", name := "goesOn", desc := "(I)I" } : Jvm.MethodName) ∈ ab_TG := ab_in (tk_7 160 (by decide +kernel)) (by decide +kernel)
theorem tg_1743 : Jvm.Cond.code ({ cls := "SundialTreatyModel", name := "goesOn", desc := "(I)I" } : Jvm.MethodName) prog_13_method_58_code (4 : Nat) (Option.some Jvm.ClassFile.FieldType.int) ∈ ab_TG := ab_in (tk_7 161 (by decide +kernel)) (by decide +kernel)
theorem tg_1740 : Jvm.Cond.methodLink "SundialTreatyModel" (326 : Nat) ({ cls := "SundialTreatyModel", name := "goesOn", desc := "(I)I" } : Jvm.MethodName) ∈ ab_TG := ab_in (tk_7 158 (by decide +kernel)) (by decide +kernel)
theorem tg_118 : Jvm.Cond.selects "SundialTreatyModel" ({ cls := "SundialTreatyModel", name := "goesOn", desc := "(I)I" } : Jvm.MethodName) ({ cls := "SundialTreatyModel", name := "goesOn", desc := "(I)I" } : Jvm.MethodName) ∈ ab_TG := ab_in (tk_0 118 (by decide +kernel)) (by decide +kernel)
theorem tg_847 : Jvm.Cond.instanceMethod ({ cls := "SundialTreaty$History", name := "takeBack", desc := "(LSundialTreaty$State;)I" } : Jvm.MethodName) ∈ ab_TG := ab_in (tk_3 225 (by decide +kernel)) (by decide +kernel)
theorem tg_848 : Jvm.Cond.code ({ cls := "SundialTreaty$History", name := "takeBack", desc := "(LSundialTreaty$State;)I" } : Jvm.MethodName) prog_3_method_3_code (2 : Nat) (Option.some Jvm.ClassFile.FieldType.int) ∈ ab_TG := ab_in (tk_3 226 (by decide +kernel)) (by decide +kernel)
theorem tn_845 : Jvm.Cond.methodLinkNest "SundialTreaty" (254 : Nat) ({ cls := "SundialTreaty$History", name := "takeBack", desc := "(LSundialTreaty$State;)I" } : Jvm.MethodName) "SundialTreaty" ∈ lw_tbl := tk_3 223 (by decide +kernel)
theorem tg_37 : Jvm.Cond.selects "SundialTreaty$History" ({ cls := "SundialTreaty$History", name := "takeBack", desc := "(LSundialTreaty$State;)I" } : Jvm.MethodName) ({ cls := "SundialTreaty$History", name := "takeBack", desc := "(LSundialTreaty$State;)I" } : Jvm.MethodName) ∈ ab_TG := ab_in (tk_0 37 (by decide +kernel)) (by decide +kernel)
theorem tg_1288 : Jvm.Cond.code ({ cls := "SundialTreaty", name := "noonLong", desc := "()I" } : Jvm.MethodName) prog_1_method_17_code (4 : Nat) (Option.some Jvm.ClassFile.FieldType.int) ∈ ab_TG := ab_in (tk_5 186 (by decide +kernel)) (by decide +kernel)
theorem tg_1285 : Jvm.Cond.methodLink "SundialTreatyLaw" (28 : Nat) ({ cls := "SundialTreaty", name := "noonLong", desc := "()I" } : Jvm.MethodName) ∈ ab_TG := ab_in (tk_5 183 (by decide +kernel)) (by decide +kernel)
theorem tg_1286 : Jvm.Cond.instanceMethod ({ cls := "SundialTreaty", name := "noonLong", desc := "()I" } : Jvm.MethodName) ∈ ab_TG := ab_in (tk_5 184 (by decide +kernel)) (by decide +kernel)
theorem tg_1287 : Jvm.Cond.selects "SundialTreaty" ({ cls := "SundialTreaty", name := "noonLong", desc := "()I" } : Jvm.MethodName) ({ cls := "SundialTreaty", name := "noonLong", desc := "()I" } : Jvm.MethodName) ∈ ab_TG := ab_in (tk_5 185 (by decide +kernel)) (by decide +kernel)
theorem tg_1754 : Jvm.Cond.instanceMethod ({ cls := "SundialTreatyModel", name := "sorts", desc := "(I)I" } : Jvm.MethodName) ∈ ab_TG := ab_in (tk_7 172 (by decide +kernel)) (by decide +kernel)
theorem tg_1755 : Jvm.Cond.code ({ cls := "SundialTreatyModel", name := "sorts", desc := "(I)I" } : Jvm.MethodName) prog_13_method_68_code (5 : Nat) (Option.some Jvm.ClassFile.FieldType.int) ∈ ab_TG := ab_in (tk_7 173 (by decide +kernel)) (by decide +kernel)
theorem tg_1752 : Jvm.Cond.methodLink "SundialTreatyModel" (329 : Nat) ({ cls := "SundialTreatyModel", name := "sorts", desc := "(I)I" } : Jvm.MethodName) ∈ ab_TG := ab_in (tk_7 170 (by decide +kernel)) (by decide +kernel)
theorem tg_119 : Jvm.Cond.selects "SundialTreatyModel" ({ cls := "SundialTreatyModel", name := "sorts", desc := "(I)I" } : Jvm.MethodName) ({ cls := "SundialTreatyModel", name := "sorts", desc := "(I)I" } : Jvm.MethodName) ∈ ab_TG := ab_in (tk_0 119 (by decide +kernel)) (by decide +kernel)
theorem tg_1296 : Jvm.Cond.code ({ cls := "SundialTreaty", name := "oneNoon", desc := "()I" } : Jvm.MethodName) prog_1_method_18_code (2 : Nat) (Option.some Jvm.ClassFile.FieldType.int) ∈ ab_TG := ab_in (tk_5 194 (by decide +kernel)) (by decide +kernel)
theorem tg_1293 : Jvm.Cond.methodLink "SundialTreatyLaw" (32 : Nat) ({ cls := "SundialTreaty", name := "oneNoon", desc := "()I" } : Jvm.MethodName) ∈ ab_TG := ab_in (tk_5 191 (by decide +kernel)) (by decide +kernel)
theorem tg_1294 : Jvm.Cond.instanceMethod ({ cls := "SundialTreaty", name := "oneNoon", desc := "()I" } : Jvm.MethodName) ∈ ab_TG := ab_in (tk_5 192 (by decide +kernel)) (by decide +kernel)
theorem tg_1295 : Jvm.Cond.selects "SundialTreaty" ({ cls := "SundialTreaty", name := "oneNoon", desc := "()I" } : Jvm.MethodName) ({ cls := "SundialTreaty", name := "oneNoon", desc := "()I" } : Jvm.MethodName) ∈ ab_TG := ab_in (tk_5 193 (by decide +kernel)) (by decide +kernel)
theorem tg_945 : Jvm.Cond.instanceMethod ({ cls := "SundialTreaty$State", name := "middleNoon", desc := "(LSundialTreaty$Valley;I)I" } : Jvm.MethodName) ∈ ab_TG := ab_in (tk_4 83 (by decide +kernel)) (by decide +kernel)
theorem tg_946 : Jvm.Cond.code ({ cls := "SundialTreaty$State", name := "middleNoon", desc := "(LSundialTreaty$Valley;I)I" } : Jvm.MethodName) prog_9_method_21_code (7 : Nat) (Option.some Jvm.ClassFile.FieldType.int) ∈ ab_TG := ab_in (tk_4 84 (by decide +kernel)) (by decide +kernel)
theorem tn_1297 : Jvm.Cond.methodLinkNest "SundialTreaty" (266 : Nat) ({ cls := "SundialTreaty$State", name := "middleNoon", desc := "(LSundialTreaty$Valley;I)I" } : Jvm.MethodName) "SundialTreaty" ∈ lw_tbl := tk_5 195 (by decide +kernel)
theorem tg_52 : Jvm.Cond.selects "SundialTreaty$State" ({ cls := "SundialTreaty$State", name := "middleNoon", desc := "(LSundialTreaty$Valley;I)I" } : Jvm.MethodName) ({ cls := "SundialTreaty$State", name := "middleNoon", desc := "(LSundialTreaty$Valley;I)I" } : Jvm.MethodName) ∈ ab_TG := ab_in (tk_0 52 (by decide +kernel)) (by decide +kernel)
theorem tg_770 : Jvm.Cond.code ({ cls := "java/lang/Math", name := "abs", desc := "(I)I" } : Jvm.MethodName) prog_19_method_59_code (1 : Nat) (Option.some Jvm.ClassFile.FieldType.int) ∈ ab_TG := ab_in (tk_3 148 (by decide +kernel)) (by decide +kernel)
theorem tg_861 : Jvm.Cond.methodLink "SundialTreaty" (269 : Nat) ({ cls := "java/lang/Math", name := "abs", desc := "(I)I" } : Jvm.MethodName) ∈ ab_TG := ab_in (tk_3 239 (by decide +kernel)) (by decide +kernel)
theorem tg_769 : Jvm.Cond.static ({ cls := "java/lang/Math", name := "abs", desc := "(I)I" } : Jvm.MethodName) ∈ ab_TG := ab_in (tk_3 147 (by decide +kernel)) (by decide +kernel)
theorem tg_1703 : Jvm.Cond.code ({ cls := "SundialTreatyModel", name := "absolute", desc := "(I)I" } : Jvm.MethodName) prog_13_method_11_code (1 : Nat) (Option.some Jvm.ClassFile.FieldType.int) ∈ ab_TG := ab_in (tk_7 121 (by decide +kernel)) (by decide +kernel)
theorem tg_1701 : Jvm.Cond.methodLink "SundialTreatyModel" (310 : Nat) ({ cls := "SundialTreatyModel", name := "absolute", desc := "(I)I" } : Jvm.MethodName) ∈ ab_TG := ab_in (tk_7 119 (by decide +kernel)) (by decide +kernel)
theorem tg_1702 : Jvm.Cond.static ({ cls := "SundialTreatyModel", name := "absolute", desc := "(I)I" } : Jvm.MethodName) ∈ ab_TG := ab_in (tk_7 120 (by decide +kernel)) (by decide +kernel)
theorem tg_1304 : Jvm.Cond.code ({ cls := "SundialTreaty", name := "evenAt", desc := "(I)I" } : Jvm.MethodName) prog_1_method_20_code (2 : Nat) (Option.some Jvm.ClassFile.FieldType.int) ∈ ab_TG := ab_in (tk_5 202 (by decide +kernel)) (by decide +kernel)
theorem tg_1301 : Jvm.Cond.methodLink "SundialTreatyLaw" (35 : Nat) ({ cls := "SundialTreaty", name := "evenAt", desc := "(I)I" } : Jvm.MethodName) ∈ ab_TG := ab_in (tk_5 199 (by decide +kernel)) (by decide +kernel)
theorem tg_1302 : Jvm.Cond.instanceMethod ({ cls := "SundialTreaty", name := "evenAt", desc := "(I)I" } : Jvm.MethodName) ∈ ab_TG := ab_in (tk_5 200 (by decide +kernel)) (by decide +kernel)
theorem tg_1303 : Jvm.Cond.selects "SundialTreaty" ({ cls := "SundialTreaty", name := "evenAt", desc := "(I)I" } : Jvm.MethodName) ({ cls := "SundialTreaty", name := "evenAt", desc := "(I)I" } : Jvm.MethodName) ∈ ab_TG := ab_in (tk_5 201 (by decide +kernel)) (by decide +kernel)
theorem tn_878 : Jvm.Cond.methodLinkNest "SundialTreaty" (278 : Nat) ({ cls := "SundialTreaty$State", name := "copyFrom", desc := "(LSundialTreaty$State;)V" } : Jvm.MethodName) "SundialTreaty" ∈ lw_tbl := tk_4 16 (by decide +kernel)
theorem tg_881 : Jvm.Cond.instanceMethod ({ cls := "SundialTreaty$State", name := "bendToDues", desc := "(LSundialTreaty$Valley;)V" } : Jvm.MethodName) ∈ ab_TG := ab_in (tk_4 19 (by decide +kernel)) (by decide +kernel)
theorem tg_882 : Jvm.Cond.code ({ cls := "SundialTreaty$State", name := "bendToDues", desc := "(LSundialTreaty$Valley;)V" } : Jvm.MethodName) prog_9_method_20_code (5 : Nat) (Option.none : Option Jvm.ClassFile.FieldType) ∈ ab_TG := ab_in (tk_4 20 (by decide +kernel)) (by decide +kernel)
theorem tn_879 : Jvm.Cond.methodLinkNest "SundialTreaty" (281 : Nat) ({ cls := "SundialTreaty$State", name := "bendToDues", desc := "(LSundialTreaty$Valley;)V" } : Jvm.MethodName) "SundialTreaty" ∈ lw_tbl := tk_4 17 (by decide +kernel)
theorem tg_42 : Jvm.Cond.selects "SundialTreaty$State" ({ cls := "SundialTreaty$State", name := "bendToDues", desc := "(LSundialTreaty$Valley;)V" } : Jvm.MethodName) ({ cls := "SundialTreaty$State", name := "bendToDues", desc := "(LSundialTreaty$Valley;)V" } : Jvm.MethodName) ∈ ab_TG := ab_in (tk_0 42 (by decide +kernel)) (by decide +kernel)
theorem tg_1781 : Jvm.Cond.instanceMethod ({ cls := "SundialTreatyModel", name := "tries", desc := "()V" } : Jvm.MethodName) ∈ ab_TG := ab_in (tk_7 199 (by decide +kernel)) (by decide +kernel)
theorem tg_1782 : Jvm.Cond.code ({ cls := "SundialTreatyModel", name := "tries", desc := "()V" } : Jvm.MethodName) prog_13_method_66_code (2 : Nat) (Option.none : Option Jvm.ClassFile.FieldType) ∈ ab_TG := ab_in (tk_7 200 (by decide +kernel)) (by decide +kernel)
theorem tg_1779 : Jvm.Cond.methodLink "SundialTreatyModel" (342 : Nat) ({ cls := "SundialTreatyModel", name := "tries", desc := "()V" } : Jvm.MethodName) ∈ ab_TG := ab_in (tk_7 197 (by decide +kernel)) (by decide +kernel)
theorem tg_121 : Jvm.Cond.selects "SundialTreatyModel" ({ cls := "SundialTreatyModel", name := "tries", desc := "()V" } : Jvm.MethodName) ({ cls := "SundialTreatyModel", name := "tries", desc := "()V" } : Jvm.MethodName) ∈ ab_TG := ab_in (tk_0 121 (by decide +kernel)) (by decide +kernel)
theorem tg_1785 : Jvm.Cond.instanceMethod ({ cls := "SundialTreatyModel", name := "movesToDues", desc := "()V" } : Jvm.MethodName) ∈ ab_TG := ab_in (tk_7 203 (by decide +kernel)) (by decide +kernel)
theorem tg_1786 : Jvm.Cond.code ({ cls := "SundialTreatyModel", name := "movesToDues", desc := "()V" } : Jvm.MethodName) prog_13_method_74_code (3 : Nat) (Option.none : Option Jvm.ClassFile.FieldType) ∈ ab_TG := ab_in (tk_7 204 (by decide +kernel)) (by decide +kernel)
theorem tg_1783 : Jvm.Cond.methodLink "SundialTreatyModel" (345 : Nat) ({ cls := "SundialTreatyModel", name := "movesToDues", desc := "()V" } : Jvm.MethodName) ∈ ab_TG := ab_in (tk_7 201 (by decide +kernel)) (by decide +kernel)
theorem tg_122 : Jvm.Cond.selects "SundialTreatyModel" ({ cls := "SundialTreatyModel", name := "movesToDues", desc := "()V" } : Jvm.MethodName) ({ cls := "SundialTreatyModel", name := "movesToDues", desc := "()V" } : Jvm.MethodName) ∈ ab_TG := ab_in (tk_0 122 (by decide +kernel)) (by decide +kernel)
theorem tg_1792 : Jvm.Cond.instanceMethod ({ cls := "SundialTreatyModel", name := "back", desc := "()V" } : Jvm.MethodName) ∈ ab_TG := ab_in (tk_7 210 (by decide +kernel)) (by decide +kernel)
theorem tg_1793 : Jvm.Cond.code ({ cls := "SundialTreatyModel", name := "back", desc := "()V" } : Jvm.MethodName) prog_13_method_67_code (2 : Nat) (Option.none : Option Jvm.ClassFile.FieldType) ∈ ab_TG := ab_in (tk_7 211 (by decide +kernel)) (by decide +kernel)
theorem tg_1790 : Jvm.Cond.methodLink "SundialTreatyModel" (348 : Nat) ({ cls := "SundialTreatyModel", name := "back", desc := "()V" } : Jvm.MethodName) ∈ ab_TG := ab_in (tk_7 208 (by decide +kernel)) (by decide +kernel)
theorem tg_123 : Jvm.Cond.selects "SundialTreatyModel" ({ cls := "SundialTreatyModel", name := "back", desc := "()V" } : Jvm.MethodName) ({ cls := "SundialTreatyModel", name := "back", desc := "()V" } : Jvm.MethodName) ∈ ab_TG := ab_in (tk_0 123 (by decide +kernel)) (by decide +kernel)
theorem tg_1312 : Jvm.Cond.code ({ cls := "SundialTreaty", name := "spare", desc := "(II)I" } : Jvm.MethodName) prog_1_method_23_code (3 : Nat) (Option.some Jvm.ClassFile.FieldType.int) ∈ ab_TG := ab_in (tk_5 210 (by decide +kernel)) (by decide +kernel)
theorem tg_1309 : Jvm.Cond.methodLink "SundialTreatyLaw" (38 : Nat) ({ cls := "SundialTreaty", name := "spare", desc := "(II)I" } : Jvm.MethodName) ∈ ab_TG := ab_in (tk_5 207 (by decide +kernel)) (by decide +kernel)
theorem tg_1310 : Jvm.Cond.instanceMethod ({ cls := "SundialTreaty", name := "spare", desc := "(II)I" } : Jvm.MethodName) ∈ ab_TG := ab_in (tk_5 208 (by decide +kernel)) (by decide +kernel)
theorem tg_1311 : Jvm.Cond.selects "SundialTreaty" ({ cls := "SundialTreaty", name := "spare", desc := "(II)I" } : Jvm.MethodName) ({ cls := "SundialTreaty", name := "spare", desc := "(II)I" } : Jvm.MethodName) ∈ ab_TG := ab_in (tk_5 209 (by decide +kernel)) (by decide +kernel)
theorem tn_525 : Jvm.Cond.fieldLinkNest "SundialTreaty" (293 : Nat) "SundialTreaty$Router" "toldTrains" "I" "SundialTreaty" ∈ lw_tbl := tk_2 143 (by decide +kernel)
theorem tg_1320 : Jvm.Cond.code ({ cls := "SundialTreaty", name := "votes", desc := "(II)I" } : Jvm.MethodName) prog_1_method_27_code (7 : Nat) (Option.some Jvm.ClassFile.FieldType.int) ∈ ab_TG := ab_in (tk_5 218 (by decide +kernel)) (by decide +kernel)
theorem tg_1317 : Jvm.Cond.methodLink "SundialTreatyLaw" (41 : Nat) ({ cls := "SundialTreaty", name := "votes", desc := "(II)I" } : Jvm.MethodName) ∈ ab_TG := ab_in (tk_5 215 (by decide +kernel)) (by decide +kernel)
theorem tg_1318 : Jvm.Cond.instanceMethod ({ cls := "SundialTreaty", name := "votes", desc := "(II)I" } : Jvm.MethodName) ∈ ab_TG := ab_in (tk_5 216 (by decide +kernel)) (by decide +kernel)
theorem tg_1319 : Jvm.Cond.selects "SundialTreaty" ({ cls := "SundialTreaty", name := "votes", desc := "(II)I" } : Jvm.MethodName) ({ cls := "SundialTreaty", name := "votes", desc := "(II)I" } : Jvm.MethodName) ∈ ab_TG := ab_in (tk_5 217 (by decide +kernel)) (by decide +kernel)
theorem tg_941 : Jvm.Cond.instanceMethod ({ cls := "SundialTreaty$State", name := "comeNearer", desc := "(LSundialTreaty$Valley;)Z" } : Jvm.MethodName) ∈ ab_TG := ab_in (tk_4 79 (by decide +kernel)) (by decide +kernel)
theorem tg_942 : Jvm.Cond.code ({ cls := "SundialTreaty$State", name := "comeNearer", desc := "(LSundialTreaty$Valley;)Z" } : Jvm.MethodName) prog_9_method_23_code (6 : Nat) (Option.some Jvm.ClassFile.FieldType.boolean) ∈ ab_TG := ab_in (tk_4 80 (by decide +kernel)) (by decide +kernel)
theorem tn_939 : Jvm.Cond.methodLinkNest "SundialTreaty" (309 : Nat) ({ cls := "SundialTreaty$State", name := "comeNearer", desc := "(LSundialTreaty$Valley;)Z" } : Jvm.MethodName) "SundialTreaty" ∈ lw_tbl := tk_4 77 (by decide +kernel)
theorem tg_51 : Jvm.Cond.selects "SundialTreaty$State" ({ cls := "SundialTreaty$State", name := "comeNearer", desc := "(LSundialTreaty$Valley;)Z" } : Jvm.MethodName) ({ cls := "SundialTreaty$State", name := "comeNearer", desc := "(LSundialTreaty$Valley;)Z" } : Jvm.MethodName) ∈ ab_TG := ab_in (tk_0 51 (by decide +kernel)) (by decide +kernel)
theorem tg_1329 : Jvm.Cond.code ({ cls := "SundialTreaty", name := "nearerAt", desc := "(I)I" } : Jvm.MethodName) prog_1_method_29_code (2 : Nat) (Option.some Jvm.ClassFile.FieldType.int) ∈ ab_TG := ab_in (tk_5 227 (by decide +kernel)) (by decide +kernel)
theorem tg_1326 : Jvm.Cond.methodLink "SundialTreatyLaw" (44 : Nat) ({ cls := "SundialTreaty", name := "nearerAt", desc := "(I)I" } : Jvm.MethodName) ∈ ab_TG := ab_in (tk_5 224 (by decide +kernel)) (by decide +kernel)
theorem tg_1327 : Jvm.Cond.instanceMethod ({ cls := "SundialTreaty", name := "nearerAt", desc := "(I)I" } : Jvm.MethodName) ∈ ab_TG := ab_in (tk_5 225 (by decide +kernel)) (by decide +kernel)
theorem tg_1328 : Jvm.Cond.selects "SundialTreaty" ({ cls := "SundialTreaty", name := "nearerAt", desc := "(I)I" } : Jvm.MethodName) ({ cls := "SundialTreaty", name := "nearerAt", desc := "(I)I" } : Jvm.MethodName) ∈ ab_TG := ab_in (tk_5 226 (by decide +kernel)) (by decide +kernel)
theorem tn_548 : Jvm.Cond.fieldLinkNest "SundialTreaty" (323 : Nat) "SundialTreaty$Motto" "size" "I" "SundialTreaty" ∈ lw_tbl := tk_2 166 (by decide +kernel)
theorem tg_1415 : Jvm.Cond.fieldLink "SundialTreatyModel" (361 : Nat) "SundialTreatyModel" "textMany" "I" ∈ ab_TG := ab_in (tk_6 73 (by decide +kernel)) (by decide +kernel)
theorem tg_1029 : Jvm.Cond.instanceMethod ({ cls := "SundialTreaty$Book", name := "read", desc := "(LSundialTreaty$Valley;LSundialTreaty$Reader;)Z" } : Jvm.MethodName) ∈ ab_TG := ab_in (tk_4 167 (by decide +kernel)) (by decide +kernel)
theorem tg_1030 : Jvm.Cond.code ({ cls := "SundialTreaty$Book", name := "read", desc := "(LSundialTreaty$Valley;LSundialTreaty$Reader;)Z" } : Jvm.MethodName) prog_2_method_2_code (3 : Nat) (Option.some Jvm.ClassFile.FieldType.boolean) ∈ ab_TG := ab_in (tk_4 168 (by decide +kernel)) (by decide +kernel)
theorem tn_1027 : Jvm.Cond.methodLinkNest "SundialTreaty" (329 : Nat) ({ cls := "SundialTreaty$Book", name := "read", desc := "(LSundialTreaty$Valley;LSundialTreaty$Reader;)Z" } : Jvm.MethodName) "SundialTreaty" ∈ lw_tbl := tk_4 165 (by decide +kernel)
theorem tg_62 : Jvm.Cond.selects "SundialTreaty$Book" ({ cls := "SundialTreaty$Book", name := "read", desc := "(LSundialTreaty$Valley;LSundialTreaty$Reader;)Z" } : Jvm.MethodName) ({ cls := "SundialTreaty$Book", name := "read", desc := "(LSundialTreaty$Valley;LSundialTreaty$Reader;)Z" } : Jvm.MethodName) ∈ ab_TG := ab_in (tk_0 62 (by decide +kernel)) (by decide +kernel)
theorem tg_1048 : Jvm.Cond.instanceMethod ({ cls := "SundialTreaty$Book", name := "judge", desc := "(LSundialTreaty$Valley;LSundialTreaty$State;)V" } : Jvm.MethodName) ∈ ab_TG := ab_in (tk_4 186 (by decide +kernel)) (by decide +kernel)
theorem tg_1049 : Jvm.Cond.code ({ cls := "SundialTreaty$Book", name := "judge", desc := "(LSundialTreaty$Valley;LSundialTreaty$State;)V" } : Jvm.MethodName) prog_2_method_5_code (3 : Nat) (Option.none : Option Jvm.ClassFile.FieldType) ∈ ab_TG := ab_in (tk_4 187 (by decide +kernel)) (by decide +kernel)
theorem tn_1046 : Jvm.Cond.methodLinkNest "SundialTreaty" (333 : Nat) ({ cls := "SundialTreaty$Book", name := "judge", desc := "(LSundialTreaty$Valley;LSundialTreaty$State;)V" } : Jvm.MethodName) "SundialTreaty" ∈ lw_tbl := tk_4 184 (by decide +kernel)
theorem tg_64 : Jvm.Cond.selects "SundialTreaty$Book" ({ cls := "SundialTreaty$Book", name := "judge", desc := "(LSundialTreaty$Valley;LSundialTreaty$State;)V" } : Jvm.MethodName) ({ cls := "SundialTreaty$Book", name := "judge", desc := "(LSundialTreaty$Valley;LSundialTreaty$State;)V" } : Jvm.MethodName) ∈ ab_TG := ab_in (tk_0 64 (by decide +kernel)) (by decide +kernel)
theorem tn_485 : Jvm.Cond.fieldLinkNest "SundialTreaty" (337 : Nat) "SundialTreaty$Book" "wrongLine" "I" "SundialTreaty" ∈ lw_tbl := tk_2 103 (by decide +kernel)
theorem tn_1031 : Jvm.Cond.methodLinkNest "SundialTreaty$Book" (44 : Nat) ({ cls := "SundialTreaty$Reader", name := "begin", desc := "(I)V" } : Jvm.MethodName) "SundialTreaty" ∈ lw_tbl := tk_4 169 (by decide +kernel)
theorem tn_1032 : Jvm.Cond.methodLinkNest "SundialTreaty$Book" (50 : Nat) ({ cls := "SundialTreaty$Reader", name := "atEnd", desc := "()Z" } : Jvm.MethodName) "SundialTreaty" ∈ lw_tbl := tk_4 170 (by decide +kernel)
theorem tn_402 : Jvm.Cond.fieldLinkNest "SundialTreaty$Book" (95 : Nat) "SundialTreaty$State" "day" "I" "SundialTreaty" ∈ lw_tbl := tk_2 20 (by decide +kernel)
theorem tn_1072 : Jvm.Cond.methodLinkNest "SundialTreaty$Book" (100 : Nat) ({ cls := "SundialTreaty$State", name := "breachBits", desc := "(LSundialTreaty$Valley;)I" } : Jvm.MethodName) "SundialTreaty" ∈ lw_tbl := tk_4 210 (by decide +kernel)
theorem tg_1417 : Jvm.Cond.fieldLink "SundialTreatyModel" (392 : Nat) "SundialTreatyModel" "toldMany" "I" ∈ ab_TG := ab_in (tk_6 75 (by decide +kernel)) (by decide +kernel)
theorem tg_1419 : Jvm.Cond.fieldLink "SundialTreatyModel" (402 : Nat) "SundialTreatyModel" "hasTold" "Z" ∈ ab_TG := ab_in (tk_6 77 (by decide +kernel)) (by decide +kernel)
theorem tn_483 : Jvm.Cond.fieldLinkNest "SundialTreaty" (340 : Nat) "SundialTreaty$Book" "judged" "Z" "SundialTreaty" ∈ lw_tbl := tk_2 101 (by decide +kernel)
theorem tg_1083 : Jvm.Cond.instanceMethod ({ cls := "SundialTreaty$Sentence", name := "read", desc := "(LSundialTreaty$Valley;LSundialTreaty$Reader;)Z" } : Jvm.MethodName) ∈ ab_TG := ab_in (tk_4 221 (by decide +kernel)) (by decide +kernel)
theorem tg_1084 : Jvm.Cond.code ({ cls := "SundialTreaty$Sentence", name := "read", desc := "(LSundialTreaty$Valley;LSundialTreaty$Reader;)Z" } : Jvm.MethodName) prog_8_method_3_code (3 : Nat) (Option.some Jvm.ClassFile.FieldType.boolean) ∈ ab_TG := ab_in (tk_4 222 (by decide +kernel)) (by decide +kernel)
theorem tn_1081 : Jvm.Cond.methodLinkNest "SundialTreaty" (356 : Nat) ({ cls := "SundialTreaty$Sentence", name := "read", desc := "(LSundialTreaty$Valley;LSundialTreaty$Reader;)Z" } : Jvm.MethodName) "SundialTreaty" ∈ lw_tbl := tk_4 219 (by decide +kernel)
theorem tg_66 : Jvm.Cond.selects "SundialTreaty$Sentence" ({ cls := "SundialTreaty$Sentence", name := "read", desc := "(LSundialTreaty$Valley;LSundialTreaty$Reader;)Z" } : Jvm.MethodName) ({ cls := "SundialTreaty$Sentence", name := "read", desc := "(LSundialTreaty$Valley;LSundialTreaty$Reader;)Z" } : Jvm.MethodName) ∈ ab_TG := ab_in (tk_0 66 (by decide +kernel)) (by decide +kernel)
theorem tn_257 : Jvm.Cond.fieldLinkNest "SundialTreaty" (113 : Nat) "SundialTreaty$Reader" "faultPlace" "I" "SundialTreaty" ∈ lw_tbl := tk_1 115 (by decide +kernel)
theorem tn_1085 : Jvm.Cond.methodLinkNest "SundialTreaty$Sentence" (34 : Nat) ({ cls := "SundialTreaty$Reader", name := "begin", desc := "(I)V" } : Jvm.MethodName) "SundialTreaty" ∈ lw_tbl := tk_4 223 (by decide +kernel)
theorem tg_1088 : Jvm.Cond.instanceMethod ({ cls := "SundialTreaty$Sentence", name := "readCond", desc := "(LSundialTreaty$Valley;LSundialTreaty$Reader;I)Z" } : Jvm.MethodName) ∈ ab_TG := ab_in (tk_4 226 (by decide +kernel)) (by decide +kernel)
theorem tg_1089 : Jvm.Cond.code ({ cls := "SundialTreaty$Sentence", name := "readCond", desc := "(LSundialTreaty$Valley;LSundialTreaty$Reader;I)Z" } : Jvm.MethodName) prog_8_method_4_code (5 : Nat) (Option.some Jvm.ClassFile.FieldType.boolean) ∈ ab_TG := ab_in (tk_4 227 (by decide +kernel)) (by decide +kernel)
theorem tg_1086 : Jvm.Cond.methodLink "SundialTreaty$Sentence" (40 : Nat) ({ cls := "SundialTreaty$Sentence", name := "readCond", desc := "(LSundialTreaty$Valley;LSundialTreaty$Reader;I)Z" } : Jvm.MethodName) ∈ ab_TG := ab_in (tk_4 224 (by decide +kernel)) (by decide +kernel)
theorem tg_67 : Jvm.Cond.selects "SundialTreaty$Sentence" ({ cls := "SundialTreaty$Sentence", name := "readCond", desc := "(LSundialTreaty$Valley;LSundialTreaty$Reader;I)Z" } : Jvm.MethodName) ({ cls := "SundialTreaty$Sentence", name := "readCond", desc := "(LSundialTreaty$Valley;LSundialTreaty$Reader;I)Z" } : Jvm.MethodName) ∈ ab_TG := ab_in (tk_0 67 (by decide +kernel)) (by decide +kernel)
theorem tg_1092 : Jvm.Cond.instanceMethod ({ cls := "SundialTreaty$Sentence", name := "readAll", desc := "(LSundialTreaty$Valley;LSundialTreaty$Reader;I)Z" } : Jvm.MethodName) ∈ ab_TG := ab_in (tk_4 230 (by decide +kernel)) (by decide +kernel)
theorem tg_1093 : Jvm.Cond.code ({ cls := "SundialTreaty$Sentence", name := "readAll", desc := "(LSundialTreaty$Valley;LSundialTreaty$Reader;I)Z" } : Jvm.MethodName) prog_8_method_5_code (5 : Nat) (Option.some Jvm.ClassFile.FieldType.boolean) ∈ ab_TG := ab_in (tk_4 231 (by decide +kernel)) (by decide +kernel)
theorem tg_1090 : Jvm.Cond.methodLink "SundialTreaty$Sentence" (52 : Nat) ({ cls := "SundialTreaty$Sentence", name := "readAll", desc := "(LSundialTreaty$Valley;LSundialTreaty$Reader;I)Z" } : Jvm.MethodName) ∈ ab_TG := ab_in (tk_4 228 (by decide +kernel)) (by decide +kernel)
theorem tg_68 : Jvm.Cond.selects "SundialTreaty$Sentence" ({ cls := "SundialTreaty$Sentence", name := "readAll", desc := "(LSundialTreaty$Valley;LSundialTreaty$Reader;I)Z" } : Jvm.MethodName) ({ cls := "SundialTreaty$Sentence", name := "readAll", desc := "(LSundialTreaty$Valley;LSundialTreaty$Reader;I)Z" } : Jvm.MethodName) ∈ ab_TG := ab_in (tk_0 68 (by decide +kernel)) (by decide +kernel)
theorem tg_1096 : Jvm.Cond.instanceMethod ({ cls := "SundialTreaty$Sentence", name := "readOne", desc := "(LSundialTreaty$Valley;LSundialTreaty$Reader;I)Z" } : Jvm.MethodName) ∈ ab_TG := ab_in (tk_4 234 (by decide +kernel)) (by decide +kernel)
theorem tg_1097 : Jvm.Cond.code ({ cls := "SundialTreaty$Sentence", name := "readOne", desc := "(LSundialTreaty$Valley;LSundialTreaty$Reader;I)Z" } : Jvm.MethodName) prog_8_method_6_code (6 : Nat) (Option.some Jvm.ClassFile.FieldType.boolean) ∈ ab_TG := ab_in (tk_4 235 (by decide +kernel)) (by decide +kernel)
theorem tg_1094 : Jvm.Cond.methodLink "SundialTreaty$Sentence" (65 : Nat) ({ cls := "SundialTreaty$Sentence", name := "readOne", desc := "(LSundialTreaty$Valley;LSundialTreaty$Reader;I)Z" } : Jvm.MethodName) ∈ ab_TG := ab_in (tk_4 232 (by decide +kernel)) (by decide +kernel)
theorem tg_69 : Jvm.Cond.selects "SundialTreaty$Sentence" ({ cls := "SundialTreaty$Sentence", name := "readOne", desc := "(LSundialTreaty$Valley;LSundialTreaty$Reader;I)Z" } : Jvm.MethodName) ({ cls := "SundialTreaty$Sentence", name := "readOne", desc := "(LSundialTreaty$Valley;LSundialTreaty$Reader;I)Z" } : Jvm.MethodName) ∈ ab_TG := ab_in (tk_0 69 (by decide +kernel)) (by decide +kernel)
theorem tn_244 : Jvm.Cond.fieldLinkNest "SundialTreaty$Sentence" (55 : Nat) "SundialTreaty$Reader" "word" "I" "SundialTreaty" ∈ lw_tbl := tk_1 102 (by decide +kernel)
theorem tn_238 : Jvm.Cond.fieldLinkNest "SundialTreaty$Sentence" (68 : Nat) "SundialTreaty$Reader" "kind" "I" "SundialTreaty" ∈ lw_tbl := tk_1 96 (by decide +kernel)
theorem tg_1100 : Jvm.Cond.code ({ cls := "SundialTreaty$Sentence", name := "beginsOne", desc := "(I)Z" } : Jvm.MethodName) prog_8_method_7_code (1 : Nat) (Option.some Jvm.ClassFile.FieldType.boolean) ∈ ab_TG := ab_in (tk_4 238 (by decide +kernel)) (by decide +kernel)
theorem tg_1098 : Jvm.Cond.methodLink "SundialTreaty$Sentence" (71 : Nat) ({ cls := "SundialTreaty$Sentence", name := "beginsOne", desc := "(I)Z" } : Jvm.MethodName) ∈ ab_TG := ab_in (tk_4 236 (by decide +kernel)) (by decide +kernel)
theorem tg_1099 : Jvm.Cond.static ({ cls := "SundialTreaty$Sentence", name := "beginsOne", desc := "(I)Z" } : Jvm.MethodName) ∈ ab_TG := ab_in (tk_4 237 (by decide +kernel)) (by decide +kernel)
theorem tg_693 : Jvm.Cond.instanceMethod ({ cls := "SundialTreaty$Reader", name := "failAs", desc := "(I)Z" } : Jvm.MethodName) ∈ ab_TG := ab_in (tk_3 71 (by decide +kernel)) (by decide +kernel)
theorem tg_694 : Jvm.Cond.code ({ cls := "SundialTreaty$Reader", name := "failAs", desc := "(I)Z" } : Jvm.MethodName) prog_6_method_8_code (2 : Nat) (Option.some Jvm.ClassFile.FieldType.boolean) ∈ ab_TG := ab_in (tk_3 72 (by decide +kernel)) (by decide +kernel)
theorem tn_1101 : Jvm.Cond.methodLinkNest "SundialTreaty$Sentence" (48 : Nat) ({ cls := "SundialTreaty$Reader", name := "failAs", desc := "(I)Z" } : Jvm.MethodName) "SundialTreaty" ∈ lw_tbl := tk_4 239 (by decide +kernel)
theorem tg_10 : Jvm.Cond.selects "SundialTreaty$Reader" ({ cls := "SundialTreaty$Reader", name := "failAs", desc := "(I)Z" } : Jvm.MethodName) ({ cls := "SundialTreaty$Reader", name := "failAs", desc := "(I)Z" } : Jvm.MethodName) ∈ ab_TG := ab_in (tk_0 10 (by decide +kernel)) (by decide +kernel)
theorem tg_1421 : Jvm.Cond.fieldLink "SundialTreatyModel" (406 : Nat) "SundialTreatyModel" "codes" "I" ∈ ab_TG := ab_in (tk_6 79 (by decide +kernel)) (by decide +kernel)
theorem tg_1422 : Jvm.Cond.fieldLink "SundialTreatyModel" (422 : Nat) "SundialTreatyModel" "ones" "I" ∈ ab_TG := ab_in (tk_6 80 (by decide +kernel)) (by decide +kernel)
theorem tg_1423 : Jvm.Cond.fieldLink "SundialTreatyModel" (409 : Nat) "SundialTreatyModel" "top" "I" ∈ ab_TG := ab_in (tk_6 81 (by decide +kernel)) (by decide +kernel)
theorem tg_1424 : Jvm.Cond.fieldLink "SundialTreatyModel" (416 : Nat) "SundialTreatyModel" "deep" "I" ∈ ab_TG := ab_in (tk_6 82 (by decide +kernel)) (by decide +kernel)
theorem tg_1425 : Jvm.Cond.fieldLink "SundialTreatyModel" (425 : Nat) "SundialTreatyModel" "isWhole" "Z" ∈ ab_TG := ab_in (tk_6 83 (by decide +kernel)) (by decide +kernel)
theorem tg_1926 : Jvm.Cond.instanceMethod ({ cls := "SundialTreatyModel", name := "operand", desc := "()Z" } : Jvm.MethodName) ∈ ab_TG := ab_in (tk_8 104 (by decide +kernel)) (by decide +kernel)
theorem tg_1927 : Jvm.Cond.code ({ cls := "SundialTreatyModel", name := "operand", desc := "()Z" } : Jvm.MethodName) prog_13_method_105_code (5 : Nat) (Option.some Jvm.ClassFile.FieldType.boolean) ∈ ab_TG := ab_in (tk_8 105 (by decide +kernel)) (by decide +kernel)
theorem tg_1924 : Jvm.Cond.methodLink "SundialTreatyModel" (437 : Nat) ({ cls := "SundialTreatyModel", name := "operand", desc := "()Z" } : Jvm.MethodName) ∈ ab_TG := ab_in (tk_8 102 (by decide +kernel)) (by decide +kernel)
theorem tg_138 : Jvm.Cond.selects "SundialTreatyModel" ({ cls := "SundialTreatyModel", name := "operand", desc := "()Z" } : Jvm.MethodName) ({ cls := "SundialTreatyModel", name := "operand", desc := "()Z" } : Jvm.MethodName) ∈ ab_TG := ab_in (tk_0 138 (by decide +kernel)) (by decide +kernel)
theorem tg_1395 : Jvm.Cond.fieldLink "SundialTreatyModel" (188 : Nat) "SundialTreatyModel" "faultAt" "I" ∈ ab_TG := ab_in (tk_6 53 (by decide +kernel)) (by decide +kernel)
theorem tg_1561 : Jvm.Cond.instanceMethod ({ cls := "SundialTreatyModel", name := "isWord", desc := "(J)Z" } : Jvm.MethodName) ∈ ab_TG := ab_in (tk_6 219 (by decide +kernel)) (by decide +kernel)
theorem tg_1562 : Jvm.Cond.code ({ cls := "SundialTreatyModel", name := "isWord", desc := "(J)Z" } : Jvm.MethodName) prog_13_method_21_code (3 : Nat) (Option.some Jvm.ClassFile.FieldType.boolean) ∈ ab_TG := ab_in (tk_6 220 (by decide +kernel)) (by decide +kernel)
theorem tg_1559 : Jvm.Cond.methodLink "SundialTreatyModel" (211 : Nat) ({ cls := "SundialTreatyModel", name := "isWord", desc := "(J)Z" } : Jvm.MethodName) ∈ ab_TG := ab_in (tk_6 217 (by decide +kernel)) (by decide +kernel)
theorem tg_86 : Jvm.Cond.selects "SundialTreatyModel" ({ cls := "SundialTreatyModel", name := "isWord", desc := "(J)Z" } : Jvm.MethodName) ({ cls := "SundialTreatyModel", name := "isWord", desc := "(J)Z" } : Jvm.MethodName) ∈ ab_TG := ab_in (tk_0 86 (by decide +kernel)) (by decide +kernel)
theorem tg_1627 : Jvm.Cond.instanceMethod ({ cls := "SundialTreatyModel", name := "isSign", desc := "(I)Z" } : Jvm.MethodName) ∈ ab_TG := ab_in (tk_7 45 (by decide +kernel)) (by decide +kernel)
theorem tg_1628 : Jvm.Cond.code ({ cls := "SundialTreatyModel", name := "isSign", desc := "(I)Z" } : Jvm.MethodName) prog_13_method_22_code (2 : Nat) (Option.some Jvm.ClassFile.FieldType.boolean) ∈ ab_TG := ab_in (tk_7 46 (by decide +kernel)) (by decide +kernel)
theorem tg_1625 : Jvm.Cond.methodLink "SundialTreatyModel" (191 : Nat) ({ cls := "SundialTreatyModel", name := "isSign", desc := "(I)Z" } : Jvm.MethodName) ∈ ab_TG := ab_in (tk_7 43 (by decide +kernel)) (by decide +kernel)
theorem tg_101 : Jvm.Cond.selects "SundialTreatyModel" ({ cls := "SundialTreatyModel", name := "isSign", desc := "(I)Z" } : Jvm.MethodName) ({ cls := "SundialTreatyModel", name := "isSign", desc := "(I)Z" } : Jvm.MethodName) ∈ ab_TG := ab_in (tk_0 101 (by decide +kernel)) (by decide +kernel)
theorem tg_1930 : Jvm.Cond.instanceMethod ({ cls := "SundialTreatyModel", name := "leafOf", desc := "()I" } : Jvm.MethodName) ∈ ab_TG := ab_in (tk_8 108 (by decide +kernel)) (by decide +kernel)
theorem tg_1931 : Jvm.Cond.code ({ cls := "SundialTreatyModel", name := "leafOf", desc := "()I" } : Jvm.MethodName) prog_13_method_104_code (1 : Nat) (Option.some Jvm.ClassFile.FieldType.int) ∈ ab_TG := ab_in (tk_8 109 (by decide +kernel)) (by decide +kernel)
theorem tg_1928 : Jvm.Cond.methodLink "SundialTreatyModel" (419 : Nat) ({ cls := "SundialTreatyModel", name := "leafOf", desc := "()I" } : Jvm.MethodName) ∈ ab_TG := ab_in (tk_8 106 (by decide +kernel)) (by decide +kernel)
theorem tg_139 : Jvm.Cond.selects "SundialTreatyModel" ({ cls := "SundialTreatyModel", name := "leafOf", desc := "()I" } : Jvm.MethodName) ({ cls := "SundialTreatyModel", name := "leafOf", desc := "()I" } : Jvm.MethodName) ∈ ab_TG := ab_in (tk_0 139 (by decide +kernel)) (by decide +kernel)
theorem tg_1569 : Jvm.Cond.instanceMethod ({ cls := "SundialTreatyModel", name := "bad", desc := "(I)Z" } : Jvm.MethodName) ∈ ab_TG := ab_in (tk_6 227 (by decide +kernel)) (by decide +kernel)
theorem tg_1570 : Jvm.Cond.code ({ cls := "SundialTreatyModel", name := "bad", desc := "(I)Z" } : Jvm.MethodName) prog_13_method_20_code (2 : Nat) (Option.some Jvm.ClassFile.FieldType.boolean) ∈ ab_TG := ab_in (tk_6 228 (by decide +kernel)) (by decide +kernel)
theorem tg_1567 : Jvm.Cond.methodLink "SundialTreatyModel" (194 : Nat) ({ cls := "SundialTreatyModel", name := "bad", desc := "(I)Z" } : Jvm.MethodName) ∈ ab_TG := ab_in (tk_6 225 (by decide +kernel)) (by decide +kernel)
theorem tg_88 : Jvm.Cond.selects "SundialTreatyModel" ({ cls := "SundialTreatyModel", name := "bad", desc := "(I)Z" } : Jvm.MethodName) ({ cls := "SundialTreatyModel", name := "bad", desc := "(I)Z" } : Jvm.MethodName) ∈ ab_TG := ab_in (tk_0 88 (by decide +kernel)) (by decide +kernel)
theorem tn_568 : Jvm.Cond.fieldLinkNest "SundialTreaty" (364 : Nat) "SundialTreaty$Image" "land" "LSundialTreaty$Valley;" "SundialTreaty" ∈ lw_tbl := tk_2 186 (by decide +kernel)
theorem tg_1142 : Jvm.Cond.instanceMethod ({ cls := "SundialTreaty$Valley", name := "copyFrom", desc := "(LSundialTreaty$Valley;)V" } : Jvm.MethodName) ∈ ab_TG := ab_in (tk_5 40 (by decide +kernel)) (by decide +kernel)
theorem tg_1143 : Jvm.Cond.code ({ cls := "SundialTreaty$Valley", name := "copyFrom", desc := "(LSundialTreaty$Valley;)V" } : Jvm.MethodName) prog_10_method_3_code (2 : Nat) (Option.none : Option Jvm.ClassFile.FieldType) ∈ ab_TG := ab_in (tk_5 41 (by decide +kernel)) (by decide +kernel)
theorem tn_1140 : Jvm.Cond.methodLinkNest "SundialTreaty" (365 : Nat) ({ cls := "SundialTreaty$Valley", name := "copyFrom", desc := "(LSundialTreaty$Valley;)V" } : Jvm.MethodName) "SundialTreaty" ∈ lw_tbl := tk_5 38 (by decide +kernel)
theorem tg_75 : Jvm.Cond.selects "SundialTreaty$Valley" ({ cls := "SundialTreaty$Valley", name := "copyFrom", desc := "(LSundialTreaty$Valley;)V" } : Jvm.MethodName) ({ cls := "SundialTreaty$Valley", name := "copyFrom", desc := "(LSundialTreaty$Valley;)V" } : Jvm.MethodName) ∈ ab_TG := ab_in (tk_0 75 (by decide +kernel)) (by decide +kernel)
theorem tn_570 : Jvm.Cond.fieldLinkNest "SundialTreaty" (367 : Nat) "SundialTreaty$Image" "state" "LSundialTreaty$State;" "SundialTreaty" ∈ lw_tbl := tk_2 188 (by decide +kernel)
theorem tn_572 : Jvm.Cond.fieldLinkNest "SundialTreaty" (368 : Nat) "SundialTreaty$Image" "saying" "LSundialTreaty$Sentence;" "SundialTreaty" ∈ lw_tbl := tk_2 190 (by decide +kernel)
theorem tg_1147 : Jvm.Cond.instanceMethod ({ cls := "SundialTreaty$Sentence", name := "copyFrom", desc := "(LSundialTreaty$Sentence;)V" } : Jvm.MethodName) ∈ ab_TG := ab_in (tk_5 45 (by decide +kernel)) (by decide +kernel)
theorem tg_1148 : Jvm.Cond.code ({ cls := "SundialTreaty$Sentence", name := "copyFrom", desc := "(LSundialTreaty$Sentence;)V" } : Jvm.MethodName) prog_8_method_2_code (2 : Nat) (Option.none : Option Jvm.ClassFile.FieldType) ∈ ab_TG := ab_in (tk_5 46 (by decide +kernel)) (by decide +kernel)
theorem tn_1145 : Jvm.Cond.methodLinkNest "SundialTreaty" (369 : Nat) ({ cls := "SundialTreaty$Sentence", name := "copyFrom", desc := "(LSundialTreaty$Sentence;)V" } : Jvm.MethodName) "SundialTreaty" ∈ lw_tbl := tk_5 43 (by decide +kernel)
theorem tg_76 : Jvm.Cond.selects "SundialTreaty$Sentence" ({ cls := "SundialTreaty$Sentence", name := "copyFrom", desc := "(LSundialTreaty$Sentence;)V" } : Jvm.MethodName) ({ cls := "SundialTreaty$Sentence", name := "copyFrom", desc := "(LSundialTreaty$Sentence;)V" } : Jvm.MethodName) ∈ ab_TG := ab_in (tk_0 76 (by decide +kernel)) (by decide +kernel)
theorem tn_574 : Jvm.Cond.fieldLinkNest "SundialTreaty" (372 : Nat) "SundialTreaty$Image" "isKept" "Z" "SundialTreaty" ∈ lw_tbl := tk_2 192 (by decide +kernel)
theorem tg_1144 : Jvm.Cond.methodLink "SundialTreaty$Valley" (62 : Nat) ({ cls := "java/lang/System", name := "arraycopy", desc := "(Ljava/lang/Object;ILjava/lang/Object;II)V" } : Jvm.MethodName) ∈ ab_TG := ab_in (tk_5 42 (by decide +kernel)) (by decide +kernel)
theorem tg_1149 : Jvm.Cond.methodLink "SundialTreaty$Sentence" (28 : Nat) ({ cls := "java/lang/System", name := "arraycopy", desc := "(Ljava/lang/Object;ILjava/lang/Object;II)V" } : Jvm.MethodName) ∈ ab_TG := ab_in (tk_5 47 (by decide +kernel)) (by decide +kernel)
theorem tn_328 : Jvm.Cond.fieldLinkNest "SundialTreaty" (375 : Nat) "SundialTreaty$Valley" "terms" "I" "SundialTreaty" ∈ lw_tbl := tk_1 186 (by decide +kernel)
theorem tg_773 : Jvm.Cond.instanceMethod ({ cls := "SundialTreaty$Valley", name := "limit", desc := "()I" } : Jvm.MethodName) ∈ ab_TG := ab_in (tk_3 151 (by decide +kernel)) (by decide +kernel)
theorem tg_774 : Jvm.Cond.code ({ cls := "SundialTreaty$Valley", name := "limit", desc := "()I" } : Jvm.MethodName) prog_10_method_4_code (1 : Nat) (Option.some Jvm.ClassFile.FieldType.int) ∈ ab_TG := ab_in (tk_3 152 (by decide +kernel)) (by decide +kernel)
theorem tn_1158 : Jvm.Cond.methodLinkNest "SundialTreaty" (381 : Nat) ({ cls := "SundialTreaty$Valley", name := "limit", desc := "()I" } : Jvm.MethodName) "SundialTreaty" ∈ lw_tbl := tk_5 56 (by decide +kernel)
theorem tg_26 : Jvm.Cond.selects "SundialTreaty$Valley" ({ cls := "SundialTreaty$Valley", name := "limit", desc := "()I" } : Jvm.MethodName) ({ cls := "SundialTreaty$Valley", name := "limit", desc := "()I" } : Jvm.MethodName) ∈ ab_TG := ab_in (tk_0 26 (by decide +kernel)) (by decide +kernel)
theorem tg_925 : Jvm.Cond.instanceMethod ({ cls := "SundialTreaty$Valley", name := "change", desc := "()I" } : Jvm.MethodName) ∈ ab_TG := ab_in (tk_4 63 (by decide +kernel)) (by decide +kernel)
theorem tg_926 : Jvm.Cond.code ({ cls := "SundialTreaty$Valley", name := "change", desc := "()I" } : Jvm.MethodName) prog_10_method_5_code (1 : Nat) (Option.some Jvm.ClassFile.FieldType.int) ∈ ab_TG := ab_in (tk_4 64 (by decide +kernel)) (by decide +kernel)
theorem tn_1159 : Jvm.Cond.methodLinkNest "SundialTreaty" (286 : Nat) ({ cls := "SundialTreaty$Valley", name := "change", desc := "()I" } : Jvm.MethodName) "SundialTreaty" ∈ lw_tbl := tk_5 57 (by decide +kernel)
theorem tg_50 : Jvm.Cond.selects "SundialTreaty$Valley" ({ cls := "SundialTreaty$Valley", name := "change", desc := "()I" } : Jvm.MethodName) ({ cls := "SundialTreaty$Valley", name := "change", desc := "()I" } : Jvm.MethodName) ∈ ab_TG := ab_in (tk_0 50 (by decide +kernel)) (by decide +kernel)
theorem tg_1009 : Jvm.Cond.instanceMethod ({ cls := "SundialTreaty$Valley", name := "frost", desc := "()I" } : Jvm.MethodName) ∈ ab_TG := ab_in (tk_4 147 (by decide +kernel)) (by decide +kernel)
theorem tg_1010 : Jvm.Cond.code ({ cls := "SundialTreaty$Valley", name := "frost", desc := "()I" } : Jvm.MethodName) prog_10_method_6_code (1 : Nat) (Option.some Jvm.ClassFile.FieldType.int) ∈ ab_TG := ab_in (tk_4 148 (by decide +kernel)) (by decide +kernel)
theorem tn_1160 : Jvm.Cond.methodLinkNest "SundialTreaty" (384 : Nat) ({ cls := "SundialTreaty$Valley", name := "frost", desc := "()I" } : Jvm.MethodName) "SundialTreaty" ∈ lw_tbl := tk_5 58 (by decide +kernel)
theorem tg_60 : Jvm.Cond.selects "SundialTreaty$Valley" ({ cls := "SundialTreaty$Valley", name := "frost", desc := "()I" } : Jvm.MethodName) ({ cls := "SundialTreaty$Valley", name := "frost", desc := "()I" } : Jvm.MethodName) ∈ ab_TG := ab_in (tk_0 60 (by decide +kernel)) (by decide +kernel)
theorem tg_166 : Jvm.Cond.classLink "SundialTreatyLaw" (8 : Nat) "SundialTreaty" ∈ ab_TG := ab_in (tk_1 24 (by decide +kernel)) (by decide +kernel)
theorem tg_167 : Jvm.Cond.instantiable "SundialTreaty" (17 : Nat) ∈ ab_TG := ab_in (tk_1 25 (by decide +kernel)) (by decide +kernel)
theorem tg_169 : Jvm.Cond.instanceMethod ({ cls := "SundialTreaty", name := "<init>", desc := "()V" } : Jvm.MethodName) ∈ ab_TG := ab_in (tk_1 27 (by decide +kernel)) (by decide +kernel)
theorem tg_170 : Jvm.Cond.code ({ cls := "SundialTreaty", name := "<init>", desc := "()V" } : Jvm.MethodName) prog_1_method_1_code (1 : Nat) (Option.none : Option Jvm.ClassFile.FieldType) ∈ ab_TG := ab_in (tk_1 28 (by decide +kernel)) (by decide +kernel)
theorem tg_168 : Jvm.Cond.methodLink "SundialTreatyLaw" (47 : Nat) ({ cls := "SundialTreaty", name := "<init>", desc := "()V" } : Jvm.MethodName) ∈ ab_TG := ab_in (tk_1 26 (by decide +kernel)) (by decide +kernel)
theorem tg_1348 : Jvm.Cond.classLink "SundialTreatyLaw" (48 : Nat) "SundialTreatyModel" ∈ ab_TG := ab_in (tk_6 6 (by decide +kernel)) (by decide +kernel)
theorem tg_1342 : Jvm.Cond.instantiable "SundialTreatyModel" (51 : Nat) ∈ ab_TG := ab_in (tk_6 0 (by decide +kernel)) (by decide +kernel)
theorem tg_1350 : Jvm.Cond.instanceMethod ({ cls := "SundialTreatyModel", name := "<init>", desc := "()V" } : Jvm.MethodName) ∈ ab_TG := ab_in (tk_6 8 (by decide +kernel)) (by decide +kernel)
theorem tg_1351 : Jvm.Cond.code ({ cls := "SundialTreatyModel", name := "<init>", desc := "()V" } : Jvm.MethodName) prog_13_method_14_code (2 : Nat) (Option.none : Option Jvm.ClassFile.FieldType) ∈ ab_TG := ab_in (tk_6 9 (by decide +kernel)) (by decide +kernel)
theorem tg_1349 : Jvm.Cond.methodLink "SundialTreatyLaw" (50 : Nat) ({ cls := "SundialTreatyModel", name := "<init>", desc := "()V" } : Jvm.MethodName) ∈ ab_TG := ab_in (tk_6 7 (by decide +kernel)) (by decide +kernel)
theorem tg_637 : Jvm.Cond.instanceMethod ({ cls := "SundialTreaty", name := "feed", desc := "(IIIII)I" } : Jvm.MethodName) ∈ ab_TG := ab_in (tk_3 15 (by decide +kernel)) (by decide +kernel)
theorem tg_639 : Jvm.Cond.code ({ cls := "SundialTreaty", name := "feed", desc := "(IIIII)I" } : Jvm.MethodName) prog_1_method_2_code (6 : Nat) (Option.some Jvm.ClassFile.FieldType.int) ∈ ab_TG := ab_in (tk_3 17 (by decide +kernel)) (by decide +kernel)
theorem tg_636 : Jvm.Cond.methodLink "SundialTreatyLaw" (51 : Nat) ({ cls := "SundialTreaty", name := "feed", desc := "(IIIII)I" } : Jvm.MethodName) ∈ ab_TG := ab_in (tk_3 14 (by decide +kernel)) (by decide +kernel)
theorem tg_638 : Jvm.Cond.selects "SundialTreaty" ({ cls := "SundialTreaty", name := "feed", desc := "(IIIII)I" } : Jvm.MethodName) ({ cls := "SundialTreaty", name := "feed", desc := "(IIIII)I" } : Jvm.MethodName) ∈ ab_TG := ab_in (tk_3 16 (by decide +kernel)) (by decide +kernel)
theorem tg_1336 : Jvm.Cond.instanceMethod ({ cls := "SundialTreatyModel", name := "feed", desc := "(IIIII)I" } : Jvm.MethodName) ∈ ab_TG := ab_in (tk_5 234 (by decide +kernel)) (by decide +kernel)
theorem tg_1338 : Jvm.Cond.code ({ cls := "SundialTreatyModel", name := "feed", desc := "(IIIII)I" } : Jvm.MethodName) prog_13_method_3_code (6 : Nat) (Option.some Jvm.ClassFile.FieldType.int) ∈ ab_TG := ab_in (tk_5 236 (by decide +kernel)) (by decide +kernel)
theorem tg_1335 : Jvm.Cond.methodLink "SundialTreatyLaw" (55 : Nat) ({ cls := "SundialTreatyModel", name := "feed", desc := "(IIIII)I" } : Jvm.MethodName) ∈ ab_TG := ab_in (tk_5 233 (by decide +kernel)) (by decide +kernel)
theorem tg_1337 : Jvm.Cond.selects "SundialTreatyModel" ({ cls := "SundialTreatyModel", name := "feed", desc := "(IIIII)I" } : Jvm.MethodName) ({ cls := "SundialTreatyModel", name := "feed", desc := "(IIIII)I" } : Jvm.MethodName) ∈ ab_TG := ab_in (tk_5 235 (by decide +kernel)) (by decide +kernel)
theorem tg_645 : Jvm.Cond.instanceMethod ({ cls := "SundialTreaty", name := "end", desc := "(I)Z" } : Jvm.MethodName) ∈ ab_TG := ab_in (tk_3 23 (by decide +kernel)) (by decide +kernel)
theorem tg_647 : Jvm.Cond.code ({ cls := "SundialTreaty", name := "end", desc := "(I)Z" } : Jvm.MethodName) prog_1_method_3_code (2 : Nat) (Option.some Jvm.ClassFile.FieldType.boolean) ∈ ab_TG := ab_in (tk_3 25 (by decide +kernel)) (by decide +kernel)
theorem tg_644 : Jvm.Cond.methodLink "SundialTreatyLaw" (56 : Nat) ({ cls := "SundialTreaty", name := "end", desc := "(I)Z" } : Jvm.MethodName) ∈ ab_TG := ab_in (tk_3 22 (by decide +kernel)) (by decide +kernel)
theorem tg_646 : Jvm.Cond.selects "SundialTreaty" ({ cls := "SundialTreaty", name := "end", desc := "(I)Z" } : Jvm.MethodName) ({ cls := "SundialTreaty", name := "end", desc := "(I)Z" } : Jvm.MethodName) ∈ ab_TG := ab_in (tk_3 24 (by decide +kernel)) (by decide +kernel)
theorem tg_1345 : Jvm.Cond.instanceMethod ({ cls := "SundialTreatyModel", name := "end", desc := "(I)Z" } : Jvm.MethodName) ∈ ab_TG := ab_in (tk_6 3 (by decide +kernel)) (by decide +kernel)
theorem tg_1347 : Jvm.Cond.code ({ cls := "SundialTreatyModel", name := "end", desc := "(I)Z" } : Jvm.MethodName) prog_13_method_5_code (2 : Nat) (Option.some Jvm.ClassFile.FieldType.boolean) ∈ ab_TG := ab_in (tk_6 5 (by decide +kernel)) (by decide +kernel)
theorem tg_1344 : Jvm.Cond.methodLink "SundialTreatyLaw" (60 : Nat) ({ cls := "SundialTreatyModel", name := "end", desc := "(I)Z" } : Jvm.MethodName) ∈ ab_TG := ab_in (tk_6 2 (by decide +kernel)) (by decide +kernel)
theorem tg_1346 : Jvm.Cond.selects "SundialTreatyModel" ({ cls := "SundialTreatyModel", name := "end", desc := "(I)Z" } : Jvm.MethodName) ({ cls := "SundialTreatyModel", name := "end", desc := "(I)Z" } : Jvm.MethodName) ∈ ab_TG := ab_in (tk_6 4 (by decide +kernel)) (by decide +kernel)
theorem tg_649 : Jvm.Cond.instanceMethod ({ cls := "SundialTreaty", name := "valley", desc := "()I" } : Jvm.MethodName) ∈ ab_TG := ab_in (tk_3 27 (by decide +kernel)) (by decide +kernel)
theorem tg_651 : Jvm.Cond.code ({ cls := "SundialTreaty", name := "valley", desc := "()I" } : Jvm.MethodName) prog_1_method_4_code (3 : Nat) (Option.some Jvm.ClassFile.FieldType.int) ∈ ab_TG := ab_in (tk_3 29 (by decide +kernel)) (by decide +kernel)
theorem tg_648 : Jvm.Cond.methodLink "SundialTreatyLaw" (61 : Nat) ({ cls := "SundialTreaty", name := "valley", desc := "()I" } : Jvm.MethodName) ∈ ab_TG := ab_in (tk_3 26 (by decide +kernel)) (by decide +kernel)
theorem tg_650 : Jvm.Cond.selects "SundialTreaty" ({ cls := "SundialTreaty", name := "valley", desc := "()I" } : Jvm.MethodName) ({ cls := "SundialTreaty", name := "valley", desc := "()I" } : Jvm.MethodName) ∈ ab_TG := ab_in (tk_3 28 (by decide +kernel)) (by decide +kernel)
theorem tg_1534 : Jvm.Cond.instanceMethod ({ cls := "SundialTreatyModel", name := "valley", desc := "()I" } : Jvm.MethodName) ∈ ab_TG := ab_in (tk_6 192 (by decide +kernel)) (by decide +kernel)
theorem tg_1536 : Jvm.Cond.code ({ cls := "SundialTreatyModel", name := "valley", desc := "()I" } : Jvm.MethodName) prog_13_method_37_code (2 : Nat) (Option.some Jvm.ClassFile.FieldType.int) ∈ ab_TG := ab_in (tk_6 194 (by decide +kernel)) (by decide +kernel)
theorem tg_1533 : Jvm.Cond.methodLink "SundialTreatyLaw" (64 : Nat) ({ cls := "SundialTreatyModel", name := "valley", desc := "()I" } : Jvm.MethodName) ∈ ab_TG := ab_in (tk_6 191 (by decide +kernel)) (by decide +kernel)
theorem tg_1535 : Jvm.Cond.selects "SundialTreatyModel" ({ cls := "SundialTreatyModel", name := "valley", desc := "()I" } : Jvm.MethodName) ({ cls := "SundialTreatyModel", name := "valley", desc := "()I" } : Jvm.MethodName) ∈ ab_TG := ab_in (tk_6 193 (by decide +kernel)) (by decide +kernel)
theorem tg_749 : Jvm.Cond.instanceMethod ({ cls := "SundialTreaty", name := "fault", desc := "()I" } : Jvm.MethodName) ∈ ab_TG := ab_in (tk_3 127 (by decide +kernel)) (by decide +kernel)
theorem tg_751 : Jvm.Cond.code ({ cls := "SundialTreaty", name := "fault", desc := "()I" } : Jvm.MethodName) prog_1_method_5_code (1 : Nat) (Option.some Jvm.ClassFile.FieldType.int) ∈ ab_TG := ab_in (tk_3 129 (by decide +kernel)) (by decide +kernel)
theorem tg_748 : Jvm.Cond.methodLink "SundialTreatyLaw" (65 : Nat) ({ cls := "SundialTreaty", name := "fault", desc := "()I" } : Jvm.MethodName) ∈ ab_TG := ab_in (tk_3 126 (by decide +kernel)) (by decide +kernel)
theorem tg_750 : Jvm.Cond.selects "SundialTreaty" ({ cls := "SundialTreaty", name := "fault", desc := "()I" } : Jvm.MethodName) ({ cls := "SundialTreaty", name := "fault", desc := "()I" } : Jvm.MethodName) ∈ ab_TG := ab_in (tk_3 128 (by decide +kernel)) (by decide +kernel)
theorem tg_1630 : Jvm.Cond.instanceMethod ({ cls := "SundialTreatyModel", name := "fault", desc := "()I" } : Jvm.MethodName) ∈ ab_TG := ab_in (tk_7 48 (by decide +kernel)) (by decide +kernel)
theorem tg_1632 : Jvm.Cond.code ({ cls := "SundialTreatyModel", name := "fault", desc := "()I" } : Jvm.MethodName) prog_13_method_38_code (1 : Nat) (Option.some Jvm.ClassFile.FieldType.int) ∈ ab_TG := ab_in (tk_7 50 (by decide +kernel)) (by decide +kernel)
theorem tg_1629 : Jvm.Cond.methodLink "SundialTreatyLaw" (68 : Nat) ({ cls := "SundialTreatyModel", name := "fault", desc := "()I" } : Jvm.MethodName) ∈ ab_TG := ab_in (tk_7 47 (by decide +kernel)) (by decide +kernel)
theorem tg_1631 : Jvm.Cond.selects "SundialTreatyModel" ({ cls := "SundialTreatyModel", name := "fault", desc := "()I" } : Jvm.MethodName) ({ cls := "SundialTreatyModel", name := "fault", desc := "()I" } : Jvm.MethodName) ∈ ab_TG := ab_in (tk_7 49 (by decide +kernel)) (by decide +kernel)
theorem tg_142 : Jvm.Cond.initialized "SundialTreatyLaw" ∈ ab_TG := ab_in (tk_1 0 (by decide +kernel)) (by decide +kernel)
theorem tg_1163 : Jvm.Cond.codeWith ({ cls := "SundialTreatyLaw", name := "town", desc := "(LSundialTreaty;II[J)I" } : Jvm.MethodName) method_3_code (5 : Nat) (Option.some Jvm.ClassFile.FieldType.int) [((0 : Nat), (10 : Nat), (13 : Nat), (13 : Nat))] ∈ ab_TG := ab_in (tk_5 61 (by decide +kernel)) (by decide +kernel)
theorem tg_1161 : Jvm.Cond.methodLink "SundialTreatyLaw" (69 : Nat) ({ cls := "SundialTreatyLaw", name := "town", desc := "(LSundialTreaty;II[J)I" } : Jvm.MethodName) ∈ ab_TG := ab_in (tk_5 59 (by decide +kernel)) (by decide +kernel)
theorem tg_1162 : Jvm.Cond.static ({ cls := "SundialTreatyLaw", name := "town", desc := "(LSundialTreaty;II[J)I" } : Jvm.MethodName) ∈ ab_TG := ab_in (tk_5 60 (by decide +kernel)) (by decide +kernel)
theorem tg_1634 : Jvm.Cond.instanceMethod ({ cls := "SundialTreatyModel", name := "town", desc := "(II)I" } : Jvm.MethodName) ∈ ab_TG := ab_in (tk_7 52 (by decide +kernel)) (by decide +kernel)
theorem tg_1636 : Jvm.Cond.code ({ cls := "SundialTreatyModel", name := "town", desc := "(II)I" } : Jvm.MethodName) prog_13_method_47_code (3 : Nat) (Option.some Jvm.ClassFile.FieldType.int) ∈ ab_TG := ab_in (tk_7 54 (by decide +kernel)) (by decide +kernel)
theorem tg_1633 : Jvm.Cond.methodLink "SundialTreatyLaw" (74 : Nat) ({ cls := "SundialTreatyModel", name := "town", desc := "(II)I" } : Jvm.MethodName) ∈ ab_TG := ab_in (tk_7 51 (by decide +kernel)) (by decide +kernel)
theorem tg_1635 : Jvm.Cond.selects "SundialTreatyModel" ({ cls := "SundialTreatyModel", name := "town", desc := "(II)I" } : Jvm.MethodName) ({ cls := "SundialTreatyModel", name := "town", desc := "(II)I" } : Jvm.MethodName) ∈ ab_TG := ab_in (tk_7 53 (by decide +kernel)) (by decide +kernel)
theorem tg_1332 : Jvm.Cond.instanceMethod ({ cls := "SundialTreatyModel", name := "thrown", desc := "()I" } : Jvm.MethodName) ∈ ab_TG := ab_in (tk_5 230 (by decide +kernel)) (by decide +kernel)
theorem tg_1334 : Jvm.Cond.code ({ cls := "SundialTreatyModel", name := "thrown", desc := "()I" } : Jvm.MethodName) prog_13_method_1_code (1 : Nat) (Option.some Jvm.ClassFile.FieldType.int) ∈ ab_TG := ab_in (tk_5 232 (by decide +kernel)) (by decide +kernel)
theorem tg_1331 : Jvm.Cond.methodLink "SundialTreatyLaw" (75 : Nat) ({ cls := "SundialTreatyModel", name := "thrown", desc := "()I" } : Jvm.MethodName) ∈ ab_TG := ab_in (tk_5 229 (by decide +kernel)) (by decide +kernel)
theorem tg_1333 : Jvm.Cond.selects "SundialTreatyModel" ({ cls := "SundialTreatyModel", name := "thrown", desc := "()I" } : Jvm.MethodName) ({ cls := "SundialTreatyModel", name := "thrown", desc := "()I" } : Jvm.MethodName) ∈ ab_TG := ab_in (tk_5 231 (by decide +kernel)) (by decide +kernel)
theorem tg_1240 : Jvm.Cond.codeWith ({ cls := "SundialTreatyLaw", name := "due", desc := "(LSundialTreaty;II[J)I" } : Jvm.MethodName) method_4_code (5 : Nat) (Option.some Jvm.ClassFile.FieldType.int) [((0 : Nat), (10 : Nat), (13 : Nat), (13 : Nat))] ∈ ab_TG := ab_in (tk_5 138 (by decide +kernel)) (by decide +kernel)
theorem tg_1238 : Jvm.Cond.methodLink "SundialTreatyLaw" (78 : Nat) ({ cls := "SundialTreatyLaw", name := "due", desc := "(LSundialTreaty;II[J)I" } : Jvm.MethodName) ∈ ab_TG := ab_in (tk_5 136 (by decide +kernel)) (by decide +kernel)
theorem tg_1239 : Jvm.Cond.static ({ cls := "SundialTreatyLaw", name := "due", desc := "(LSundialTreaty;II[J)I" } : Jvm.MethodName) ∈ ab_TG := ab_in (tk_5 137 (by decide +kernel)) (by decide +kernel)
theorem tg_1666 : Jvm.Cond.instanceMethod ({ cls := "SundialTreatyModel", name := "due", desc := "(II)I" } : Jvm.MethodName) ∈ ab_TG := ab_in (tk_7 84 (by decide +kernel)) (by decide +kernel)
theorem tg_1668 : Jvm.Cond.code ({ cls := "SundialTreatyModel", name := "due", desc := "(II)I" } : Jvm.MethodName) prog_13_method_48_code (3 : Nat) (Option.some Jvm.ClassFile.FieldType.int) ∈ ab_TG := ab_in (tk_7 86 (by decide +kernel)) (by decide +kernel)
theorem tg_1665 : Jvm.Cond.methodLink "SundialTreatyLaw" (80 : Nat) ({ cls := "SundialTreatyModel", name := "due", desc := "(II)I" } : Jvm.MethodName) ∈ ab_TG := ab_in (tk_7 83 (by decide +kernel)) (by decide +kernel)
theorem tg_1667 : Jvm.Cond.selects "SundialTreatyModel" ({ cls := "SundialTreatyModel", name := "due", desc := "(II)I" } : Jvm.MethodName) ({ cls := "SundialTreatyModel", name := "due", desc := "(II)I" } : Jvm.MethodName) ∈ ab_TG := ab_in (tk_7 85 (by decide +kernel)) (by decide +kernel)
theorem tg_1249 : Jvm.Cond.codeWith ({ cls := "SundialTreatyLaw", name := "train", desc := "(LSundialTreaty;II[J)I" } : Jvm.MethodName) method_5_code (5 : Nat) (Option.some Jvm.ClassFile.FieldType.int) [((0 : Nat), (10 : Nat), (13 : Nat), (13 : Nat))] ∈ ab_TG := ab_in (tk_5 147 (by decide +kernel)) (by decide +kernel)
theorem tg_1247 : Jvm.Cond.methodLink "SundialTreatyLaw" (81 : Nat) ({ cls := "SundialTreatyLaw", name := "train", desc := "(LSundialTreaty;II[J)I" } : Jvm.MethodName) ∈ ab_TG := ab_in (tk_5 145 (by decide +kernel)) (by decide +kernel)
theorem tg_1248 : Jvm.Cond.static ({ cls := "SundialTreatyLaw", name := "train", desc := "(LSundialTreaty;II[J)I" } : Jvm.MethodName) ∈ ab_TG := ab_in (tk_5 146 (by decide +kernel)) (by decide +kernel)
theorem tg_1670 : Jvm.Cond.instanceMethod ({ cls := "SundialTreatyModel", name := "train", desc := "(II)I" } : Jvm.MethodName) ∈ ab_TG := ab_in (tk_7 88 (by decide +kernel)) (by decide +kernel)
theorem tg_1672 : Jvm.Cond.code ({ cls := "SundialTreatyModel", name := "train", desc := "(II)I" } : Jvm.MethodName) prog_13_method_51_code (3 : Nat) (Option.some Jvm.ClassFile.FieldType.int) ∈ ab_TG := ab_in (tk_7 90 (by decide +kernel)) (by decide +kernel)
theorem tg_1669 : Jvm.Cond.methodLink "SundialTreatyLaw" (83 : Nat) ({ cls := "SundialTreatyModel", name := "train", desc := "(II)I" } : Jvm.MethodName) ∈ ab_TG := ab_in (tk_7 87 (by decide +kernel)) (by decide +kernel)
theorem tg_1671 : Jvm.Cond.selects "SundialTreatyModel" ({ cls := "SundialTreatyModel", name := "train", desc := "(II)I" } : Jvm.MethodName) ({ cls := "SundialTreatyModel", name := "train", desc := "(II)I" } : Jvm.MethodName) ∈ ab_TG := ab_in (tk_7 89 (by decide +kernel)) (by decide +kernel)
theorem tg_1264 : Jvm.Cond.codeWith ({ cls := "SundialTreatyLaw", name := "shows", desc := "(LSundialTreaty;II[J)I" } : Jvm.MethodName) method_6_code (5 : Nat) (Option.some Jvm.ClassFile.FieldType.int) [((0 : Nat), (10 : Nat), (13 : Nat), (13 : Nat))] ∈ ab_TG := ab_in (tk_5 162 (by decide +kernel)) (by decide +kernel)
theorem tg_1262 : Jvm.Cond.methodLink "SundialTreatyLaw" (84 : Nat) ({ cls := "SundialTreatyLaw", name := "shows", desc := "(LSundialTreaty;II[J)I" } : Jvm.MethodName) ∈ ab_TG := ab_in (tk_5 160 (by decide +kernel)) (by decide +kernel)
theorem tg_1263 : Jvm.Cond.static ({ cls := "SundialTreatyLaw", name := "shows", desc := "(LSundialTreaty;II[J)I" } : Jvm.MethodName) ∈ ab_TG := ab_in (tk_5 161 (by decide +kernel)) (by decide +kernel)
theorem tg_1686 : Jvm.Cond.instanceMethod ({ cls := "SundialTreatyModel", name := "shows", desc := "(II)I" } : Jvm.MethodName) ∈ ab_TG := ab_in (tk_7 104 (by decide +kernel)) (by decide +kernel)
theorem tg_1688 : Jvm.Cond.code ({ cls := "SundialTreatyModel", name := "shows", desc := "(II)I" } : Jvm.MethodName) prog_13_method_52_code (3 : Nat) (Option.some Jvm.ClassFile.FieldType.int) ∈ ab_TG := ab_in (tk_7 106 (by decide +kernel)) (by decide +kernel)
theorem tg_1685 : Jvm.Cond.methodLink "SundialTreatyLaw" (86 : Nat) ({ cls := "SundialTreatyModel", name := "shows", desc := "(II)I" } : Jvm.MethodName) ∈ ab_TG := ab_in (tk_7 103 (by decide +kernel)) (by decide +kernel)
theorem tg_1687 : Jvm.Cond.selects "SundialTreatyModel" ({ cls := "SundialTreatyModel", name := "shows", desc := "(II)I" } : Jvm.MethodName) ({ cls := "SundialTreatyModel", name := "shows", desc := "(II)I" } : Jvm.MethodName) ∈ ab_TG := ab_in (tk_7 105 (by decide +kernel)) (by decide +kernel)
theorem tg_1272 : Jvm.Cond.codeWith ({ cls := "SundialTreatyLaw", name := "now", desc := "(LSundialTreaty;I[J)I" } : Jvm.MethodName) method_7_code (4 : Nat) (Option.some Jvm.ClassFile.FieldType.int) [((0 : Nat), (9 : Nat), (12 : Nat), (13 : Nat))] ∈ ab_TG := ab_in (tk_5 170 (by decide +kernel)) (by decide +kernel)
theorem tg_1270 : Jvm.Cond.methodLink "SundialTreatyLaw" (87 : Nat) ({ cls := "SundialTreatyLaw", name := "now", desc := "(LSundialTreaty;I[J)I" } : Jvm.MethodName) ∈ ab_TG := ab_in (tk_5 168 (by decide +kernel)) (by decide +kernel)
theorem tg_1271 : Jvm.Cond.static ({ cls := "SundialTreatyLaw", name := "now", desc := "(LSundialTreaty;I[J)I" } : Jvm.MethodName) ∈ ab_TG := ab_in (tk_5 169 (by decide +kernel)) (by decide +kernel)
theorem tg_1690 : Jvm.Cond.instanceMethod ({ cls := "SundialTreatyModel", name := "now", desc := "(I)I" } : Jvm.MethodName) ∈ ab_TG := ab_in (tk_7 108 (by decide +kernel)) (by decide +kernel)
theorem tg_1692 : Jvm.Cond.code ({ cls := "SundialTreatyModel", name := "now", desc := "(I)I" } : Jvm.MethodName) prog_13_method_54_code (4 : Nat) (Option.some Jvm.ClassFile.FieldType.int) ∈ ab_TG := ab_in (tk_7 110 (by decide +kernel)) (by decide +kernel)
theorem tg_1689 : Jvm.Cond.methodLink "SundialTreatyLaw" (90 : Nat) ({ cls := "SundialTreatyModel", name := "now", desc := "(I)I" } : Jvm.MethodName) ∈ ab_TG := ab_in (tk_7 107 (by decide +kernel)) (by decide +kernel)
theorem tg_1691 : Jvm.Cond.selects "SundialTreatyModel" ({ cls := "SundialTreatyModel", name := "now", desc := "(I)I" } : Jvm.MethodName) ({ cls := "SundialTreatyModel", name := "now", desc := "(I)I" } : Jvm.MethodName) ∈ ab_TG := ab_in (tk_7 109 (by decide +kernel)) (by decide +kernel)
theorem tg_753 : Jvm.Cond.instanceMethod ({ cls := "SundialTreaty", name := "bend", desc := "(II)I" } : Jvm.MethodName) ∈ ab_TG := ab_in (tk_3 131 (by decide +kernel)) (by decide +kernel)
theorem tg_755 : Jvm.Cond.code ({ cls := "SundialTreaty", name := "bend", desc := "(II)I" } : Jvm.MethodName) prog_1_method_11_code (4 : Nat) (Option.some Jvm.ClassFile.FieldType.int) ∈ ab_TG := ab_in (tk_3 133 (by decide +kernel)) (by decide +kernel)
theorem tg_752 : Jvm.Cond.methodLink "SundialTreatyLaw" (91 : Nat) ({ cls := "SundialTreaty", name := "bend", desc := "(II)I" } : Jvm.MethodName) ∈ ab_TG := ab_in (tk_3 130 (by decide +kernel)) (by decide +kernel)
theorem tg_754 : Jvm.Cond.selects "SundialTreaty" ({ cls := "SundialTreaty", name := "bend", desc := "(II)I" } : Jvm.MethodName) ({ cls := "SundialTreaty", name := "bend", desc := "(II)I" } : Jvm.MethodName) ∈ ab_TG := ab_in (tk_3 132 (by decide +kernel)) (by decide +kernel)
theorem tg_1705 : Jvm.Cond.instanceMethod ({ cls := "SundialTreatyModel", name := "bend", desc := "(II)I" } : Jvm.MethodName) ∈ ab_TG := ab_in (tk_7 123 (by decide +kernel)) (by decide +kernel)
theorem tg_1707 : Jvm.Cond.code ({ cls := "SundialTreatyModel", name := "bend", desc := "(II)I" } : Jvm.MethodName) prog_13_method_59_code (4 : Nat) (Option.some Jvm.ClassFile.FieldType.int) ∈ ab_TG := ab_in (tk_7 125 (by decide +kernel)) (by decide +kernel)
theorem tg_1704 : Jvm.Cond.methodLink "SundialTreatyLaw" (94 : Nat) ({ cls := "SundialTreatyModel", name := "bend", desc := "(II)I" } : Jvm.MethodName) ∈ ab_TG := ab_in (tk_7 122 (by decide +kernel)) (by decide +kernel)
theorem tg_1706 : Jvm.Cond.selects "SundialTreatyModel" ({ cls := "SundialTreatyModel", name := "bend", desc := "(II)I" } : Jvm.MethodName) ({ cls := "SundialTreatyModel", name := "bend", desc := "(II)I" } : Jvm.MethodName) ∈ ab_TG := ab_in (tk_7 124 (by decide +kernel)) (by decide +kernel)
theorem tg_791 : Jvm.Cond.instanceMethod ({ cls := "SundialTreaty", name := "shade", desc := "(I)I" } : Jvm.MethodName) ∈ ab_TG := ab_in (tk_3 169 (by decide +kernel)) (by decide +kernel)
theorem tg_793 : Jvm.Cond.code ({ cls := "SundialTreaty", name := "shade", desc := "(I)I" } : Jvm.MethodName) prog_1_method_12_code (2 : Nat) (Option.some Jvm.ClassFile.FieldType.int) ∈ ab_TG := ab_in (tk_3 171 (by decide +kernel)) (by decide +kernel)
theorem tg_790 : Jvm.Cond.methodLink "SundialTreatyLaw" (95 : Nat) ({ cls := "SundialTreaty", name := "shade", desc := "(I)I" } : Jvm.MethodName) ∈ ab_TG := ab_in (tk_3 168 (by decide +kernel)) (by decide +kernel)
theorem tg_792 : Jvm.Cond.selects "SundialTreaty" ({ cls := "SundialTreaty", name := "shade", desc := "(I)I" } : Jvm.MethodName) ({ cls := "SundialTreaty", name := "shade", desc := "(I)I" } : Jvm.MethodName) ∈ ab_TG := ab_in (tk_3 170 (by decide +kernel)) (by decide +kernel)
theorem tg_1721 : Jvm.Cond.instanceMethod ({ cls := "SundialTreatyModel", name := "shade", desc := "(I)I" } : Jvm.MethodName) ∈ ab_TG := ab_in (tk_7 139 (by decide +kernel)) (by decide +kernel)
theorem tg_1723 : Jvm.Cond.code ({ cls := "SundialTreatyModel", name := "shade", desc := "(I)I" } : Jvm.MethodName) prog_13_method_60_code (2 : Nat) (Option.some Jvm.ClassFile.FieldType.int) ∈ ab_TG := ab_in (tk_7 141 (by decide +kernel)) (by decide +kernel)
theorem tg_1720 : Jvm.Cond.methodLink "SundialTreatyLaw" (98 : Nat) ({ cls := "SundialTreatyModel", name := "shade", desc := "(I)I" } : Jvm.MethodName) ∈ ab_TG := ab_in (tk_7 138 (by decide +kernel)) (by decide +kernel)
theorem tg_1722 : Jvm.Cond.selects "SundialTreatyModel" ({ cls := "SundialTreatyModel", name := "shade", desc := "(I)I" } : Jvm.MethodName) ({ cls := "SundialTreatyModel", name := "shade", desc := "(I)I" } : Jvm.MethodName) ∈ ab_TG := ab_in (tk_7 140 (by decide +kernel)) (by decide +kernel)
theorem tg_803 : Jvm.Cond.instanceMethod ({ cls := "SundialTreaty", name := "clear", desc := "(I)I" } : Jvm.MethodName) ∈ ab_TG := ab_in (tk_3 181 (by decide +kernel)) (by decide +kernel)
theorem tg_805 : Jvm.Cond.code ({ cls := "SundialTreaty", name := "clear", desc := "(I)I" } : Jvm.MethodName) prog_1_method_13_code (2 : Nat) (Option.some Jvm.ClassFile.FieldType.int) ∈ ab_TG := ab_in (tk_3 183 (by decide +kernel)) (by decide +kernel)
theorem tg_802 : Jvm.Cond.methodLink "SundialTreatyLaw" (99 : Nat) ({ cls := "SundialTreaty", name := "clear", desc := "(I)I" } : Jvm.MethodName) ∈ ab_TG := ab_in (tk_3 180 (by decide +kernel)) (by decide +kernel)
theorem tg_804 : Jvm.Cond.selects "SundialTreaty" ({ cls := "SundialTreaty", name := "clear", desc := "(I)I" } : Jvm.MethodName) ({ cls := "SundialTreaty", name := "clear", desc := "(I)I" } : Jvm.MethodName) ∈ ab_TG := ab_in (tk_3 182 (by decide +kernel)) (by decide +kernel)
theorem tg_1725 : Jvm.Cond.instanceMethod ({ cls := "SundialTreatyModel", name := "clear", desc := "(I)I" } : Jvm.MethodName) ∈ ab_TG := ab_in (tk_7 143 (by decide +kernel)) (by decide +kernel)
theorem tg_1727 : Jvm.Cond.code ({ cls := "SundialTreatyModel", name := "clear", desc := "(I)I" } : Jvm.MethodName) prog_13_method_61_code (2 : Nat) (Option.some Jvm.ClassFile.FieldType.int) ∈ ab_TG := ab_in (tk_7 145 (by decide +kernel)) (by decide +kernel)
theorem tg_1724 : Jvm.Cond.methodLink "SundialTreatyLaw" (102 : Nat) ({ cls := "SundialTreatyModel", name := "clear", desc := "(I)I" } : Jvm.MethodName) ∈ ab_TG := ab_in (tk_7 142 (by decide +kernel)) (by decide +kernel)
theorem tg_1726 : Jvm.Cond.selects "SundialTreatyModel" ({ cls := "SundialTreatyModel", name := "clear", desc := "(I)I" } : Jvm.MethodName) ({ cls := "SundialTreatyModel", name := "clear", desc := "(I)I" } : Jvm.MethodName) ∈ ab_TG := ab_in (tk_7 144 (by decide +kernel)) (by decide +kernel)
theorem tg_807 : Jvm.Cond.instanceMethod ({ cls := "SundialTreaty", name := "freeze", desc := "()I" } : Jvm.MethodName) ∈ ab_TG := ab_in (tk_3 185 (by decide +kernel)) (by decide +kernel)
theorem tg_809 : Jvm.Cond.code ({ cls := "SundialTreaty", name := "freeze", desc := "()I" } : Jvm.MethodName) prog_1_method_14_code (1 : Nat) (Option.some Jvm.ClassFile.FieldType.int) ∈ ab_TG := ab_in (tk_3 187 (by decide +kernel)) (by decide +kernel)
theorem tg_806 : Jvm.Cond.methodLink "SundialTreatyLaw" (103 : Nat) ({ cls := "SundialTreaty", name := "freeze", desc := "()I" } : Jvm.MethodName) ∈ ab_TG := ab_in (tk_3 184 (by decide +kernel)) (by decide +kernel)
theorem tg_808 : Jvm.Cond.selects "SundialTreaty" ({ cls := "SundialTreaty", name := "freeze", desc := "()I" } : Jvm.MethodName) ({ cls := "SundialTreaty", name := "freeze", desc := "()I" } : Jvm.MethodName) ∈ ab_TG := ab_in (tk_3 186 (by decide +kernel)) (by decide +kernel)
theorem tg_1729 : Jvm.Cond.instanceMethod ({ cls := "SundialTreatyModel", name := "freeze", desc := "()I" } : Jvm.MethodName) ∈ ab_TG := ab_in (tk_7 147 (by decide +kernel)) (by decide +kernel)
theorem tg_1731 : Jvm.Cond.code ({ cls := "SundialTreatyModel", name := "freeze", desc := "()I" } : Jvm.MethodName) prog_13_method_62_code (1 : Nat) (Option.some Jvm.ClassFile.FieldType.int) ∈ ab_TG := ab_in (tk_7 149 (by decide +kernel)) (by decide +kernel)
theorem tg_1728 : Jvm.Cond.methodLink "SundialTreatyLaw" (106 : Nat) ({ cls := "SundialTreatyModel", name := "freeze", desc := "()I" } : Jvm.MethodName) ∈ ab_TG := ab_in (tk_7 146 (by decide +kernel)) (by decide +kernel)
theorem tg_1730 : Jvm.Cond.selects "SundialTreatyModel" ({ cls := "SundialTreatyModel", name := "freeze", desc := "()I" } : Jvm.MethodName) ({ cls := "SundialTreatyModel", name := "freeze", desc := "()I" } : Jvm.MethodName) ∈ ab_TG := ab_in (tk_7 148 (by decide +kernel)) (by decide +kernel)
theorem tg_818 : Jvm.Cond.instanceMethod ({ cls := "SundialTreaty", name := "days", desc := "(I)I" } : Jvm.MethodName) ∈ ab_TG := ab_in (tk_3 196 (by decide +kernel)) (by decide +kernel)
theorem tg_820 : Jvm.Cond.code ({ cls := "SundialTreaty", name := "days", desc := "(I)I" } : Jvm.MethodName) prog_1_method_15_code (3 : Nat) (Option.some Jvm.ClassFile.FieldType.int) ∈ ab_TG := ab_in (tk_3 198 (by decide +kernel)) (by decide +kernel)
theorem tg_817 : Jvm.Cond.methodLink "SundialTreatyLaw" (107 : Nat) ({ cls := "SundialTreaty", name := "days", desc := "(I)I" } : Jvm.MethodName) ∈ ab_TG := ab_in (tk_3 195 (by decide +kernel)) (by decide +kernel)
theorem tg_819 : Jvm.Cond.selects "SundialTreaty" ({ cls := "SundialTreaty", name := "days", desc := "(I)I" } : Jvm.MethodName) ({ cls := "SundialTreaty", name := "days", desc := "(I)I" } : Jvm.MethodName) ∈ ab_TG := ab_in (tk_3 197 (by decide +kernel)) (by decide +kernel)
theorem tg_1737 : Jvm.Cond.instanceMethod ({ cls := "SundialTreatyModel", name := "days", desc := "(I)I" } : Jvm.MethodName) ∈ ab_TG := ab_in (tk_7 155 (by decide +kernel)) (by decide +kernel)
theorem tg_1739 : Jvm.Cond.code ({ cls := "SundialTreatyModel", name := "days", desc := "(I)I" } : Jvm.MethodName) prog_13_method_63_code (2 : Nat) (Option.some Jvm.ClassFile.FieldType.int) ∈ ab_TG := ab_in (tk_7 157 (by decide +kernel)) (by decide +kernel)
theorem tg_1736 : Jvm.Cond.methodLink "SundialTreatyLaw" (110 : Nat) ({ cls := "SundialTreatyModel", name := "days", desc := "(I)I" } : Jvm.MethodName) ∈ ab_TG := ab_in (tk_7 154 (by decide +kernel)) (by decide +kernel)
theorem tg_1738 : Jvm.Cond.selects "SundialTreatyModel" ({ cls := "SundialTreatyModel", name := "days", desc := "(I)I" } : Jvm.MethodName) ({ cls := "SundialTreatyModel", name := "days", desc := "(I)I" } : Jvm.MethodName) ∈ ab_TG := ab_in (tk_7 156 (by decide +kernel)) (by decide +kernel)
theorem tg_842 : Jvm.Cond.instanceMethod ({ cls := "SundialTreaty", name := "undo", desc := "()I" } : Jvm.MethodName) ∈ ab_TG := ab_in (tk_3 220 (by decide +kernel)) (by decide +kernel)
theorem tg_844 : Jvm.Cond.code ({ cls := "SundialTreaty", name := "undo", desc := "()I" } : Jvm.MethodName) prog_1_method_16_code (1 : Nat) (Option.some Jvm.ClassFile.FieldType.int) ∈ ab_TG := ab_in (tk_3 222 (by decide +kernel)) (by decide +kernel)
theorem tg_841 : Jvm.Cond.methodLink "SundialTreatyLaw" (111 : Nat) ({ cls := "SundialTreaty", name := "undo", desc := "()I" } : Jvm.MethodName) ∈ ab_TG := ab_in (tk_3 219 (by decide +kernel)) (by decide +kernel)
theorem tg_843 : Jvm.Cond.selects "SundialTreaty" ({ cls := "SundialTreaty", name := "undo", desc := "()I" } : Jvm.MethodName) ({ cls := "SundialTreaty", name := "undo", desc := "()I" } : Jvm.MethodName) ∈ ab_TG := ab_in (tk_3 221 (by decide +kernel)) (by decide +kernel)
theorem tg_1745 : Jvm.Cond.instanceMethod ({ cls := "SundialTreatyModel", name := "undo", desc := "()I" } : Jvm.MethodName) ∈ ab_TG := ab_in (tk_7 163 (by decide +kernel)) (by decide +kernel)
theorem tg_1747 : Jvm.Cond.code ({ cls := "SundialTreatyModel", name := "undo", desc := "()I" } : Jvm.MethodName) prog_13_method_65_code (2 : Nat) (Option.some Jvm.ClassFile.FieldType.int) ∈ ab_TG := ab_in (tk_7 165 (by decide +kernel)) (by decide +kernel)
theorem tg_1744 : Jvm.Cond.methodLink "SundialTreatyLaw" (114 : Nat) ({ cls := "SundialTreatyModel", name := "undo", desc := "()I" } : Jvm.MethodName) ∈ ab_TG := ab_in (tk_7 162 (by decide +kernel)) (by decide +kernel)
theorem tg_1746 : Jvm.Cond.selects "SundialTreatyModel" ({ cls := "SundialTreatyModel", name := "undo", desc := "()I" } : Jvm.MethodName) ({ cls := "SundialTreatyModel", name := "undo", desc := "()I" } : Jvm.MethodName) ∈ ab_TG := ab_in (tk_7 164 (by decide +kernel)) (by decide +kernel)
theorem tg_1284 : Jvm.Cond.codeWith ({ cls := "SundialTreatyLaw", name := "noonLong", desc := "(LSundialTreaty;[J)I" } : Jvm.MethodName) method_8_code (3 : Nat) (Option.some Jvm.ClassFile.FieldType.int) [((0 : Nat), (8 : Nat), (11 : Nat), (13 : Nat))] ∈ ab_TG := ab_in (tk_5 182 (by decide +kernel)) (by decide +kernel)
theorem tg_1282 : Jvm.Cond.methodLink "SundialTreatyLaw" (115 : Nat) ({ cls := "SundialTreatyLaw", name := "noonLong", desc := "(LSundialTreaty;[J)I" } : Jvm.MethodName) ∈ ab_TG := ab_in (tk_5 180 (by decide +kernel)) (by decide +kernel)
theorem tg_1283 : Jvm.Cond.static ({ cls := "SundialTreatyLaw", name := "noonLong", desc := "(LSundialTreaty;[J)I" } : Jvm.MethodName) ∈ ab_TG := ab_in (tk_5 181 (by decide +kernel)) (by decide +kernel)
theorem tg_1749 : Jvm.Cond.instanceMethod ({ cls := "SundialTreatyModel", name := "noonLong", desc := "()I" } : Jvm.MethodName) ∈ ab_TG := ab_in (tk_7 167 (by decide +kernel)) (by decide +kernel)
theorem tg_1751 : Jvm.Cond.code ({ cls := "SundialTreatyModel", name := "noonLong", desc := "()I" } : Jvm.MethodName) prog_13_method_69_code (2 : Nat) (Option.some Jvm.ClassFile.FieldType.int) ∈ ab_TG := ab_in (tk_7 169 (by decide +kernel)) (by decide +kernel)
theorem tg_1748 : Jvm.Cond.methodLink "SundialTreatyLaw" (118 : Nat) ({ cls := "SundialTreatyModel", name := "noonLong", desc := "()I" } : Jvm.MethodName) ∈ ab_TG := ab_in (tk_7 166 (by decide +kernel)) (by decide +kernel)
theorem tg_1750 : Jvm.Cond.selects "SundialTreatyModel" ({ cls := "SundialTreatyModel", name := "noonLong", desc := "()I" } : Jvm.MethodName) ({ cls := "SundialTreatyModel", name := "noonLong", desc := "()I" } : Jvm.MethodName) ∈ ab_TG := ab_in (tk_7 168 (by decide +kernel)) (by decide +kernel)
theorem tg_1292 : Jvm.Cond.codeWith ({ cls := "SundialTreatyLaw", name := "oneNoon", desc := "(LSundialTreaty;[J)I" } : Jvm.MethodName) method_9_code (3 : Nat) (Option.some Jvm.ClassFile.FieldType.int) [((0 : Nat), (8 : Nat), (11 : Nat), (13 : Nat))] ∈ ab_TG := ab_in (tk_5 190 (by decide +kernel)) (by decide +kernel)
theorem tg_1290 : Jvm.Cond.methodLink "SundialTreatyLaw" (119 : Nat) ({ cls := "SundialTreatyLaw", name := "oneNoon", desc := "(LSundialTreaty;[J)I" } : Jvm.MethodName) ∈ ab_TG := ab_in (tk_5 188 (by decide +kernel)) (by decide +kernel)
theorem tg_1291 : Jvm.Cond.static ({ cls := "SundialTreatyLaw", name := "oneNoon", desc := "(LSundialTreaty;[J)I" } : Jvm.MethodName) ∈ ab_TG := ab_in (tk_5 189 (by decide +kernel)) (by decide +kernel)
theorem tg_1757 : Jvm.Cond.instanceMethod ({ cls := "SundialTreatyModel", name := "oneNoon", desc := "()I" } : Jvm.MethodName) ∈ ab_TG := ab_in (tk_7 175 (by decide +kernel)) (by decide +kernel)
theorem tg_1759 : Jvm.Cond.code ({ cls := "SundialTreatyModel", name := "oneNoon", desc := "()I" } : Jvm.MethodName) prog_13_method_70_code (2 : Nat) (Option.some Jvm.ClassFile.FieldType.int) ∈ ab_TG := ab_in (tk_7 177 (by decide +kernel)) (by decide +kernel)
theorem tg_1756 : Jvm.Cond.methodLink "SundialTreatyLaw" (121 : Nat) ({ cls := "SundialTreatyModel", name := "oneNoon", desc := "()I" } : Jvm.MethodName) ∈ ab_TG := ab_in (tk_7 174 (by decide +kernel)) (by decide +kernel)
theorem tg_1758 : Jvm.Cond.selects "SundialTreatyModel" ({ cls := "SundialTreatyModel", name := "oneNoon", desc := "()I" } : Jvm.MethodName) ({ cls := "SundialTreatyModel", name := "oneNoon", desc := "()I" } : Jvm.MethodName) ∈ ab_TG := ab_in (tk_7 176 (by decide +kernel)) (by decide +kernel)
theorem tg_850 : Jvm.Cond.instanceMethod ({ cls := "SundialTreaty", name := "even", desc := "()I" } : Jvm.MethodName) ∈ ab_TG := ab_in (tk_3 228 (by decide +kernel)) (by decide +kernel)
theorem tg_852 : Jvm.Cond.code ({ cls := "SundialTreaty", name := "even", desc := "()I" } : Jvm.MethodName) prog_1_method_19_code (8 : Nat) (Option.some Jvm.ClassFile.FieldType.int) ∈ ab_TG := ab_in (tk_3 230 (by decide +kernel)) (by decide +kernel)
theorem tg_849 : Jvm.Cond.methodLink "SundialTreatyLaw" (122 : Nat) ({ cls := "SundialTreaty", name := "even", desc := "()I" } : Jvm.MethodName) ∈ ab_TG := ab_in (tk_3 227 (by decide +kernel)) (by decide +kernel)
theorem tg_851 : Jvm.Cond.selects "SundialTreaty" ({ cls := "SundialTreaty", name := "even", desc := "()I" } : Jvm.MethodName) ({ cls := "SundialTreaty", name := "even", desc := "()I" } : Jvm.MethodName) ∈ ab_TG := ab_in (tk_3 229 (by decide +kernel)) (by decide +kernel)
theorem tg_1761 : Jvm.Cond.instanceMethod ({ cls := "SundialTreatyModel", name := "even", desc := "()I" } : Jvm.MethodName) ∈ ab_TG := ab_in (tk_7 179 (by decide +kernel)) (by decide +kernel)
theorem tg_1763 : Jvm.Cond.code ({ cls := "SundialTreatyModel", name := "even", desc := "()I" } : Jvm.MethodName) prog_13_method_72_code (7 : Nat) (Option.some Jvm.ClassFile.FieldType.int) ∈ ab_TG := ab_in (tk_7 181 (by decide +kernel)) (by decide +kernel)
theorem tg_1760 : Jvm.Cond.methodLink "SundialTreatyLaw" (125 : Nat) ({ cls := "SundialTreatyModel", name := "even", desc := "()I" } : Jvm.MethodName) ∈ ab_TG := ab_in (tk_7 178 (by decide +kernel)) (by decide +kernel)
theorem tg_1762 : Jvm.Cond.selects "SundialTreatyModel" ({ cls := "SundialTreatyModel", name := "even", desc := "()I" } : Jvm.MethodName) ({ cls := "SundialTreatyModel", name := "even", desc := "()I" } : Jvm.MethodName) ∈ ab_TG := ab_in (tk_7 180 (by decide +kernel)) (by decide +kernel)
theorem tg_1300 : Jvm.Cond.codeWith ({ cls := "SundialTreatyLaw", name := "evenAt", desc := "(LSundialTreaty;I[J)I" } : Jvm.MethodName) method_10_code (4 : Nat) (Option.some Jvm.ClassFile.FieldType.int) [((0 : Nat), (9 : Nat), (12 : Nat), (13 : Nat))] ∈ ab_TG := ab_in (tk_5 198 (by decide +kernel)) (by decide +kernel)
theorem tg_1298 : Jvm.Cond.methodLink "SundialTreatyLaw" (126 : Nat) ({ cls := "SundialTreatyLaw", name := "evenAt", desc := "(LSundialTreaty;I[J)I" } : Jvm.MethodName) ∈ ab_TG := ab_in (tk_5 196 (by decide +kernel)) (by decide +kernel)
theorem tg_1299 : Jvm.Cond.static ({ cls := "SundialTreatyLaw", name := "evenAt", desc := "(LSundialTreaty;I[J)I" } : Jvm.MethodName) ∈ ab_TG := ab_in (tk_5 197 (by decide +kernel)) (by decide +kernel)
theorem tg_1772 : Jvm.Cond.instanceMethod ({ cls := "SundialTreatyModel", name := "evenAt", desc := "(I)I" } : Jvm.MethodName) ∈ ab_TG := ab_in (tk_7 190 (by decide +kernel)) (by decide +kernel)
theorem tg_1774 : Jvm.Cond.code ({ cls := "SundialTreatyModel", name := "evenAt", desc := "(I)I" } : Jvm.MethodName) prog_13_method_73_code (2 : Nat) (Option.some Jvm.ClassFile.FieldType.int) ∈ ab_TG := ab_in (tk_7 192 (by decide +kernel)) (by decide +kernel)
theorem tg_1771 : Jvm.Cond.methodLink "SundialTreatyLaw" (128 : Nat) ({ cls := "SundialTreatyModel", name := "evenAt", desc := "(I)I" } : Jvm.MethodName) ∈ ab_TG := ab_in (tk_7 189 (by decide +kernel)) (by decide +kernel)
theorem tg_1773 : Jvm.Cond.selects "SundialTreatyModel" ({ cls := "SundialTreatyModel", name := "evenAt", desc := "(I)I" } : Jvm.MethodName) ({ cls := "SundialTreatyModel", name := "evenAt", desc := "(I)I" } : Jvm.MethodName) ∈ ab_TG := ab_in (tk_7 191 (by decide +kernel)) (by decide +kernel)
theorem tg_875 : Jvm.Cond.instanceMethod ({ cls := "SundialTreaty", name := "kept", desc := "()I" } : Jvm.MethodName) ∈ ab_TG := ab_in (tk_4 13 (by decide +kernel)) (by decide +kernel)
theorem tg_877 : Jvm.Cond.code ({ cls := "SundialTreaty", name := "kept", desc := "()I" } : Jvm.MethodName) prog_1_method_21_code (2 : Nat) (Option.some Jvm.ClassFile.FieldType.int) ∈ ab_TG := ab_in (tk_4 15 (by decide +kernel)) (by decide +kernel)
theorem tg_874 : Jvm.Cond.methodLink "SundialTreatyLaw" (129 : Nat) ({ cls := "SundialTreaty", name := "kept", desc := "()I" } : Jvm.MethodName) ∈ ab_TG := ab_in (tk_4 12 (by decide +kernel)) (by decide +kernel)
theorem tg_876 : Jvm.Cond.selects "SundialTreaty" ({ cls := "SundialTreaty", name := "kept", desc := "()I" } : Jvm.MethodName) ({ cls := "SundialTreaty", name := "kept", desc := "()I" } : Jvm.MethodName) ∈ ab_TG := ab_in (tk_4 14 (by decide +kernel)) (by decide +kernel)
theorem tg_1776 : Jvm.Cond.instanceMethod ({ cls := "SundialTreatyModel", name := "kept", desc := "()I" } : Jvm.MethodName) ∈ ab_TG := ab_in (tk_7 194 (by decide +kernel)) (by decide +kernel)
theorem tg_1778 : Jvm.Cond.code ({ cls := "SundialTreatyModel", name := "kept", desc := "()I" } : Jvm.MethodName) prog_13_method_75_code (3 : Nat) (Option.some Jvm.ClassFile.FieldType.int) ∈ ab_TG := ab_in (tk_7 196 (by decide +kernel)) (by decide +kernel)
theorem tg_1775 : Jvm.Cond.methodLink "SundialTreatyLaw" (132 : Nat) ({ cls := "SundialTreatyModel", name := "kept", desc := "()I" } : Jvm.MethodName) ∈ ab_TG := ab_in (tk_7 193 (by decide +kernel)) (by decide +kernel)
theorem tg_1777 : Jvm.Cond.selects "SundialTreatyModel" ({ cls := "SundialTreatyModel", name := "kept", desc := "()I" } : Jvm.MethodName) ({ cls := "SundialTreatyModel", name := "kept", desc := "()I" } : Jvm.MethodName) ∈ ab_TG := ab_in (tk_7 195 (by decide +kernel)) (by decide +kernel)
theorem tg_890 : Jvm.Cond.instanceMethod ({ cls := "SundialTreaty", name := "worst", desc := "(I)I" } : Jvm.MethodName) ∈ ab_TG := ab_in (tk_4 28 (by decide +kernel)) (by decide +kernel)
theorem tg_892 : Jvm.Cond.code ({ cls := "SundialTreaty", name := "worst", desc := "(I)I" } : Jvm.MethodName) prog_1_method_22_code (6 : Nat) (Option.some Jvm.ClassFile.FieldType.int) ∈ ab_TG := ab_in (tk_4 30 (by decide +kernel)) (by decide +kernel)
theorem tg_889 : Jvm.Cond.methodLink "SundialTreatyLaw" (133 : Nat) ({ cls := "SundialTreaty", name := "worst", desc := "(I)I" } : Jvm.MethodName) ∈ ab_TG := ab_in (tk_4 27 (by decide +kernel)) (by decide +kernel)
theorem tg_891 : Jvm.Cond.selects "SundialTreaty" ({ cls := "SundialTreaty", name := "worst", desc := "(I)I" } : Jvm.MethodName) ({ cls := "SundialTreaty", name := "worst", desc := "(I)I" } : Jvm.MethodName) ∈ ab_TG := ab_in (tk_4 29 (by decide +kernel)) (by decide +kernel)
theorem tg_1795 : Jvm.Cond.instanceMethod ({ cls := "SundialTreatyModel", name := "worst", desc := "(I)I" } : Jvm.MethodName) ∈ ab_TG := ab_in (tk_7 213 (by decide +kernel)) (by decide +kernel)
theorem tg_1797 : Jvm.Cond.code ({ cls := "SundialTreatyModel", name := "worst", desc := "(I)I" } : Jvm.MethodName) prog_13_method_76_code (6 : Nat) (Option.some Jvm.ClassFile.FieldType.int) ∈ ab_TG := ab_in (tk_7 215 (by decide +kernel)) (by decide +kernel)
theorem tg_1794 : Jvm.Cond.methodLink "SundialTreatyLaw" (136 : Nat) ({ cls := "SundialTreatyModel", name := "worst", desc := "(I)I" } : Jvm.MethodName) ∈ ab_TG := ab_in (tk_7 212 (by decide +kernel)) (by decide +kernel)
theorem tg_1796 : Jvm.Cond.selects "SundialTreatyModel" ({ cls := "SundialTreatyModel", name := "worst", desc := "(I)I" } : Jvm.MethodName) ({ cls := "SundialTreatyModel", name := "worst", desc := "(I)I" } : Jvm.MethodName) ∈ ab_TG := ab_in (tk_7 214 (by decide +kernel)) (by decide +kernel)
theorem tg_1308 : Jvm.Cond.codeWith ({ cls := "SundialTreatyLaw", name := "spare", desc := "(LSundialTreaty;II[J)I" } : Jvm.MethodName) method_11_code (5 : Nat) (Option.some Jvm.ClassFile.FieldType.int) [((0 : Nat), (10 : Nat), (13 : Nat), (13 : Nat))] ∈ ab_TG := ab_in (tk_5 206 (by decide +kernel)) (by decide +kernel)
theorem tg_1306 : Jvm.Cond.methodLink "SundialTreatyLaw" (137 : Nat) ({ cls := "SundialTreatyLaw", name := "spare", desc := "(LSundialTreaty;II[J)I" } : Jvm.MethodName) ∈ ab_TG := ab_in (tk_5 204 (by decide +kernel)) (by decide +kernel)
theorem tg_1307 : Jvm.Cond.static ({ cls := "SundialTreatyLaw", name := "spare", desc := "(LSundialTreaty;II[J)I" } : Jvm.MethodName) ∈ ab_TG := ab_in (tk_5 205 (by decide +kernel)) (by decide +kernel)
theorem tg_1799 : Jvm.Cond.instanceMethod ({ cls := "SundialTreatyModel", name := "spare", desc := "(II)I" } : Jvm.MethodName) ∈ ab_TG := ab_in (tk_7 217 (by decide +kernel)) (by decide +kernel)
theorem tg_1801 : Jvm.Cond.code ({ cls := "SundialTreatyModel", name := "spare", desc := "(II)I" } : Jvm.MethodName) prog_13_method_77_code (3 : Nat) (Option.some Jvm.ClassFile.FieldType.int) ∈ ab_TG := ab_in (tk_7 219 (by decide +kernel)) (by decide +kernel)
theorem tg_1798 : Jvm.Cond.methodLink "SundialTreatyLaw" (139 : Nat) ({ cls := "SundialTreatyModel", name := "spare", desc := "(II)I" } : Jvm.MethodName) ∈ ab_TG := ab_in (tk_7 216 (by decide +kernel)) (by decide +kernel)
theorem tg_1800 : Jvm.Cond.selects "SundialTreatyModel" ({ cls := "SundialTreatyModel", name := "spare", desc := "(II)I" } : Jvm.MethodName) ({ cls := "SundialTreatyModel", name := "spare", desc := "(II)I" } : Jvm.MethodName) ∈ ab_TG := ab_in (tk_7 218 (by decide +kernel)) (by decide +kernel)
theorem tg_894 : Jvm.Cond.instanceMethod ({ cls := "SundialTreaty", name := "route", desc := "(III)I" } : Jvm.MethodName) ∈ ab_TG := ab_in (tk_4 32 (by decide +kernel)) (by decide +kernel)
theorem tg_896 : Jvm.Cond.code ({ cls := "SundialTreaty", name := "route", desc := "(III)I" } : Jvm.MethodName) prog_1_method_24_code (4 : Nat) (Option.some Jvm.ClassFile.FieldType.int) ∈ ab_TG := ab_in (tk_4 34 (by decide +kernel)) (by decide +kernel)
theorem tg_893 : Jvm.Cond.methodLink "SundialTreatyLaw" (140 : Nat) ({ cls := "SundialTreaty", name := "route", desc := "(III)I" } : Jvm.MethodName) ∈ ab_TG := ab_in (tk_4 31 (by decide +kernel)) (by decide +kernel)
theorem tg_895 : Jvm.Cond.selects "SundialTreaty" ({ cls := "SundialTreaty", name := "route", desc := "(III)I" } : Jvm.MethodName) ({ cls := "SundialTreaty", name := "route", desc := "(III)I" } : Jvm.MethodName) ∈ ab_TG := ab_in (tk_4 33 (by decide +kernel)) (by decide +kernel)
theorem tg_1803 : Jvm.Cond.instanceMethod ({ cls := "SundialTreatyModel", name := "route", desc := "(III)I" } : Jvm.MethodName) ∈ ab_TG := ab_in (tk_7 221 (by decide +kernel)) (by decide +kernel)
theorem tg_1805 : Jvm.Cond.code ({ cls := "SundialTreatyModel", name := "route", desc := "(III)I" } : Jvm.MethodName) prog_13_method_79_code (11 : Nat) (Option.some Jvm.ClassFile.FieldType.int) ∈ ab_TG := ab_in (tk_7 223 (by decide +kernel)) (by decide +kernel)
theorem tg_1802 : Jvm.Cond.methodLink "SundialTreatyLaw" (144 : Nat) ({ cls := "SundialTreatyModel", name := "route", desc := "(III)I" } : Jvm.MethodName) ∈ ab_TG := ab_in (tk_7 220 (by decide +kernel)) (by decide +kernel)
theorem tg_1804 : Jvm.Cond.selects "SundialTreatyModel" ({ cls := "SundialTreatyModel", name := "route", desc := "(III)I" } : Jvm.MethodName) ({ cls := "SundialTreatyModel", name := "route", desc := "(III)I" } : Jvm.MethodName) ∈ ab_TG := ab_in (tk_7 222 (by decide +kernel)) (by decide +kernel)
theorem tg_928 : Jvm.Cond.instanceMethod ({ cls := "SundialTreaty", name := "routeAt", desc := "(I)I" } : Jvm.MethodName) ∈ ab_TG := ab_in (tk_4 66 (by decide +kernel)) (by decide +kernel)
theorem tg_930 : Jvm.Cond.code ({ cls := "SundialTreaty", name := "routeAt", desc := "(I)I" } : Jvm.MethodName) prog_1_method_25_code (2 : Nat) (Option.some Jvm.ClassFile.FieldType.int) ∈ ab_TG := ab_in (tk_4 68 (by decide +kernel)) (by decide +kernel)
theorem tg_927 : Jvm.Cond.methodLink "SundialTreatyLaw" (145 : Nat) ({ cls := "SundialTreaty", name := "routeAt", desc := "(I)I" } : Jvm.MethodName) ∈ ab_TG := ab_in (tk_4 65 (by decide +kernel)) (by decide +kernel)
theorem tg_929 : Jvm.Cond.selects "SundialTreaty" ({ cls := "SundialTreaty", name := "routeAt", desc := "(I)I" } : Jvm.MethodName) ({ cls := "SundialTreaty", name := "routeAt", desc := "(I)I" } : Jvm.MethodName) ∈ ab_TG := ab_in (tk_4 67 (by decide +kernel)) (by decide +kernel)
theorem tg_1812 : Jvm.Cond.instanceMethod ({ cls := "SundialTreatyModel", name := "routeAt", desc := "(I)I" } : Jvm.MethodName) ∈ ab_TG := ab_in (tk_7 230 (by decide +kernel)) (by decide +kernel)
theorem tg_1814 : Jvm.Cond.code ({ cls := "SundialTreatyModel", name := "routeAt", desc := "(I)I" } : Jvm.MethodName) prog_13_method_80_code (2 : Nat) (Option.some Jvm.ClassFile.FieldType.int) ∈ ab_TG := ab_in (tk_7 232 (by decide +kernel)) (by decide +kernel)
theorem tg_1811 : Jvm.Cond.methodLink "SundialTreatyLaw" (148 : Nat) ({ cls := "SundialTreatyModel", name := "routeAt", desc := "(I)I" } : Jvm.MethodName) ∈ ab_TG := ab_in (tk_7 229 (by decide +kernel)) (by decide +kernel)
theorem tg_1813 : Jvm.Cond.selects "SundialTreatyModel" ({ cls := "SundialTreatyModel", name := "routeAt", desc := "(I)I" } : Jvm.MethodName) ({ cls := "SundialTreatyModel", name := "routeAt", desc := "(I)I" } : Jvm.MethodName) ∈ ab_TG := ab_in (tk_7 231 (by decide +kernel)) (by decide +kernel)
theorem tg_932 : Jvm.Cond.instanceMethod ({ cls := "SundialTreaty", name := "shadows", desc := "()I" } : Jvm.MethodName) ∈ ab_TG := ab_in (tk_4 70 (by decide +kernel)) (by decide +kernel)
theorem tg_934 : Jvm.Cond.code ({ cls := "SundialTreaty", name := "shadows", desc := "()I" } : Jvm.MethodName) prog_1_method_26_code (5 : Nat) (Option.some Jvm.ClassFile.FieldType.int) ∈ ab_TG := ab_in (tk_4 72 (by decide +kernel)) (by decide +kernel)
theorem tg_931 : Jvm.Cond.methodLink "SundialTreatyLaw" (149 : Nat) ({ cls := "SundialTreaty", name := "shadows", desc := "()I" } : Jvm.MethodName) ∈ ab_TG := ab_in (tk_4 69 (by decide +kernel)) (by decide +kernel)
theorem tg_933 : Jvm.Cond.selects "SundialTreaty" ({ cls := "SundialTreaty", name := "shadows", desc := "()I" } : Jvm.MethodName) ({ cls := "SundialTreaty", name := "shadows", desc := "()I" } : Jvm.MethodName) ∈ ab_TG := ab_in (tk_4 71 (by decide +kernel)) (by decide +kernel)
theorem tg_1816 : Jvm.Cond.instanceMethod ({ cls := "SundialTreatyModel", name := "shadows", desc := "()I" } : Jvm.MethodName) ∈ ab_TG := ab_in (tk_7 234 (by decide +kernel)) (by decide +kernel)
theorem tg_1818 : Jvm.Cond.code ({ cls := "SundialTreatyModel", name := "shadows", desc := "()I" } : Jvm.MethodName) prog_13_method_81_code (2 : Nat) (Option.some Jvm.ClassFile.FieldType.int) ∈ ab_TG := ab_in (tk_7 236 (by decide +kernel)) (by decide +kernel)
theorem tg_1815 : Jvm.Cond.methodLink "SundialTreatyLaw" (152 : Nat) ({ cls := "SundialTreatyModel", name := "shadows", desc := "()I" } : Jvm.MethodName) ∈ ab_TG := ab_in (tk_7 233 (by decide +kernel)) (by decide +kernel)
theorem tg_1817 : Jvm.Cond.selects "SundialTreatyModel" ({ cls := "SundialTreatyModel", name := "shadows", desc := "()I" } : Jvm.MethodName) ({ cls := "SundialTreatyModel", name := "shadows", desc := "()I" } : Jvm.MethodName) ∈ ab_TG := ab_in (tk_7 235 (by decide +kernel)) (by decide +kernel)
theorem tg_1316 : Jvm.Cond.codeWith ({ cls := "SundialTreatyLaw", name := "votes", desc := "(LSundialTreaty;II[J)I" } : Jvm.MethodName) method_12_code (5 : Nat) (Option.some Jvm.ClassFile.FieldType.int) [((0 : Nat), (10 : Nat), (13 : Nat), (13 : Nat))] ∈ ab_TG := ab_in (tk_5 214 (by decide +kernel)) (by decide +kernel)
theorem tg_1314 : Jvm.Cond.methodLink "SundialTreatyLaw" (153 : Nat) ({ cls := "SundialTreatyLaw", name := "votes", desc := "(LSundialTreaty;II[J)I" } : Jvm.MethodName) ∈ ab_TG := ab_in (tk_5 212 (by decide +kernel)) (by decide +kernel)
theorem tg_1315 : Jvm.Cond.static ({ cls := "SundialTreatyLaw", name := "votes", desc := "(LSundialTreaty;II[J)I" } : Jvm.MethodName) ∈ ab_TG := ab_in (tk_5 213 (by decide +kernel)) (by decide +kernel)
theorem tg_1824 : Jvm.Cond.instanceMethod ({ cls := "SundialTreatyModel", name := "votes", desc := "(II)I" } : Jvm.MethodName) ∈ ab_TG := ab_in (tk_8 2 (by decide +kernel)) (by decide +kernel)
theorem tg_1826 : Jvm.Cond.code ({ cls := "SundialTreatyModel", name := "votes", desc := "(II)I" } : Jvm.MethodName) prog_13_method_82_code (7 : Nat) (Option.some Jvm.ClassFile.FieldType.int) ∈ ab_TG := ab_in (tk_8 4 (by decide +kernel)) (by decide +kernel)
theorem tg_1823 : Jvm.Cond.methodLink "SundialTreatyLaw" (155 : Nat) ({ cls := "SundialTreatyModel", name := "votes", desc := "(II)I" } : Jvm.MethodName) ∈ ab_TG := ab_in (tk_8 1 (by decide +kernel)) (by decide +kernel)
theorem tg_1825 : Jvm.Cond.selects "SundialTreatyModel" ({ cls := "SundialTreatyModel", name := "votes", desc := "(II)I" } : Jvm.MethodName) ({ cls := "SundialTreatyModel", name := "votes", desc := "(II)I" } : Jvm.MethodName) ∈ ab_TG := ab_in (tk_8 3 (by decide +kernel)) (by decide +kernel)
theorem tg_936 : Jvm.Cond.instanceMethod ({ cls := "SundialTreaty", name := "nearer", desc := "()I" } : Jvm.MethodName) ∈ ab_TG := ab_in (tk_4 74 (by decide +kernel)) (by decide +kernel)
theorem tg_938 : Jvm.Cond.code ({ cls := "SundialTreaty", name := "nearer", desc := "()I" } : Jvm.MethodName) prog_1_method_28_code (4 : Nat) (Option.some Jvm.ClassFile.FieldType.int) ∈ ab_TG := ab_in (tk_4 76 (by decide +kernel)) (by decide +kernel)
theorem tg_935 : Jvm.Cond.methodLink "SundialTreatyLaw" (156 : Nat) ({ cls := "SundialTreaty", name := "nearer", desc := "()I" } : Jvm.MethodName) ∈ ab_TG := ab_in (tk_4 73 (by decide +kernel)) (by decide +kernel)
theorem tg_937 : Jvm.Cond.selects "SundialTreaty" ({ cls := "SundialTreaty", name := "nearer", desc := "()I" } : Jvm.MethodName) ({ cls := "SundialTreaty", name := "nearer", desc := "()I" } : Jvm.MethodName) ∈ ab_TG := ab_in (tk_4 75 (by decide +kernel)) (by decide +kernel)
theorem tg_1828 : Jvm.Cond.instanceMethod ({ cls := "SundialTreatyModel", name := "nearer", desc := "()I" } : Jvm.MethodName) ∈ ab_TG := ab_in (tk_8 6 (by decide +kernel)) (by decide +kernel)
theorem tg_1830 : Jvm.Cond.code ({ cls := "SundialTreatyModel", name := "nearer", desc := "()I" } : Jvm.MethodName) prog_13_method_84_code (4 : Nat) (Option.some Jvm.ClassFile.FieldType.int) ∈ ab_TG := ab_in (tk_8 8 (by decide +kernel)) (by decide +kernel)
theorem tg_1827 : Jvm.Cond.methodLink "SundialTreatyLaw" (159 : Nat) ({ cls := "SundialTreatyModel", name := "nearer", desc := "()I" } : Jvm.MethodName) ∈ ab_TG := ab_in (tk_8 5 (by decide +kernel)) (by decide +kernel)
theorem tg_1829 : Jvm.Cond.selects "SundialTreatyModel" ({ cls := "SundialTreatyModel", name := "nearer", desc := "()I" } : Jvm.MethodName) ({ cls := "SundialTreatyModel", name := "nearer", desc := "()I" } : Jvm.MethodName) ∈ ab_TG := ab_in (tk_8 7 (by decide +kernel)) (by decide +kernel)
theorem tg_1325 : Jvm.Cond.codeWith ({ cls := "SundialTreatyLaw", name := "nearerAt", desc := "(LSundialTreaty;I[J)I" } : Jvm.MethodName) method_13_code (4 : Nat) (Option.some Jvm.ClassFile.FieldType.int) [((0 : Nat), (9 : Nat), (12 : Nat), (13 : Nat))] ∈ ab_TG := ab_in (tk_5 223 (by decide +kernel)) (by decide +kernel)
theorem tg_1323 : Jvm.Cond.methodLink "SundialTreatyLaw" (160 : Nat) ({ cls := "SundialTreatyLaw", name := "nearerAt", desc := "(LSundialTreaty;I[J)I" } : Jvm.MethodName) ∈ ab_TG := ab_in (tk_5 221 (by decide +kernel)) (by decide +kernel)
theorem tg_1324 : Jvm.Cond.static ({ cls := "SundialTreatyLaw", name := "nearerAt", desc := "(LSundialTreaty;I[J)I" } : Jvm.MethodName) ∈ ab_TG := ab_in (tk_5 222 (by decide +kernel)) (by decide +kernel)
theorem tg_1836 : Jvm.Cond.instanceMethod ({ cls := "SundialTreatyModel", name := "nearerAt", desc := "(I)I" } : Jvm.MethodName) ∈ ab_TG := ab_in (tk_8 14 (by decide +kernel)) (by decide +kernel)
theorem tg_1838 : Jvm.Cond.code ({ cls := "SundialTreatyModel", name := "nearerAt", desc := "(I)I" } : Jvm.MethodName) prog_13_method_85_code (2 : Nat) (Option.some Jvm.ClassFile.FieldType.int) ∈ ab_TG := ab_in (tk_8 16 (by decide +kernel)) (by decide +kernel)
theorem tg_1835 : Jvm.Cond.methodLink "SundialTreatyLaw" (162 : Nat) ({ cls := "SundialTreatyModel", name := "nearerAt", desc := "(I)I" } : Jvm.MethodName) ∈ ab_TG := ab_in (tk_8 13 (by decide +kernel)) (by decide +kernel)
theorem tg_1837 : Jvm.Cond.selects "SundialTreatyModel" ({ cls := "SundialTreatyModel", name := "nearerAt", desc := "(I)I" } : Jvm.MethodName) ({ cls := "SundialTreatyModel", name := "nearerAt", desc := "(I)I" } : Jvm.MethodName) ∈ ab_TG := ab_in (tk_8 15 (by decide +kernel)) (by decide +kernel)
theorem tg_955 : Jvm.Cond.instanceMethod ({ cls := "SundialTreaty", name := "right", desc := "(II)I" } : Jvm.MethodName) ∈ ab_TG := ab_in (tk_4 93 (by decide +kernel)) (by decide +kernel)
theorem tg_957 : Jvm.Cond.code ({ cls := "SundialTreaty", name := "right", desc := "(II)I" } : Jvm.MethodName) prog_1_method_30_code (6 : Nat) (Option.some Jvm.ClassFile.FieldType.int) ∈ ab_TG := ab_in (tk_4 95 (by decide +kernel)) (by decide +kernel)
theorem tg_954 : Jvm.Cond.methodLink "SundialTreatyLaw" (163 : Nat) ({ cls := "SundialTreaty", name := "right", desc := "(II)I" } : Jvm.MethodName) ∈ ab_TG := ab_in (tk_4 92 (by decide +kernel)) (by decide +kernel)
theorem tg_956 : Jvm.Cond.selects "SundialTreaty" ({ cls := "SundialTreaty", name := "right", desc := "(II)I" } : Jvm.MethodName) ({ cls := "SundialTreaty", name := "right", desc := "(II)I" } : Jvm.MethodName) ∈ ab_TG := ab_in (tk_4 94 (by decide +kernel)) (by decide +kernel)
theorem tg_1840 : Jvm.Cond.instanceMethod ({ cls := "SundialTreatyModel", name := "right", desc := "(II)I" } : Jvm.MethodName) ∈ ab_TG := ab_in (tk_8 18 (by decide +kernel)) (by decide +kernel)
theorem tg_1842 : Jvm.Cond.code ({ cls := "SundialTreatyModel", name := "right", desc := "(II)I" } : Jvm.MethodName) prog_13_method_86_code (5 : Nat) (Option.some Jvm.ClassFile.FieldType.int) ∈ ab_TG := ab_in (tk_8 20 (by decide +kernel)) (by decide +kernel)
theorem tg_1839 : Jvm.Cond.methodLink "SundialTreatyLaw" (166 : Nat) ({ cls := "SundialTreatyModel", name := "right", desc := "(II)I" } : Jvm.MethodName) ∈ ab_TG := ab_in (tk_8 17 (by decide +kernel)) (by decide +kernel)
theorem tg_1841 : Jvm.Cond.selects "SundialTreatyModel" ({ cls := "SundialTreatyModel", name := "right", desc := "(II)I" } : Jvm.MethodName) ({ cls := "SundialTreatyModel", name := "right", desc := "(II)I" } : Jvm.MethodName) ∈ ab_TG := ab_in (tk_8 19 (by decide +kernel)) (by decide +kernel)
theorem tg_959 : Jvm.Cond.instanceMethod ({ cls := "SundialTreaty", name := "turns", desc := "(I)I" } : Jvm.MethodName) ∈ ab_TG := ab_in (tk_4 97 (by decide +kernel)) (by decide +kernel)
theorem tg_961 : Jvm.Cond.code ({ cls := "SundialTreaty", name := "turns", desc := "(I)I" } : Jvm.MethodName) prog_1_method_31_code (4 : Nat) (Option.some Jvm.ClassFile.FieldType.int) ∈ ab_TG := ab_in (tk_4 99 (by decide +kernel)) (by decide +kernel)
theorem tg_958 : Jvm.Cond.methodLink "SundialTreatyLaw" (167 : Nat) ({ cls := "SundialTreaty", name := "turns", desc := "(I)I" } : Jvm.MethodName) ∈ ab_TG := ab_in (tk_4 96 (by decide +kernel)) (by decide +kernel)
theorem tg_960 : Jvm.Cond.selects "SundialTreaty" ({ cls := "SundialTreaty", name := "turns", desc := "(I)I" } : Jvm.MethodName) ({ cls := "SundialTreaty", name := "turns", desc := "(I)I" } : Jvm.MethodName) ∈ ab_TG := ab_in (tk_4 98 (by decide +kernel)) (by decide +kernel)
theorem tg_1844 : Jvm.Cond.instanceMethod ({ cls := "SundialTreatyModel", name := "turns", desc := "(I)I" } : Jvm.MethodName) ∈ ab_TG := ab_in (tk_8 22 (by decide +kernel)) (by decide +kernel)
theorem tg_1846 : Jvm.Cond.code ({ cls := "SundialTreatyModel", name := "turns", desc := "(I)I" } : Jvm.MethodName) prog_13_method_87_code (3 : Nat) (Option.some Jvm.ClassFile.FieldType.int) ∈ ab_TG := ab_in (tk_8 24 (by decide +kernel)) (by decide +kernel)
theorem tg_1843 : Jvm.Cond.methodLink "SundialTreatyLaw" (170 : Nat) ({ cls := "SundialTreatyModel", name := "turns", desc := "(I)I" } : Jvm.MethodName) ∈ ab_TG := ab_in (tk_8 21 (by decide +kernel)) (by decide +kernel)
theorem tg_1845 : Jvm.Cond.selects "SundialTreatyModel" ({ cls := "SundialTreatyModel", name := "turns", desc := "(I)I" } : Jvm.MethodName) ({ cls := "SundialTreatyModel", name := "turns", desc := "(I)I" } : Jvm.MethodName) ∈ ab_TG := ab_in (tk_8 23 (by decide +kernel)) (by decide +kernel)
theorem tg_963 : Jvm.Cond.instanceMethod ({ cls := "SundialTreaty", name := "motto", desc := "(I)I" } : Jvm.MethodName) ∈ ab_TG := ab_in (tk_4 101 (by decide +kernel)) (by decide +kernel)
theorem tg_965 : Jvm.Cond.code ({ cls := "SundialTreaty", name := "motto", desc := "(I)I" } : Jvm.MethodName) prog_1_method_32_code (2 : Nat) (Option.some Jvm.ClassFile.FieldType.int) ∈ ab_TG := ab_in (tk_4 103 (by decide +kernel)) (by decide +kernel)
theorem tg_962 : Jvm.Cond.methodLink "SundialTreatyLaw" (171 : Nat) ({ cls := "SundialTreaty", name := "motto", desc := "(I)I" } : Jvm.MethodName) ∈ ab_TG := ab_in (tk_4 100 (by decide +kernel)) (by decide +kernel)
theorem tg_964 : Jvm.Cond.selects "SundialTreaty" ({ cls := "SundialTreaty", name := "motto", desc := "(I)I" } : Jvm.MethodName) ({ cls := "SundialTreaty", name := "motto", desc := "(I)I" } : Jvm.MethodName) ∈ ab_TG := ab_in (tk_4 102 (by decide +kernel)) (by decide +kernel)
theorem tg_1848 : Jvm.Cond.instanceMethod ({ cls := "SundialTreatyModel", name := "motto", desc := "(I)I" } : Jvm.MethodName) ∈ ab_TG := ab_in (tk_8 26 (by decide +kernel)) (by decide +kernel)
theorem tg_1850 : Jvm.Cond.code ({ cls := "SundialTreatyModel", name := "motto", desc := "(I)I" } : Jvm.MethodName) prog_13_method_91_code (3 : Nat) (Option.some Jvm.ClassFile.FieldType.int) ∈ ab_TG := ab_in (tk_8 28 (by decide +kernel)) (by decide +kernel)
theorem tg_1847 : Jvm.Cond.methodLink "SundialTreatyLaw" (174 : Nat) ({ cls := "SundialTreatyModel", name := "motto", desc := "(I)I" } : Jvm.MethodName) ∈ ab_TG := ab_in (tk_8 25 (by decide +kernel)) (by decide +kernel)
theorem tg_1849 : Jvm.Cond.selects "SundialTreatyModel" ({ cls := "SundialTreatyModel", name := "motto", desc := "(I)I" } : Jvm.MethodName) ({ cls := "SundialTreatyModel", name := "motto", desc := "(I)I" } : Jvm.MethodName) ∈ ab_TG := ab_in (tk_8 27 (by decide +kernel)) (by decide +kernel)
theorem tg_991 : Jvm.Cond.instanceMethod ({ cls := "SundialTreaty", name := "byteAt", desc := "(I)I" } : Jvm.MethodName) ∈ ab_TG := ab_in (tk_4 129 (by decide +kernel)) (by decide +kernel)
theorem tg_993 : Jvm.Cond.code ({ cls := "SundialTreaty", name := "byteAt", desc := "(I)I" } : Jvm.MethodName) prog_1_method_33_code (2 : Nat) (Option.some Jvm.ClassFile.FieldType.int) ∈ ab_TG := ab_in (tk_4 131 (by decide +kernel)) (by decide +kernel)
theorem tg_990 : Jvm.Cond.methodLink "SundialTreatyLaw" (175 : Nat) ({ cls := "SundialTreaty", name := "byteAt", desc := "(I)I" } : Jvm.MethodName) ∈ ab_TG := ab_in (tk_4 128 (by decide +kernel)) (by decide +kernel)
theorem tg_992 : Jvm.Cond.selects "SundialTreaty" ({ cls := "SundialTreaty", name := "byteAt", desc := "(I)I" } : Jvm.MethodName) ({ cls := "SundialTreaty", name := "byteAt", desc := "(I)I" } : Jvm.MethodName) ∈ ab_TG := ab_in (tk_4 130 (by decide +kernel)) (by decide +kernel)
theorem tg_1868 : Jvm.Cond.instanceMethod ({ cls := "SundialTreatyModel", name := "byteAt", desc := "(I)I" } : Jvm.MethodName) ∈ ab_TG := ab_in (tk_8 46 (by decide +kernel)) (by decide +kernel)
theorem tg_1870 : Jvm.Cond.code ({ cls := "SundialTreatyModel", name := "byteAt", desc := "(I)I" } : Jvm.MethodName) prog_13_method_92_code (2 : Nat) (Option.some Jvm.ClassFile.FieldType.int) ∈ ab_TG := ab_in (tk_8 48 (by decide +kernel)) (by decide +kernel)
theorem tg_1867 : Jvm.Cond.methodLink "SundialTreatyLaw" (178 : Nat) ({ cls := "SundialTreatyModel", name := "byteAt", desc := "(I)I" } : Jvm.MethodName) ∈ ab_TG := ab_in (tk_8 45 (by decide +kernel)) (by decide +kernel)
theorem tg_1869 : Jvm.Cond.selects "SundialTreatyModel" ({ cls := "SundialTreatyModel", name := "byteAt", desc := "(I)I" } : Jvm.MethodName) ({ cls := "SundialTreatyModel", name := "byteAt", desc := "(I)I" } : Jvm.MethodName) ∈ ab_TG := ab_in (tk_8 47 (by decide +kernel)) (by decide +kernel)
theorem tg_995 : Jvm.Cond.instanceMethod ({ cls := "SundialTreaty", name := "drawn", desc := "(II)I" } : Jvm.MethodName) ∈ ab_TG := ab_in (tk_4 133 (by decide +kernel)) (by decide +kernel)
theorem tg_997 : Jvm.Cond.code ({ cls := "SundialTreaty", name := "drawn", desc := "(II)I" } : Jvm.MethodName) prog_1_method_34_code (4 : Nat) (Option.some Jvm.ClassFile.FieldType.int) ∈ ab_TG := ab_in (tk_4 135 (by decide +kernel)) (by decide +kernel)
theorem tg_994 : Jvm.Cond.methodLink "SundialTreatyLaw" (179 : Nat) ({ cls := "SundialTreaty", name := "drawn", desc := "(II)I" } : Jvm.MethodName) ∈ ab_TG := ab_in (tk_4 132 (by decide +kernel)) (by decide +kernel)
theorem tg_996 : Jvm.Cond.selects "SundialTreaty" ({ cls := "SundialTreaty", name := "drawn", desc := "(II)I" } : Jvm.MethodName) ({ cls := "SundialTreaty", name := "drawn", desc := "(II)I" } : Jvm.MethodName) ∈ ab_TG := ab_in (tk_4 134 (by decide +kernel)) (by decide +kernel)
theorem tg_1872 : Jvm.Cond.instanceMethod ({ cls := "SundialTreatyModel", name := "drawn", desc := "(II)I" } : Jvm.MethodName) ∈ ab_TG := ab_in (tk_8 50 (by decide +kernel)) (by decide +kernel)
theorem tg_1874 : Jvm.Cond.code ({ cls := "SundialTreatyModel", name := "drawn", desc := "(II)I" } : Jvm.MethodName) prog_13_method_95_code (3 : Nat) (Option.some Jvm.ClassFile.FieldType.int) ∈ ab_TG := ab_in (tk_8 52 (by decide +kernel)) (by decide +kernel)
theorem tg_1871 : Jvm.Cond.methodLink "SundialTreatyLaw" (182 : Nat) ({ cls := "SundialTreatyModel", name := "drawn", desc := "(II)I" } : Jvm.MethodName) ∈ ab_TG := ab_in (tk_8 49 (by decide +kernel)) (by decide +kernel)
theorem tg_1873 : Jvm.Cond.selects "SundialTreatyModel" ({ cls := "SundialTreatyModel", name := "drawn", desc := "(II)I" } : Jvm.MethodName) ({ cls := "SundialTreatyModel", name := "drawn", desc := "(II)I" } : Jvm.MethodName) ∈ ab_TG := ab_in (tk_8 51 (by decide +kernel)) (by decide +kernel)
theorem tg_1020 : Jvm.Cond.instanceMethod ({ cls := "SundialTreaty", name := "odds", desc := "(III)I" } : Jvm.MethodName) ∈ ab_TG := ab_in (tk_4 158 (by decide +kernel)) (by decide +kernel)
theorem tg_1022 : Jvm.Cond.code ({ cls := "SundialTreaty", name := "odds", desc := "(III)I" } : Jvm.MethodName) prog_1_method_35_code (6 : Nat) (Option.some Jvm.ClassFile.FieldType.int) ∈ ab_TG := ab_in (tk_4 160 (by decide +kernel)) (by decide +kernel)
theorem tg_1019 : Jvm.Cond.methodLink "SundialTreatyLaw" (183 : Nat) ({ cls := "SundialTreaty", name := "odds", desc := "(III)I" } : Jvm.MethodName) ∈ ab_TG := ab_in (tk_4 157 (by decide +kernel)) (by decide +kernel)
theorem tg_1021 : Jvm.Cond.selects "SundialTreaty" ({ cls := "SundialTreaty", name := "odds", desc := "(III)I" } : Jvm.MethodName) ({ cls := "SundialTreaty", name := "odds", desc := "(III)I" } : Jvm.MethodName) ∈ ab_TG := ab_in (tk_4 159 (by decide +kernel)) (by decide +kernel)
theorem tg_1885 : Jvm.Cond.instanceMethod ({ cls := "SundialTreatyModel", name := "odds", desc := "(III)I" } : Jvm.MethodName) ∈ ab_TG := ab_in (tk_8 63 (by decide +kernel)) (by decide +kernel)
theorem tg_1887 : Jvm.Cond.code ({ cls := "SundialTreatyModel", name := "odds", desc := "(III)I" } : Jvm.MethodName) prog_13_method_96_code (6 : Nat) (Option.some Jvm.ClassFile.FieldType.int) ∈ ab_TG := ab_in (tk_8 65 (by decide +kernel)) (by decide +kernel)
theorem tg_1884 : Jvm.Cond.methodLink "SundialTreatyLaw" (186 : Nat) ({ cls := "SundialTreatyModel", name := "odds", desc := "(III)I" } : Jvm.MethodName) ∈ ab_TG := ab_in (tk_8 62 (by decide +kernel)) (by decide +kernel)
theorem tg_1886 : Jvm.Cond.selects "SundialTreatyModel" ({ cls := "SundialTreatyModel", name := "odds", desc := "(III)I" } : Jvm.MethodName) ({ cls := "SundialTreatyModel", name := "odds", desc := "(III)I" } : Jvm.MethodName) ∈ ab_TG := ab_in (tk_8 64 (by decide +kernel)) (by decide +kernel)
theorem tg_1024 : Jvm.Cond.instanceMethod ({ cls := "SundialTreaty", name := "book", desc := "(I)I" } : Jvm.MethodName) ∈ ab_TG := ab_in (tk_4 162 (by decide +kernel)) (by decide +kernel)
theorem tg_1026 : Jvm.Cond.code ({ cls := "SundialTreaty", name := "book", desc := "(I)I" } : Jvm.MethodName) prog_1_method_36_code (3 : Nat) (Option.some Jvm.ClassFile.FieldType.int) ∈ ab_TG := ab_in (tk_4 164 (by decide +kernel)) (by decide +kernel)
theorem tg_1023 : Jvm.Cond.methodLink "SundialTreatyLaw" (187 : Nat) ({ cls := "SundialTreaty", name := "book", desc := "(I)I" } : Jvm.MethodName) ∈ ab_TG := ab_in (tk_4 161 (by decide +kernel)) (by decide +kernel)
theorem tg_1025 : Jvm.Cond.selects "SundialTreaty" ({ cls := "SundialTreaty", name := "book", desc := "(I)I" } : Jvm.MethodName) ({ cls := "SundialTreaty", name := "book", desc := "(I)I" } : Jvm.MethodName) ∈ ab_TG := ab_in (tk_4 163 (by decide +kernel)) (by decide +kernel)
theorem tg_1889 : Jvm.Cond.instanceMethod ({ cls := "SundialTreatyModel", name := "book", desc := "(I)I" } : Jvm.MethodName) ∈ ab_TG := ab_in (tk_8 67 (by decide +kernel)) (by decide +kernel)
theorem tg_1891 : Jvm.Cond.code ({ cls := "SundialTreatyModel", name := "book", desc := "(I)I" } : Jvm.MethodName) prog_13_method_99_code (4 : Nat) (Option.some Jvm.ClassFile.FieldType.int) ∈ ab_TG := ab_in (tk_8 69 (by decide +kernel)) (by decide +kernel)
theorem tg_1888 : Jvm.Cond.methodLink "SundialTreatyLaw" (190 : Nat) ({ cls := "SundialTreatyModel", name := "book", desc := "(I)I" } : Jvm.MethodName) ∈ ab_TG := ab_in (tk_8 66 (by decide +kernel)) (by decide +kernel)
theorem tg_1890 : Jvm.Cond.selects "SundialTreatyModel" ({ cls := "SundialTreatyModel", name := "book", desc := "(I)I" } : Jvm.MethodName) ({ cls := "SundialTreatyModel", name := "book", desc := "(I)I" } : Jvm.MethodName) ∈ ab_TG := ab_in (tk_8 68 (by decide +kernel)) (by decide +kernel)
theorem tg_1074 : Jvm.Cond.instanceMethod ({ cls := "SundialTreaty", name := "told", desc := "(I)I" } : Jvm.MethodName) ∈ ab_TG := ab_in (tk_4 212 (by decide +kernel)) (by decide +kernel)
theorem tg_1076 : Jvm.Cond.code ({ cls := "SundialTreaty", name := "told", desc := "(I)I" } : Jvm.MethodName) prog_1_method_37_code (2 : Nat) (Option.some Jvm.ClassFile.FieldType.int) ∈ ab_TG := ab_in (tk_4 214 (by decide +kernel)) (by decide +kernel)
theorem tg_1073 : Jvm.Cond.methodLink "SundialTreatyLaw" (191 : Nat) ({ cls := "SundialTreaty", name := "told", desc := "(I)I" } : Jvm.MethodName) ∈ ab_TG := ab_in (tk_4 211 (by decide +kernel)) (by decide +kernel)
theorem tg_1075 : Jvm.Cond.selects "SundialTreaty" ({ cls := "SundialTreaty", name := "told", desc := "(I)I" } : Jvm.MethodName) ({ cls := "SundialTreaty", name := "told", desc := "(I)I" } : Jvm.MethodName) ∈ ab_TG := ab_in (tk_4 213 (by decide +kernel)) (by decide +kernel)
theorem tg_1901 : Jvm.Cond.instanceMethod ({ cls := "SundialTreatyModel", name := "told", desc := "(I)I" } : Jvm.MethodName) ∈ ab_TG := ab_in (tk_8 79 (by decide +kernel)) (by decide +kernel)
theorem tg_1903 : Jvm.Cond.code ({ cls := "SundialTreatyModel", name := "told", desc := "(I)I" } : Jvm.MethodName) prog_13_method_100_code (2 : Nat) (Option.some Jvm.ClassFile.FieldType.int) ∈ ab_TG := ab_in (tk_8 81 (by decide +kernel)) (by decide +kernel)
theorem tg_1900 : Jvm.Cond.methodLink "SundialTreatyLaw" (194 : Nat) ({ cls := "SundialTreatyModel", name := "told", desc := "(I)I" } : Jvm.MethodName) ∈ ab_TG := ab_in (tk_8 78 (by decide +kernel)) (by decide +kernel)
theorem tg_1902 : Jvm.Cond.selects "SundialTreatyModel" ({ cls := "SundialTreatyModel", name := "told", desc := "(I)I" } : Jvm.MethodName) ({ cls := "SundialTreatyModel", name := "told", desc := "(I)I" } : Jvm.MethodName) ∈ ab_TG := ab_in (tk_8 80 (by decide +kernel)) (by decide +kernel)
theorem tg_1078 : Jvm.Cond.instanceMethod ({ cls := "SundialTreaty", name := "sentence", desc := "()I" } : Jvm.MethodName) ∈ ab_TG := ab_in (tk_4 216 (by decide +kernel)) (by decide +kernel)
theorem tg_1080 : Jvm.Cond.code ({ cls := "SundialTreaty", name := "sentence", desc := "()I" } : Jvm.MethodName) prog_1_method_38_code (3 : Nat) (Option.some Jvm.ClassFile.FieldType.int) ∈ ab_TG := ab_in (tk_4 218 (by decide +kernel)) (by decide +kernel)
theorem tg_1077 : Jvm.Cond.methodLink "SundialTreatyLaw" (195 : Nat) ({ cls := "SundialTreaty", name := "sentence", desc := "()I" } : Jvm.MethodName) ∈ ab_TG := ab_in (tk_4 215 (by decide +kernel)) (by decide +kernel)
theorem tg_1079 : Jvm.Cond.selects "SundialTreaty" ({ cls := "SundialTreaty", name := "sentence", desc := "()I" } : Jvm.MethodName) ({ cls := "SundialTreaty", name := "sentence", desc := "()I" } : Jvm.MethodName) ∈ ab_TG := ab_in (tk_4 217 (by decide +kernel)) (by decide +kernel)
theorem tg_1905 : Jvm.Cond.instanceMethod ({ cls := "SundialTreatyModel", name := "sentence", desc := "()I" } : Jvm.MethodName) ∈ ab_TG := ab_in (tk_8 83 (by decide +kernel)) (by decide +kernel)
theorem tg_1907 : Jvm.Cond.code ({ cls := "SundialTreatyModel", name := "sentence", desc := "()I" } : Jvm.MethodName) prog_13_method_107_code (3 : Nat) (Option.some Jvm.ClassFile.FieldType.int) ∈ ab_TG := ab_in (tk_8 85 (by decide +kernel)) (by decide +kernel)
theorem tg_1904 : Jvm.Cond.methodLink "SundialTreatyLaw" (198 : Nat) ({ cls := "SundialTreatyModel", name := "sentence", desc := "()I" } : Jvm.MethodName) ∈ ab_TG := ab_in (tk_8 82 (by decide +kernel)) (by decide +kernel)
theorem tg_1906 : Jvm.Cond.selects "SundialTreatyModel" ({ cls := "SundialTreatyModel", name := "sentence", desc := "()I" } : Jvm.MethodName) ({ cls := "SundialTreatyModel", name := "sentence", desc := "()I" } : Jvm.MethodName) ∈ ab_TG := ab_in (tk_8 84 (by decide +kernel)) (by decide +kernel)
theorem tg_1116 : Jvm.Cond.instanceMethod ({ cls := "SundialTreaty", name := "said", desc := "(I)I" } : Jvm.MethodName) ∈ ab_TG := ab_in (tk_5 14 (by decide +kernel)) (by decide +kernel)
theorem tg_1118 : Jvm.Cond.code ({ cls := "SundialTreaty", name := "said", desc := "(I)I" } : Jvm.MethodName) prog_1_method_39_code (4 : Nat) (Option.some Jvm.ClassFile.FieldType.int) ∈ ab_TG := ab_in (tk_5 16 (by decide +kernel)) (by decide +kernel)
theorem tg_1115 : Jvm.Cond.methodLink "SundialTreatyLaw" (199 : Nat) ({ cls := "SundialTreaty", name := "said", desc := "(I)I" } : Jvm.MethodName) ∈ ab_TG := ab_in (tk_5 13 (by decide +kernel)) (by decide +kernel)
theorem tg_1117 : Jvm.Cond.selects "SundialTreaty" ({ cls := "SundialTreaty", name := "said", desc := "(I)I" } : Jvm.MethodName) ({ cls := "SundialTreaty", name := "said", desc := "(I)I" } : Jvm.MethodName) ∈ ab_TG := ab_in (tk_5 15 (by decide +kernel)) (by decide +kernel)
theorem tg_1933 : Jvm.Cond.instanceMethod ({ cls := "SundialTreatyModel", name := "said", desc := "(I)I" } : Jvm.MethodName) ∈ ab_TG := ab_in (tk_8 111 (by decide +kernel)) (by decide +kernel)
theorem tg_1935 : Jvm.Cond.code ({ cls := "SundialTreatyModel", name := "said", desc := "(I)I" } : Jvm.MethodName) prog_13_method_110_code (4 : Nat) (Option.some Jvm.ClassFile.FieldType.int) ∈ ab_TG := ab_in (tk_8 113 (by decide +kernel)) (by decide +kernel)
theorem tg_1932 : Jvm.Cond.methodLink "SundialTreatyLaw" (202 : Nat) ({ cls := "SundialTreatyModel", name := "said", desc := "(I)I" } : Jvm.MethodName) ∈ ab_TG := ab_in (tk_8 110 (by decide +kernel)) (by decide +kernel)
theorem tg_1934 : Jvm.Cond.selects "SundialTreatyModel" ({ cls := "SundialTreatyModel", name := "said", desc := "(I)I" } : Jvm.MethodName) ({ cls := "SundialTreatyModel", name := "said", desc := "(I)I" } : Jvm.MethodName) ∈ ab_TG := ab_in (tk_8 112 (by decide +kernel)) (by decide +kernel)
theorem tg_1137 : Jvm.Cond.instanceMethod ({ cls := "SundialTreaty", name := "image", desc := "(I)Z" } : Jvm.MethodName) ∈ ab_TG := ab_in (tk_5 35 (by decide +kernel)) (by decide +kernel)
theorem tg_1139 : Jvm.Cond.code ({ cls := "SundialTreaty", name := "image", desc := "(I)Z" } : Jvm.MethodName) prog_1_method_40_code (3 : Nat) (Option.some Jvm.ClassFile.FieldType.boolean) ∈ ab_TG := ab_in (tk_5 37 (by decide +kernel)) (by decide +kernel)
theorem tg_1136 : Jvm.Cond.methodLink "SundialTreatyLaw" (203 : Nat) ({ cls := "SundialTreaty", name := "image", desc := "(I)Z" } : Jvm.MethodName) ∈ ab_TG := ab_in (tk_5 34 (by decide +kernel)) (by decide +kernel)
theorem tg_1138 : Jvm.Cond.selects "SundialTreaty" ({ cls := "SundialTreaty", name := "image", desc := "(I)Z" } : Jvm.MethodName) ({ cls := "SundialTreaty", name := "image", desc := "(I)Z" } : Jvm.MethodName) ∈ ab_TG := ab_in (tk_5 36 (by decide +kernel)) (by decide +kernel)
theorem tg_1945 : Jvm.Cond.instanceMethod ({ cls := "SundialTreatyModel", name := "image", desc := "(I)Z" } : Jvm.MethodName) ∈ ab_TG := ab_in (tk_8 123 (by decide +kernel)) (by decide +kernel)
theorem tg_1947 : Jvm.Cond.code ({ cls := "SundialTreatyModel", name := "image", desc := "(I)Z" } : Jvm.MethodName) prog_13_method_111_code (3 : Nat) (Option.some Jvm.ClassFile.FieldType.boolean) ∈ ab_TG := ab_in (tk_8 125 (by decide +kernel)) (by decide +kernel)
theorem tg_1944 : Jvm.Cond.methodLink "SundialTreatyLaw" (206 : Nat) ({ cls := "SundialTreatyModel", name := "image", desc := "(I)Z" } : Jvm.MethodName) ∈ ab_TG := ab_in (tk_8 122 (by decide +kernel)) (by decide +kernel)
theorem tg_1946 : Jvm.Cond.selects "SundialTreatyModel" ({ cls := "SundialTreatyModel", name := "image", desc := "(I)Z" } : Jvm.MethodName) ({ cls := "SundialTreatyModel", name := "image", desc := "(I)Z" } : Jvm.MethodName) ∈ ab_TG := ab_in (tk_8 124 (by decide +kernel)) (by decide +kernel)
theorem tg_1151 : Jvm.Cond.instanceMethod ({ cls := "SundialTreaty", name := "restore", desc := "(I)Z" } : Jvm.MethodName) ∈ ab_TG := ab_in (tk_5 49 (by decide +kernel)) (by decide +kernel)
theorem tg_1153 : Jvm.Cond.code ({ cls := "SundialTreaty", name := "restore", desc := "(I)Z" } : Jvm.MethodName) prog_1_method_41_code (3 : Nat) (Option.some Jvm.ClassFile.FieldType.boolean) ∈ ab_TG := ab_in (tk_5 51 (by decide +kernel)) (by decide +kernel)
theorem tg_1150 : Jvm.Cond.methodLink "SundialTreatyLaw" (207 : Nat) ({ cls := "SundialTreaty", name := "restore", desc := "(I)Z" } : Jvm.MethodName) ∈ ab_TG := ab_in (tk_5 48 (by decide +kernel)) (by decide +kernel)
theorem tg_1152 : Jvm.Cond.selects "SundialTreaty" ({ cls := "SundialTreaty", name := "restore", desc := "(I)Z" } : Jvm.MethodName) ({ cls := "SundialTreaty", name := "restore", desc := "(I)Z" } : Jvm.MethodName) ∈ ab_TG := ab_in (tk_5 50 (by decide +kernel)) (by decide +kernel)
theorem tg_1949 : Jvm.Cond.instanceMethod ({ cls := "SundialTreatyModel", name := "restore", desc := "(I)Z" } : Jvm.MethodName) ∈ ab_TG := ab_in (tk_8 127 (by decide +kernel)) (by decide +kernel)
theorem tg_1951 : Jvm.Cond.code ({ cls := "SundialTreatyModel", name := "restore", desc := "(I)Z" } : Jvm.MethodName) prog_13_method_112_code (3 : Nat) (Option.some Jvm.ClassFile.FieldType.boolean) ∈ ab_TG := ab_in (tk_8 129 (by decide +kernel)) (by decide +kernel)
theorem tg_1948 : Jvm.Cond.methodLink "SundialTreatyLaw" (210 : Nat) ({ cls := "SundialTreatyModel", name := "restore", desc := "(I)Z" } : Jvm.MethodName) ∈ ab_TG := ab_in (tk_8 126 (by decide +kernel)) (by decide +kernel)
theorem tg_1950 : Jvm.Cond.selects "SundialTreatyModel" ({ cls := "SundialTreatyModel", name := "restore", desc := "(I)Z" } : Jvm.MethodName) ({ cls := "SundialTreatyModel", name := "restore", desc := "(I)Z" } : Jvm.MethodName) ∈ ab_TG := ab_in (tk_8 128 (by decide +kernel)) (by decide +kernel)
theorem tg_1155 : Jvm.Cond.instanceMethod ({ cls := "SundialTreaty", name := "count", desc := "(I)I" } : Jvm.MethodName) ∈ ab_TG := ab_in (tk_5 53 (by decide +kernel)) (by decide +kernel)
theorem tg_1157 : Jvm.Cond.code ({ cls := "SundialTreaty", name := "count", desc := "(I)I" } : Jvm.MethodName) prog_1_method_42_code (2 : Nat) (Option.some Jvm.ClassFile.FieldType.int) ∈ ab_TG := ab_in (tk_5 55 (by decide +kernel)) (by decide +kernel)
theorem tg_1154 : Jvm.Cond.methodLink "SundialTreatyLaw" (211 : Nat) ({ cls := "SundialTreaty", name := "count", desc := "(I)I" } : Jvm.MethodName) ∈ ab_TG := ab_in (tk_5 52 (by decide +kernel)) (by decide +kernel)
theorem tg_1156 : Jvm.Cond.selects "SundialTreaty" ({ cls := "SundialTreaty", name := "count", desc := "(I)I" } : Jvm.MethodName) ({ cls := "SundialTreaty", name := "count", desc := "(I)I" } : Jvm.MethodName) ∈ ab_TG := ab_in (tk_5 54 (by decide +kernel)) (by decide +kernel)
theorem tg_1953 : Jvm.Cond.instanceMethod ({ cls := "SundialTreatyModel", name := "count", desc := "(I)I" } : Jvm.MethodName) ∈ ab_TG := ab_in (tk_8 131 (by decide +kernel)) (by decide +kernel)
theorem tg_1955 : Jvm.Cond.code ({ cls := "SundialTreatyModel", name := "count", desc := "(I)I" } : Jvm.MethodName) prog_13_method_113_code (2 : Nat) (Option.some Jvm.ClassFile.FieldType.int) ∈ ab_TG := ab_in (tk_8 133 (by decide +kernel)) (by decide +kernel)
theorem tg_1952 : Jvm.Cond.methodLink "SundialTreatyLaw" (214 : Nat) ({ cls := "SundialTreatyModel", name := "count", desc := "(I)I" } : Jvm.MethodName) ∈ ab_TG := ab_in (tk_8 130 (by decide +kernel)) (by decide +kernel)
theorem tg_1954 : Jvm.Cond.selects "SundialTreatyModel" ({ cls := "SundialTreatyModel", name := "count", desc := "(I)I" } : Jvm.MethodName) ({ cls := "SundialTreatyModel", name := "count", desc := "(I)I" } : Jvm.MethodName) ∈ ab_TG := ab_in (tk_8 132 (by decide +kernel)) (by decide +kernel)
end
section
/-! The methods as tables. -/
def tb_X10_init : ab_tab := [[(0, 0, op_al 0 1), (1, 0, op_oi 4), (4, 0, op_al 0 5), (5, 0, op_new 4 15 [.inr (.inr (0, 0)), .inl (none, 0), .inl (none, 0), .inl (none, 0), .inl (none, 0), .inl (none, 0), .inr (.inl (.inl (none, 0))), .inl (none, 0), .inl (none, 0), .inl (none, 0), .inr (.inl (.inl (none, 0))), .inl (none, 0), .inl (none, 0), .inl (none, 0), .inr (.inr (0, 0))] 141 2556 8), (8, 0, op_dup 9), (9, 0, op_call 6 1 1 2 962 141 2556 12), (12, 0, op_pf (tyX10 0) 10 0 15), (15, 0, op_al 0 16)],
  [(16, 0, op_new 9 1 [.inr (.inr (0, 0))] 141 2556 19), (19, 0, op_dup 20), (20, 0, op_call 11 9 1 1 3 141 2556 23), (23, 0, op_pf (tyX10 1) 10 1 26), (26, 0, op_al 0 27), (27, 0, op_new 8 16 [.inl (none, 0), .inr (.inr (0, 0)), .inr (.inr (0, 0)), .inr (.inr (0, 0)), .inl (none, 0), .inr (.inr (0, 0)), .inr (.inr (0, 0)), .inr (.inr (0, 0)), .inr (.inr (0, 0)), .inl (none, 0), .inr (.inr (0, 0)), .inr (.inr (0, 0)), .inr (.inr (0, 0)), .inr (.inr (0, 0)), .inr (.inr (0, 0)), .inr (.inr (0, 0))] 141 2556 30), (30, 0, op_dup 31), (31, 0, op_call 10 10 1 13 112 141 2556 34)],
  [(34, 0, op_pf (tyX10 2) 10 2 37), (37, 0, op_al 0 38), (38, 0, op_new 8 16 [.inl (none, 0), .inr (.inr (0, 0)), .inr (.inr (0, 0)), .inr (.inr (0, 0)), .inl (none, 0), .inr (.inr (0, 0)), .inr (.inr (0, 0)), .inr (.inr (0, 0)), .inr (.inr (0, 0)), .inl (none, 0), .inr (.inr (0, 0)), .inr (.inr (0, 0)), .inr (.inr (0, 0)), .inr (.inr (0, 0)), .inr (.inr (0, 0)), .inr (.inr (0, 0))] 141 2556 41), (41, 0, op_dup 42), (42, 0, op_call 10 10 1 13 112 141 2556 45), (45, 0, op_pf (tyX10 3) 10 3 48)],
  [(48, 0, op_al 0 49), (49, 0, op_new 7 7 [.inl (none, 0), .inl (none, 0), .inl (none, 0), .inr (.inr (0, 0)), .inr (.inr (0, 0)), .inr (.inr (0, 0)), .inl (none, 0)] 141 2556 52), (52, 0, op_dup 53), (53, 0, op_call 9 11 1 3 21 141 2556 56), (56, 0, op_pf (tyX10 4) 10 4 59), (59, 0, op_al 0 60), (60, 0, op_new 7 7 [.inl (none, 0), .inl (none, 0), .inl (none, 0), .inr (.inr (0, 0)), .inr (.inr (0, 0)), .inr (.inr (0, 0)), .inl (none, 0)] 141 2556 63), (63, 0, op_dup 64)],
  [(64, 0, op_call 9 11 1 3 21 141 2556 67), (67, 0, op_pf (tyX10 5) 10 5 70), (70, 0, op_al 0 71), (71, 0, op_new 1 2 [.inr (.inr (0, 0)), .inl (none, 0)] 141 2556 74), (74, 0, op_dup 75), (75, 0, op_call 3 12 1 33 232 141 2556 78), (78, 0, op_pf (tyX10 6) 10 6 81)],
  [(81, 0, op_al 0 82), (82, 0, op_new 6 5 [.inr (.inr (0, 0)), .inr (.inr (0, 0)), .inr (.inr (0, 0)), .inl (none, 0), .inl (none, 0)] 141 2556 85), (85, 0, op_dup 86), (86, 0, op_call 8 13 1 3 120 141 2556 89), (89, 0, op_pf (tyX10 7) 10 7 92), (92, 0, op_al 0 93), (93, 0, op_new 6 5 [.inr (.inr (0, 0)), .inr (.inr (0, 0)), .inr (.inr (0, 0)), .inl (none, 0), .inl (none, 0)] 141 2556 96)],
  [(96, 0, op_dup 97), (97, 0, op_call 8 13 1 3 120 141 2556 100), (100, 0, op_pf (tyX10 8) 10 8 103), (103, 0, op_al 0 104), (104, 0, op_new 0 10 [.inr (.inr (0, 0)), .inr (.inr (0, 0)), .inr (.inr (0, 0)), .inl (none, 0), .inl (none, 0), .inl (none, 0), .inl (none, 0), .inl (none, 0), .inl (none, 0), .inl (none, 0)] 141 2556 107), (107, 0, op_dup 108), (108, 0, op_call 2 14 1 3 120 141 2556 111), (111, 0, op_pf (tyX10 9) 10 9 114)],
  [(114, 0, op_al 0 115), (115, 0, op_new 5 5 [.inr (.inr (0, 0)), .inr (.inr (0, 0)), .inl (none, 0), .inl (none, 0), .inl (none, 0)] 141 2556 118), (118, 0, op_dup 119), (119, 0, op_call 7 15 1 2 16 141 2556 122), (122, 0, op_pf (tyX10 10) 10 10 125), (125, 0, op_al 0 126), (126, 0, op_new 3 2 [.inr (.inr (0, 0)), .inl (none, 0)] 141 2556 129)],
  [(129, 0, op_dup 130), (130, 0, op_call 5 16 1 1 40 141 2556 133), (133, 0, op_pf (tyX10 11) 10 11 136), (136, 0, op_al 0 137), (137, 0, op_push (.inl (none, 2)) 138), (138, 0, op_na 6 (.inr (.inr (0, 0))) 141 2556 141), (141, 0, op_dup 142), (142, 0, op_push (.inl (none, 0)) 143), (143, 0, op_new 2 4 [.inr (.inr (0, 0)), .inr (.inr (0, 0)), .inr (.inr (0, 0)), .inl (none, 0)] 141 2556 146)],
  [(146, 0, op_dup 147), (147, 0, op_call 4 17 1 22 281 141 2556 150), (150, 0, op_aast 2 151), (151, 0, op_dup 152), (152, 0, op_push (.inl (none, 1)) 153), (153, 0, op_new 2 4 [.inr (.inr (0, 0)), .inr (.inr (0, 0)), .inr (.inr (0, 0)), .inl (none, 0)] 141 2556 156), (156, 0, op_dup 157), (157, 0, op_call 4 17 1 22 281 141 2556 160)],
  [(160, 0, op_aast 2 161), (161, 0, op_pf (tyX10 12) 10 12 164), (164, 0, op_al 0 165), (165, 0, op_push (.inl (none, 7)) 167), (167, 0, op_na 0 (.inl (none, 0)) 141 2556 169), (169, 0, op_pf (tyX10 13) 10 13 172), (172, 0, op_al 0 173), (173, 0, op_push (.inl (none, (-1))) 174), (174, 0, op_pf (tyX10 14) 10 14 177)],
  [(177, 0, op_al 0 178), (178, 0, op_push (.inl (none, 7)) 180), (180, 0, op_na 0 (.inl (none, 0)) 141 2556 182), (182, 0, op_pf (tyX10 15) 10 15 185), (185, 0, op_al 0 186), (186, 0, op_push (.inl (none, (-1))) 187), (187, 0, op_pf (tyX10 16) 10 16 190), (190, 2, op_goto 0)]]
def tb_X4_init : ab_tab := [[(0, 0, op_al 0 1), (1, 0, op_oi 4), (4, 0, op_al 0 5), (5, 0, op_push (.inl (none, 940)) 8), (8, 0, op_na 0 (.inl (none, 0)) 2 962 10), (10, 0, op_pf (tyX4 0) 4 0 13), (13, 0, op_al 0 14), (14, 0, op_push (.inl (none, 0)) 15), (15, 0, op_pf (tyX4 1) 4 1 18)],
  [(18, 0, op_al 0 19), (19, 0, op_push (.inl (none, 0)) 20), (20, 0, op_pf (tyX4 2) 4 2 23), (23, 0, op_al 0 24), (24, 0, op_push (.inl (none, 0)) 25), (25, 0, op_pf (tyX4 3) 4 3 28), (28, 0, op_al 0 29), (29, 0, op_push (.inl (none, 0)) 30), (30, 0, op_pf (tyX4 4) 4 4 33)],
  [(33, 0, op_al 0 34), (34, 0, op_push (.inl (none, 0)) 35), (35, 0, op_pf (tyX4 5) 4 5 38), (38, 0, op_al 0 39), (39, 0, op_push (.inr (.inl (.inl (none, 0)))) 40), (40, 0, op_pf (tyX4 6) 4 6 43), (43, 0, op_al 0 44), (44, 0, op_push (.inl (none, 0)) 45), (45, 0, op_pf (tyX4 7) 4 7 48)],
  [(48, 0, op_al 0 49), (49, 0, op_push (.inl (none, (-1))) 50), (50, 0, op_pf (tyX4 8) 4 8 53), (53, 0, op_al 0 54), (54, 0, op_push (.inl (none, 0)) 55), (55, 0, op_pf (tyX4 9) 4 9 58), (58, 0, op_al 0 59), (59, 0, op_push (.inr (.inl (.inl (none, 0)))) 60), (60, 0, op_pf (tyX4 10) 4 10 63), (63, 0, op_al 0 64)],
  [(64, 0, op_push (.inl (none, 1)) 65), (65, 0, op_pf (tyX4 11) 4 11 68), (68, 0, op_al 0 69), (69, 0, op_push (.inl (none, 0)) 70), (70, 0, op_pf (tyX4 12) 4 12 73), (73, 0, op_al 0 74), (74, 0, op_push (.inl (none, 0)) 75), (75, 0, op_pf (tyX4 13) 4 13 78), (78, 0, op_al 0 79), (79, 0, op_push (.inl (none, 22)) 81)],
  [(81, 0, op_na 1 (.inr (.inl (.inl (none, 0)))) 2 962 83), (83, 0, op_pf (tyX4 14) 4 14 86), (86, 0, op_push (.inl (none, 0)) 87), (87, 0, op_is 1 88), (88, 0, op_push (.inl (none, 0)) 89), (89, 0, op_is 2 90), (90, 0, op_il 2 91), (91, 0, op_push (.inr (.inr (3, 0))) 93), (93, 0, op_call 1 2 1 0 0 2 962 96)],
  [(96, 0, op_icmp 3 154 99), (99, 0, op_il 1 100), (100, 0, op_al 0 101), (101, 0, op_gf 4 14 104), (104, 0, op_len 105), (105, 0, op_icmp 3 154 108), (108, 0, op_push (.inr (.inr (3, 0))) 110), (110, 0, op_il 2 111), (111, 0, op_call 1 4 2 0 0 2 962 114)],
  [(114, 0, op_push (.inl (none, 32)) 116), (116, 0, op_icmp 1 125 119), (119, 0, op_inc 1 1 122), (122, 0, op_goto 148), (125, 0, op_al 0 126), (126, 0, op_gf 4 14 129)],
  [(129, 0, op_il 1 130), (130, 0, op_al 0 131), (131, 0, op_gf 4 14 134), (134, 0, op_il 1 135), (135, 0, op_ald 1 136), (136, 0, op_push (.inl (none, 8)) 138), (138, 0, op_lsh 139), (139, 0, op_push (.inr (.inr (3, 0))) 141), (141, 0, op_il 2 142), (142, 0, op_call 1 4 2 0 0 2 962 145)],
  [(145, 0, op_i2l 146), (146, 0, op_l2 147), (147, 0, op_ast 1 148), (148, 0, op_inc 2 1 151), (151, 0, op_goto 90), (154, 2, op_goto 0)]]
def tb_J0_length_8abf5 : ab_tab := [[(0, 0, op_al 0 1), (1, 0, op_gval 4), (4, 0, op_tlen 5), (5, 0, op_al 0 6), (6, 0, op_call 1 3 1 0 0 0 0 9), (9, 0, op_b2 (ab_binK (fun u v => u >>> (v &&& 31))) 10), (10, 1, op_goto 0)]]
def tb_J0_coder_7d493 : ab_tab := [[(0, 0, op_push (.inl (none, 1)) 3), (3, 0, op_if 0 13 6), (6, 0, op_al 0 7), (7, 0, op_gcod 10), (10, 0, op_goto 14), (14, 1, op_goto 0)]]
def tb_J0_charAt_5068e : ab_tab := [[(0, 0, op_al 0 1), (1, 0, op_call 1 5 1 0 0 0 0 4), (4, 0, op_if 0 16 7), (7, 0, op_al 0 8), (8, 0, op_gval 11), (11, 0, op_il 1 12), (12, 0, op_call 0 6 2 0 0 0 0 15), (15, 1, op_goto 0)],
  [(24, 1, op_goto 0)]]
def tb_J0_isLatin1_aae02 : ab_tab := [[(0, 0, op_push (.inl (none, 1)) 3), (3, 0, op_if 0 17 6), (6, 0, op_al 0 7), (7, 0, op_gcod 10), (10, 0, op_if 1 17 13), (13, 0, op_push (.inl (none, 1)) 14), (14, 0, op_goto 18)],
  [(18, 1, op_goto 0)]]
def tb_J1_charAt_3b067 : ab_tab := [[(0, 0, op_il 1 1), (1, 0, op_al 0 2), (2, 0, op_tlen 3), (3, 0, op_call 0 7 2 0 0 0 0 6), (6, 0, op_al 0 7), (7, 0, op_il 1 8), (8, 0, op_tb 9), (9, 0, op_push (.inl (none, 255)) 12), (12, 0, op_b2 (ab_andK) 13), (13, 0, op_cv 0 65535 14), (14, 1, op_goto 0)]]
def tb_J0_checkIndex_df160 : ab_tab := [[(0, 0, op_il 0 1), (1, 0, op_il 1 2), (2, 0, op_push (.inr (.inr (6, 0))) 5), (5, 0, op_call 0 8 3 0 0 0 0 8), (8, 0, op_pop 9), (9, 2, op_goto 0)]]
def tb_J3_checkIndex_8e157 : ab_tab := [[(0, 0, op_il 0 1), (1, 0, op_if 2 9 4), (4, 0, op_il 0 5), (5, 0, op_il 1 6), (6, 0, op_icmp 2 16 9)],
  [(16, 0, op_il 0 17), (17, 1, op_goto 0)]]
def tb_X9_init : ab_tab := [[(0, 0, op_al 0 1), (1, 0, op_oi 4), (4, 0, op_al 0 5), (5, 0, op_push (.inr (.inr (5, 0))) 8), (8, 0, op_hlen 9), (9, 0, op_na 3 (.inl (none, 0)) 1 3 11), (11, 0, op_pf (tyX9 0) 9 0 14), (14, 2, op_goto 0)]]
def tb_X8_init : ab_tab := [[(0, 0, op_al 0 1), (1, 0, op_oi 4), (4, 0, op_al 0 5), (5, 0, op_push (.inl (none, 0)) 6), (6, 0, op_pf (tyX8 0) 8 0 9), (9, 0, op_al 0 10), (10, 0, op_push (.inl (none, 7)) 12), (12, 0, op_na 1 (.inr (.inl (.inl (none, 0)))) 13 112 14), (14, 0, op_pf (tyX8 1) 8 1 17)],
  [(17, 0, op_al 0 18), (18, 0, op_push (.inl (none, 7)) 20), (20, 0, op_na 0 (.inl (none, 0)) 13 112 22), (22, 0, op_pf (tyX8 2) 8 2 25), (25, 0, op_al 0 26), (26, 0, op_push (.inl (none, 7)) 28), (28, 0, op_na 0 (.inl (none, 0)) 13 112 30), (30, 0, op_pf (tyX8 3) 8 3 33)],
  [(33, 0, op_al 0 34), (34, 0, op_push (.inl (none, 0)) 35), (35, 0, op_pf (tyX8 4) 8 4 38), (38, 0, op_al 0 39), (39, 0, op_push (.inl (none, 12)) 41), (41, 0, op_na 0 (.inl (none, 0)) 13 112 43), (43, 0, op_pf (tyX8 5) 8 5 46), (46, 0, op_al 0 47), (47, 0, op_push (.inl (none, 12)) 49)],
  [(49, 0, op_na 0 (.inl (none, 0)) 13 112 51), (51, 0, op_pf (tyX8 6) 8 6 54), (54, 0, op_al 0 55), (55, 0, op_push (.inl (none, 12)) 57), (57, 0, op_na 0 (.inl (none, 0)) 13 112 59), (59, 0, op_pf (tyX8 7) 8 7 62), (62, 0, op_al 0 63), (63, 0, op_push (.inl (none, 12)) 65)],
  [(65, 0, op_na 0 (.inl (none, 0)) 13 112 67), (67, 0, op_pf (tyX8 8) 8 8 70), (70, 0, op_al 0 71), (71, 0, op_push (.inl (none, 0)) 72), (72, 0, op_pf (tyX8 9) 8 9 75), (75, 0, op_al 0 76), (76, 0, op_push (.inl (none, 8)) 78), (78, 0, op_na 1 (.inr (.inl (.inl (none, 0)))) 13 112 80)],
  [(80, 0, op_pf (tyX8 10) 8 10 83), (83, 0, op_al 0 84), (84, 0, op_push (.inl (none, 8)) 86), (86, 0, op_na 0 (.inl (none, 0)) 13 112 88), (88, 0, op_pf (tyX8 11) 8 11 91), (91, 0, op_al 0 92), (92, 0, op_push (.inl (none, 8)) 94), (94, 0, op_na 0 (.inl (none, 0)) 13 112 96)],
  [(96, 0, op_pf (tyX8 12) 8 12 99), (99, 0, op_al 0 100), (100, 0, op_push (.inl (none, 8)) 102), (102, 0, op_na 0 (.inl (none, 0)) 13 112 104), (104, 0, op_pf (tyX8 13) 8 13 107), (107, 0, op_al 0 108), (108, 0, op_push (.inl (none, 8)) 110), (110, 0, op_na 0 (.inl (none, 0)) 13 112 112)],
  [(112, 0, op_pf (tyX8 14) 8 14 115), (115, 0, op_al 0 116), (116, 0, op_push (.inl (none, 3)) 117), (117, 0, op_na 0 (.inl (none, 0)) 13 112 119), (119, 0, op_dup 120), (120, 0, op_push (.inl (none, 0)) 121), (121, 0, op_push (.inl (none, 3)) 122), (122, 0, op_ast 0 123), (123, 0, op_dup 124), (124, 0, op_push (.inl (none, 1)) 125), (125, 0, op_push (.inl (none, 2)) 126), (126, 0, op_ast 0 127), (127, 0, op_dup 128)],
  [(128, 0, op_push (.inl (none, 2)) 129), (129, 0, op_push (.inl (none, 1)) 130), (130, 0, op_ast 0 131), (131, 0, op_pf (tyX8 15) 8 15 134), (134, 2, op_goto 0)]]
def tb_X7_init : ab_tab := [[(0, 0, op_al 0 1), (1, 0, op_oi 4), (4, 0, op_al 0 5), (5, 0, op_push (.inl (none, 0)) 6), (6, 0, op_pf (tyX7 0) 7 0 9), (9, 0, op_al 0 10), (10, 0, op_push (.inl (none, 0)) 11), (11, 0, op_pf (tyX7 1) 7 1 14), (14, 0, op_al 0 15), (15, 0, op_push (.inl (none, 0)) 16)],
  [(16, 0, op_pf (tyX7 2) 7 2 19), (19, 0, op_al 0 20), (20, 0, op_push (.inl (none, 7)) 22), (22, 0, op_na 0 (.inl (none, 0)) 3 21 24), (24, 0, op_pf (tyX7 3) 7 3 27), (27, 0, op_al 0 28), (28, 0, op_push (.inl (none, 7)) 30), (30, 0, op_na 0 (.inl (none, 0)) 3 21 32)],
  [(32, 0, op_pf (tyX7 4) 7 4 35), (35, 0, op_al 0 36), (36, 0, op_push (.inl (none, 7)) 38), (38, 0, op_na 0 (.inl (none, 0)) 3 21 40), (40, 0, op_pf (tyX7 5) 7 5 43), (43, 0, op_al 0 44), (44, 0, op_push (.inl (none, 0)) 45), (45, 0, op_pf (tyX7 6) 7 6 48)],
  [(48, 2, op_goto 0)]]
def tb_X1_init : ab_tab := [[(0, 0, op_al 0 1), (1, 0, op_oi 4), (4, 0, op_al 0 5), (5, 0, op_push (.inl (none, 8)) 7), (7, 0, op_na 11 (.inr (.inr (0, 0))) 33 232 10), (10, 0, op_pf (tyX1 0) 1 0 13), (13, 0, op_al 0 14), (14, 0, op_push (.inl (none, 0)) 15), (15, 0, op_pf (tyX1 1) 1 1 18)],
  [(18, 0, op_push (.inl (none, 0)) 19), (19, 0, op_is 1 20), (20, 0, op_il 1 21), (21, 0, op_push (.inl (none, 8)) 23), (23, 0, op_icmp 3 45 26), (26, 0, op_al 0 27), (27, 0, op_gf 1 0 30), (30, 0, op_il 1 31), (31, 0, op_new 7 7 [.inl (none, 0), .inl (none, 0), .inl (none, 0), .inr (.inr (0, 0)), .inr (.inr (0, 0)), .inr (.inr (0, 0)), .inl (none, 0)] 33 232 34)],
  [(34, 0, op_dup 35), (35, 0, op_call 9 11 1 3 21 33 232 38), (38, 0, op_aast 7 39), (39, 0, op_inc 1 1 42), (42, 0, op_goto 20), (45, 2, op_goto 0)]]
def tb_X6_init : ab_tab := [[(0, 0, op_al 0 1), (1, 0, op_oi 4), (4, 0, op_al 0 5), (5, 0, op_push (.inl (none, 40)) 7), (7, 0, op_na 0 (.inl (none, 0)) 3 120 9), (9, 0, op_pf (tyX6 0) 6 0 12), (12, 0, op_al 0 13), (13, 0, op_push (.inl (none, 40)) 15), (15, 0, op_na 0 (.inl (none, 0)) 3 120 17)],
  [(17, 0, op_pf (tyX6 1) 6 1 20), (20, 0, op_al 0 21), (21, 0, op_push (.inl (none, 40)) 23), (23, 0, op_na 0 (.inl (none, 0)) 3 120 25), (25, 0, op_pf (tyX6 2) 6 2 28), (28, 0, op_al 0 29), (29, 0, op_push (.inl (none, 0)) 30), (30, 0, op_pf (tyX6 3) 6 3 33)],
  [(33, 0, op_al 0 34), (34, 0, op_push (.inl (none, 0)) 35), (35, 0, op_pf (tyX6 4) 6 4 38), (38, 2, op_goto 0)]]
def tb_X0_init : ab_tab := [[(0, 0, op_al 0 1), (1, 0, op_oi 4), (4, 0, op_al 0 5), (5, 0, op_push (.inl (none, 40)) 7), (7, 0, op_na 0 (.inl (none, 0)) 3 120 9), (9, 0, op_pf (tyX0 0) 0 0 12), (12, 0, op_al 0 13), (13, 0, op_push (.inl (none, 40)) 15), (15, 0, op_na 0 (.inl (none, 0)) 3 120 17)],
  [(17, 0, op_pf (tyX0 1) 0 1 20), (20, 0, op_al 0 21), (21, 0, op_push (.inl (none, 40)) 23), (23, 0, op_na 0 (.inl (none, 0)) 3 120 25), (25, 0, op_pf (tyX0 2) 0 2 28), (28, 0, op_al 0 29), (29, 0, op_push (.inl (none, 0)) 30), (30, 0, op_pf (tyX0 3) 0 3 33)],
  [(33, 0, op_al 0 34), (34, 0, op_push (.inl (none, 0)) 35), (35, 0, op_pf (tyX0 4) 0 4 38), (38, 0, op_al 0 39), (39, 0, op_push (.inl (none, (-1))) 40), (40, 0, op_pf (tyX0 5) 0 5 43), (43, 0, op_al 0 44), (44, 0, op_push (.inl (none, 0)) 45), (45, 0, op_pf (tyX0 6) 0 6 48)],
  [(48, 0, op_al 0 49), (49, 0, op_push (.inl (none, 0)) 50), (50, 0, op_pf (tyX0 7) 0 7 53), (53, 0, op_al 0 54), (54, 0, op_push (.inl (none, 0)) 55), (55, 0, op_pf (tyX0 8) 0 8 58), (58, 0, op_al 0 59), (59, 0, op_push (.inl (none, 0)) 60), (60, 0, op_pf (tyX0 9) 0 9 63), (63, 2, op_goto 0)]]
def tb_X5_init : ab_tab := [[(0, 0, op_al 0 1), (1, 0, op_oi 4), (4, 0, op_al 0 5), (5, 0, op_push (.inl (none, 8)) 7), (7, 0, op_na 0 (.inl (none, 0)) 2 16 9), (9, 0, op_pf (tyX5 0) 5 0 12), (12, 0, op_al 0 13), (13, 0, op_push (.inl (none, 8)) 15), (15, 0, op_na 0 (.inl (none, 0)) 2 16 17)],
  [(17, 0, op_pf (tyX5 1) 5 1 20), (20, 0, op_al 0 21), (21, 0, op_push (.inl (none, 0)) 22), (22, 0, op_pf (tyX5 2) 5 2 25), (25, 0, op_al 0 26), (26, 0, op_push (.inl (none, (-1))) 27), (27, 0, op_pf (tyX5 3) 5 3 30), (30, 0, op_al 0 31), (31, 0, op_push (.inl (none, (-1))) 32)],
  [(32, 0, op_pf (tyX5 4) 5 4 35), (35, 2, op_goto 0)]]
def tb_X3_init : ab_tab := [[(0, 0, op_al 0 1), (1, 0, op_oi 4), (4, 0, op_al 0 5), (5, 0, op_push (.inl (none, 40)) 7), (7, 0, op_na 0 (.inl (none, 0)) 1 40 9), (9, 0, op_pf (tyX3 0) 3 0 12), (12, 0, op_al 0 13), (13, 0, op_push (.inl (none, 0)) 14), (14, 0, op_pf (tyX3 1) 3 1 17)],
  [(17, 2, op_goto 0)]]
def tb_X2_init : ab_tab := [[(0, 0, op_al 0 1), (1, 0, op_oi 4), (4, 0, op_al 0 5), (5, 0, op_new 8 16 [.inl (none, 0), .inr (.inr (0, 0)), .inr (.inr (0, 0)), .inr (.inr (0, 0)), .inl (none, 0), .inr (.inr (0, 0)), .inr (.inr (0, 0)), .inr (.inr (0, 0)), .inr (.inr (0, 0)), .inl (none, 0), .inr (.inr (0, 0)), .inr (.inr (0, 0)), .inr (.inr (0, 0)), .inr (.inr (0, 0)), .inr (.inr (0, 0)), .inr (.inr (0, 0))] 22 281 8), (8, 0, op_dup 9), (9, 0, op_call 10 10 1 13 112 22 281 12), (12, 0, op_pf (tyX2 0) 2 0 15), (15, 0, op_al 0 16)],
  [(16, 0, op_new 7 7 [.inl (none, 0), .inl (none, 0), .inl (none, 0), .inr (.inr (0, 0)), .inr (.inr (0, 0)), .inr (.inr (0, 0)), .inl (none, 0)] 22 281 19), (19, 0, op_dup 20), (20, 0, op_call 9 11 1 3 21 22 281 23), (23, 0, op_pf (tyX2 1) 2 1 26), (26, 0, op_al 0 27), (27, 0, op_new 6 5 [.inr (.inr (0, 0)), .inr (.inr (0, 0)), .inr (.inr (0, 0)), .inl (none, 0), .inl (none, 0)] 22 281 30), (30, 0, op_dup 31), (31, 0, op_call 8 13 1 3 120 22 281 34)],
  [(34, 0, op_pf (tyX2 2) 2 2 37), (37, 0, op_al 0 38), (38, 0, op_push (.inl (none, 0)) 39), (39, 0, op_pf (tyX2 3) 2 3 42), (42, 2, op_goto 0)]]
def tb_X11_init : ab_tab := [[(0, 0, op_al 0 1), (1, 0, op_oi 4), (4, 0, op_al 0 5), (5, 0, op_push (.inl (none, 940)) 8), (8, 0, op_na 2 (.inl (none, 0)) 23 2596 10), (10, 0, op_pf (tyX11 1) 11 1 13), (13, 0, op_al 0 14), (14, 0, op_push (.inl (none, 305)) 17)],
  [(17, 0, op_na 0 (.inl (none, 0)) 23 2596 19), (19, 0, op_pf (tyX11 6) 11 6 22), (22, 0, op_al 0 23), (23, 0, op_push (.inl (none, 100)) 25), (25, 0, op_na 0 (.inl (none, 0)) 23 2596 27), (27, 0, op_pf (tyX11 7) 11 7 30), (30, 0, op_al 0 31), (31, 0, op_push (.inl (none, 135)) 34)],
  [(34, 0, op_na 0 (.inl (none, 0)) 23 2596 36), (36, 0, op_pf (tyX11 8) 11 8 39), (39, 0, op_al 0 40), (40, 0, op_push (.inl (none, 30)) 42), (42, 0, op_na 1 (.inr (.inl (.inl (none, 0)))) 23 2596 44), (44, 0, op_pf (tyX11 9) 11 9 47), (47, 0, op_al 0 48)],
  [(48, 0, op_push (.inl (none, 22)) 50), (50, 0, op_na 1 (.inr (.inl (.inl (none, 0)))) 23 2596 52), (52, 0, op_pf (tyX11 10) 11 10 55), (55, 0, op_al 0 56), (56, 0, op_push (.inl (none, 192)) 59), (59, 0, op_na 0 (.inl (none, 0)) 23 2596 61), (61, 0, op_pf (tyX11 21) 11 21 64)],
  [(64, 0, op_al 0 65), (65, 0, op_push (.inl (none, 24)) 67), (67, 0, op_na 0 (.inl (none, 0)) 23 2596 69), (69, 0, op_pf (tyX11 22) 11 22 72), (72, 0, op_al 0 73), (73, 0, op_push (.inl (none, 7)) 75), (75, 0, op_na 0 (.inl (none, 0)) 23 2596 77), (77, 0, op_pf (tyX11 24) 11 24 80)],
  [(80, 0, op_al 0 81), (81, 0, op_push (.inl (none, 7)) 83), (83, 0, op_na 0 (.inl (none, 0)) 23 2596 85), (85, 0, op_pf (tyX11 25) 11 25 88), (88, 0, op_al 0 89), (89, 0, op_push (.inl (none, 7)) 91), (91, 0, op_na 0 (.inl (none, 0)) 23 2596 93), (93, 0, op_pf (tyX11 26) 11 26 96)],
  [(96, 0, op_al 0 97), (97, 0, op_push (.inl (none, (-1))) 98), (98, 0, op_pf (tyX11 27) 11 27 101), (101, 0, op_al 0 102), (102, 0, op_push (.inl (none, (-1))) 103), (103, 0, op_pf (tyX11 28) 11 28 106), (106, 0, op_al 0 107), (107, 0, op_push (.inl (none, 9)) 109), (109, 0, op_na 0 (.inl (none, 0)) 23 2596 111), (111, 0, op_pf (tyX11 29) 11 29 114)],
  [(114, 0, op_al 0 115), (115, 0, op_push (.inl (none, 9)) 117), (117, 0, op_na 0 (.inl (none, 0)) 23 2596 119), (119, 0, op_pf (tyX11 30) 11 30 122), (122, 0, op_al 0 123), (123, 0, op_push (.inl (none, 9)) 125), (125, 0, op_na 0 (.inl (none, 0)) 23 2596 127), (127, 0, op_pf (tyX11 31) 11 31 130)],
  [(130, 0, op_al 0 131), (131, 0, op_push (.inl (none, 8)) 133), (133, 0, op_na 0 (.inl (none, 0)) 23 2596 135), (135, 0, op_pf (tyX11 32) 11 32 138), (138, 0, op_al 0 139), (139, 0, op_push (.inl (none, 8)) 141), (141, 0, op_na 0 (.inl (none, 0)) 23 2596 143), (143, 0, op_pf (tyX11 33) 11 33 146)],
  [(146, 0, op_al 0 147), (147, 0, op_push (.inl (none, (-1))) 148), (148, 0, op_pf (tyX11 34) 11 34 151), (151, 0, op_al 0 152), (152, 0, op_push (.inl (none, 48)) 154), (154, 0, op_na 2 (.inl (none, 0)) 23 2596 156), (156, 0, op_pf (tyX11 35) 11 35 159), (159, 0, op_al 0 160)],
  [(160, 0, op_push (.inl (none, 4)) 161), (161, 0, op_na 0 (.inl (none, 0)) 23 2596 163), (163, 0, op_pf (tyX11 39) 11 39 166), (166, 0, op_al 0 167), (167, 0, op_push (.inl (none, 45)) 169), (169, 0, op_na 0 (.inl (none, 0)) 23 2596 171), (171, 0, op_pf (tyX11 41) 11 41 174), (174, 0, op_al 0 175), (175, 0, op_push (.inl (none, 45)) 177)],
  [(177, 0, op_na 3 (.inl (none, 0)) 23 2596 179), (179, 0, op_pf (tyX11 47) 11 47 182), (182, 0, op_al 0 183), (183, 0, op_push (.inl (none, 610)) 186), (186, 0, op_na 0 (.inl (none, 0)) 23 2596 188), (188, 0, op_pf (tyX11 48) 11 48 191), (191, 0, op_al 0 192)],
  [(192, 0, op_push (.inl (none, 30)) 194), (194, 0, op_na 1 (.inr (.inl (.inl (none, 0)))) 23 2596 196), (196, 0, op_pf (tyX11 49) 11 49 199), (199, 0, op_al 0 200), (200, 0, op_push (.inl (none, 2)) 201), (201, 0, op_na 3 (.inl (none, 0)) 23 2596 203), (203, 0, op_pf (tyX11 50) 11 50 206), (206, 0, op_al 0 207), (207, 0, op_gf 11 10 210)],
  [(210, 0, op_push (.inl (none, 0)) 211), (211, 0, op_lfr 214), (214, 0, op_ast 1 215), (215, 0, op_al 0 216), (216, 0, op_gf 11 10 219), (219, 0, op_push (.inl (none, 1)) 220), (220, 0, op_lfr 223), (223, 0, op_ast 1 224)],
  [(224, 0, op_al 0 225), (225, 0, op_gf 11 10 228), (228, 0, op_push (.inl (none, 2)) 229), (229, 0, op_lfr 232), (232, 0, op_ast 1 233), (233, 0, op_al 0 234), (234, 0, op_gf 11 10 237), (237, 0, op_push (.inl (none, 3)) 238), (238, 0, op_lfr 241)],
  [(241, 0, op_ast 1 242), (242, 0, op_al 0 243), (243, 0, op_gf 11 10 246), (246, 0, op_push (.inl (none, 4)) 247), (247, 0, op_lfr 250), (250, 0, op_ast 1 251), (251, 0, op_al 0 252), (252, 0, op_gf 11 10 255), (255, 0, op_push (.inl (none, 5)) 256)],
  [(256, 0, op_lfr 259), (259, 0, op_ast 1 260), (260, 0, op_al 0 261), (261, 0, op_gf 11 10 264), (264, 0, op_push (.inl (none, 6)) 266), (266, 0, op_lfr 269), (269, 0, op_ast 1 270), (270, 0, op_al 0 271), (271, 0, op_gf 11 10 274)],
  [(274, 0, op_push (.inl (none, 7)) 276), (276, 0, op_lfr 279), (279, 0, op_ast 1 280), (280, 0, op_al 0 281), (281, 0, op_gf 11 10 284), (284, 0, op_push (.inl (none, 8)) 286), (286, 0, op_lfr 289)],
  [(289, 0, op_ast 1 290), (290, 0, op_al 0 291), (291, 0, op_gf 11 10 294), (294, 0, op_push (.inl (none, 9)) 296), (296, 0, op_lfr 299), (299, 0, op_ast 1 300), (300, 0, op_al 0 301), (301, 0, op_gf 11 10 304)],
  [(304, 0, op_push (.inl (none, 10)) 306), (306, 0, op_lfr 309), (309, 0, op_ast 1 310), (310, 0, op_al 0 311), (311, 0, op_gf 11 10 314), (314, 0, op_push (.inl (none, 11)) 316), (316, 0, op_lfr 319), (319, 0, op_ast 1 320)],
  [(320, 0, op_al 0 321), (321, 0, op_gf 11 10 324), (324, 0, op_push (.inl (none, 12)) 326), (326, 0, op_lfr 329), (329, 0, op_ast 1 330), (330, 0, op_al 0 331), (331, 0, op_gf 11 10 334), (334, 0, op_push (.inl (none, 13)) 336)],
  [(336, 0, op_lfr 339), (339, 0, op_ast 1 340), (340, 0, op_al 0 341), (341, 0, op_gf 11 10 344), (344, 0, op_push (.inl (none, 14)) 346), (346, 0, op_lfr 349), (349, 0, op_ast 1 350), (350, 0, op_al 0 351), (351, 0, op_gf 11 10 354)],
  [(354, 0, op_push (.inl (none, 15)) 356), (356, 0, op_lfr 359), (359, 0, op_ast 1 360), (360, 0, op_al 0 361), (361, 0, op_gf 11 10 364), (364, 0, op_push (.inl (none, 16)) 366), (366, 0, op_lfr 369)],
  [(369, 0, op_ast 1 370), (370, 0, op_al 0 371), (371, 0, op_gf 11 10 374), (374, 0, op_push (.inl (none, 17)) 376), (376, 0, op_lfr 379), (379, 0, op_ast 1 380), (380, 0, op_al 0 381), (381, 0, op_gf 11 10 384)],
  [(384, 0, op_push (.inl (none, 18)) 386), (386, 0, op_lfr 389), (389, 0, op_ast 1 390), (390, 0, op_al 0 391), (391, 0, op_gf 11 10 394), (394, 0, op_push (.inl (none, 19)) 396), (396, 0, op_lfr 399), (399, 0, op_ast 1 400)],
  [(400, 0, op_al 0 401), (401, 0, op_gf 11 10 404), (404, 0, op_push (.inl (none, 20)) 406), (406, 0, op_lfr 409), (409, 0, op_ast 1 410), (410, 0, op_al 0 411), (411, 0, op_gf 11 10 414), (414, 0, op_push (.inl (none, 21)) 416)],
  [(416, 0, op_lfr 419), (419, 0, op_ast 1 420), (420, 0, op_al 0 421), (421, 0, op_call 13 19 1 0 0 23 2596 424), (424, 0, op_push (.inl (none, 0)) 425), (425, 0, op_is 1 426), (426, 0, op_il 1 427), (427, 0, op_push (.inl (none, 100)) 429), (429, 0, op_icmp 3 450 432)],
  [(432, 0, op_al 0 433), (433, 0, op_gf 11 6 436), (436, 0, op_il 1 437), (437, 0, op_al 0 438), (438, 0, op_gf 11 7 441), (441, 0, op_il 1 442), (442, 0, op_ald 0 443), (443, 0, op_ast 0 444), (444, 0, op_inc 1 1 447), (447, 0, op_goto 426)],
  [(450, 2, op_goto 0)]]
def tb_X11_clears : ab_tab := [[(0, 0, op_push (.inl (none, 0)) 1), (1, 0, op_is 1 2), (2, 0, op_il 1 3), (3, 0, op_push (.inl (none, 100)) 5), (5, 0, op_icmp 3 21 8), (8, 0, op_al 0 9), (9, 0, op_gf 11 7 12), (12, 0, op_il 1 13), (13, 0, op_push (.inl (none, 0)) 14), (14, 0, op_ast 0 15), (15, 0, op_inc 1 1 18)],
  [(18, 0, op_goto 2), (21, 0, op_al 0 22), (22, 0, op_gf 11 7 25), (25, 0, op_push (.inl (none, 3)) 26), (26, 0, op_push (.inl (none, 3)) 27), (27, 0, op_ast 0 28), (28, 0, op_al 0 29), (29, 0, op_gf 11 7 32)],
  [(32, 0, op_push (.inl (none, 4)) 33), (33, 0, op_push (.inl (none, 2)) 34), (34, 0, op_ast 0 35), (35, 0, op_al 0 36), (36, 0, op_gf 11 7 39), (39, 0, op_push (.inl (none, 5)) 40), (40, 0, op_push (.inl (none, 1)) 41), (41, 0, op_ast 0 42), (42, 2, op_goto 0)]]
def tb_X10_feed : ab_tab := [[(0, 0, op_al 0 1), (1, 0, op_gf 10 0 4), (4, 0, op_gf 4 1 7), (7, 0, op_push (.inl (none, 20)) 9), (9, 0, op_b2 (ab_addK) 10), (10, 0, op_push (.inl (none, 940)) 13), (13, 0, op_icmp 5 18 16)],
  [(17, 1, op_goto 0), (18, 0, op_al 0 19), (19, 0, op_gf 10 0 22), (22, 0, op_il 1 23), (23, 0, op_call 6 21 2 0 0 0 0 26), (26, 0, op_al 0 27), (27, 0, op_gf 10 0 30), (30, 0, op_il 2 31), (31, 0, op_call 6 21 2 0 0 0 0 34)],
  [(34, 0, op_al 0 35), (35, 0, op_gf 10 0 38), (38, 0, op_il 3 39), (39, 0, op_call 6 21 2 0 0 0 0 42), (42, 0, op_al 0 43), (43, 0, op_gf 10 0 46), (46, 0, op_il 4 48)],
  [(48, 0, op_call 6 21 2 0 0 0 0 51), (51, 0, op_al 0 52), (52, 0, op_gf 10 0 55), (55, 0, op_il 5 57), (57, 0, op_call 6 21 2 0 0 0 0 60), (60, 0, op_al 0 61), (61, 0, op_gf 10 0 64)],
  [(64, 0, op_gf 4 1 67), (67, 1, op_goto 0)]]
def tb_X4_put : ab_tab := [[(0, 0, op_push (.inl (none, 24)) 2), (2, 0, op_is 2 3), (3, 0, op_il 2 4), (4, 0, op_if 2 51 7), (7, 0, op_al 0 8), (8, 0, op_gf 4 1 11), (11, 0, op_al 0 12), (12, 0, op_gf 4 0 15), (15, 0, op_len 16)],
  [(16, 0, op_icmp 3 45 19), (19, 0, op_al 0 20), (20, 0, op_gf 4 0 23), (23, 0, op_al 0 24), (24, 0, op_gf 4 1 27), (27, 0, op_il 1 28), (28, 0, op_il 2 29), (29, 0, op_b2 (ab_binK (fun u v => (u.toUInt32 >>> (v.toUInt32 &&& Int32.toUInt32 31)).toInt32)) 30), (30, 0, op_push (.inl (none, 255)) 33)],
  [(33, 0, op_b2 (ab_andK) 34), (34, 0, op_ast 0 35), (35, 0, op_al 0 36), (36, 0, op_dup 37), (37, 0, op_gf 4 1 40), (40, 0, op_push (.inl (none, 1)) 41), (41, 0, op_b2 (ab_addK) 42), (42, 0, op_pf (tyX4 1) 4 1 45), (45, 0, op_inc 2 (-8) 48)],
  [(48, 0, op_goto 3), (51, 2, op_goto 0)]]
def tb_X11_feed : ab_tab := [[(0, 0, op_al 0 1), (1, 0, op_push (.inl (none, 0)) 2), (2, 0, op_pf (tyX11 0) 11 0 5), (5, 0, op_al 0 6), (6, 0, op_gf 11 2 9), (9, 0, op_push (.inl (none, 20)) 11), (11, 0, op_b2 (ab_addK) 12), (12, 0, op_push (.inl (none, 940)) 15), (15, 0, op_icmp 5 20 18)],
  [(19, 1, op_goto 0), (20, 0, op_al 0 21), (21, 0, op_il 1 22), (22, 0, op_call 13 23 2 0 0 0 0 25), (25, 0, op_al 0 26), (26, 0, op_il 2 27), (27, 0, op_call 13 23 2 0 0 0 0 30), (30, 0, op_al 0 31), (31, 0, op_il 3 32)],
  [(32, 0, op_call 13 23 2 0 0 0 0 35), (35, 0, op_al 0 36), (36, 0, op_il 4 38), (38, 0, op_call 13 23 2 0 0 0 0 41), (41, 0, op_al 0 42), (42, 0, op_il 5 44), (44, 0, op_call 13 23 2 0 0 0 0 47), (47, 0, op_al 0 48)],
  [(48, 0, op_gf 11 2 51), (51, 1, op_goto 0)]]
def tb_X11_four : ab_tab := [[(0, 0, op_push (.inl (none, 24)) 2), (2, 0, op_is 2 3), (3, 0, op_il 2 4), (4, 0, op_if 2 36 7), (7, 0, op_al 0 8), (8, 0, op_gf 11 1 11), (11, 0, op_al 0 12), (12, 0, op_gf 11 2 15), (15, 0, op_il 1 16)],
  [(16, 0, op_il 2 17), (17, 0, op_b2 (ab_binK (fun u v => u >>> (v &&& 31))) 18), (18, 0, op_cv (-128) 127 19), (19, 0, op_ast 2 20), (20, 0, op_al 0 21), (21, 0, op_dup 22), (22, 0, op_gf 11 2 25), (25, 0, op_push (.inl (none, 1)) 26), (26, 0, op_b2 (ab_addK) 27), (27, 0, op_pf (tyX11 2) 11 2 30), (30, 0, op_inc 2 (-8) 33)],
  [(33, 0, op_goto 3), (36, 2, op_goto 0)]]
def tb_X10_end : ab_tab := [[(0, 0, op_il 1 1), (1, 0, op_if 2 15 4), (4, 0, op_il 1 5), (5, 0, op_al 0 6), (6, 0, op_gf 10 0 9), (9, 0, op_gf 4 1 12), (12, 0, op_icmp 5 17 15), (15, 0, op_push (.inl (none, 0)) 16)],
  [(16, 1, op_goto 0), (17, 0, op_al 0 18), (18, 0, op_gf 10 0 21), (21, 0, op_il 1 22), (22, 0, op_pf (tyX4 1) 4 1 25), (25, 0, op_push (.inl (none, 1)) 26), (26, 1, op_goto 0)]]
def tb_X11_end : ab_tab := [[(0, 0, op_al 0 1), (1, 0, op_push (.inl (none, 0)) 2), (2, 0, op_pf (tyX11 0) 11 0 5), (5, 0, op_il 1 6), (6, 0, op_if 2 17 9), (9, 0, op_il 1 10), (10, 0, op_al 0 11), (11, 0, op_gf 11 2 14), (14, 0, op_icmp 5 19 17)],
  [(17, 0, op_push (.inl (none, 0)) 18), (18, 1, op_goto 0), (19, 0, op_al 0 20), (20, 0, op_il 1 21), (21, 0, op_pf (tyX11 2) 11 2 24), (24, 0, op_push (.inl (none, 1)) 25), (25, 1, op_goto 0)]]
def tb_X10_valley : ab_tab := [[(0, 0, op_al 0 1), (1, 0, op_gf 10 1 4), (4, 0, op_al 0 5), (5, 0, op_gf 10 3 8), (8, 0, op_al 0 9), (9, 0, op_gf 10 0 12), (12, 0, op_call 11 27 3 0 0 0 0 15), (15, 0, op_is 1 16)],
  [(16, 0, op_al 0 17), (17, 0, op_gf 10 0 20), (20, 0, op_push (.inl (none, 0)) 21), (21, 0, op_pf (tyX4 1) 4 1 24), (24, 0, op_il 1 25), (25, 0, op_push (.inl (none, (-1))) 26), (26, 0, op_icmp 1 39 29)],
  [(38, 1, op_goto 0), (39, 0, op_al 0 40), (40, 0, op_gf 10 2 43), (43, 0, op_as 2 44), (44, 0, op_al 0 45), (45, 0, op_al 0 46), (46, 0, op_gf 10 3 49)],
  [(49, 0, op_pf (tyX10 2) 10 2 52), (52, 0, op_al 0 53), (53, 0, op_al 2 54), (54, 0, op_pf (tyX10 3) 10 3 57), (57, 0, op_al 0 58), (58, 0, op_gf 10 4 61), (61, 0, op_al 0 62), (62, 0, op_gf 10 2 65)],
  [(65, 0, op_call 9 32 2 0 0 0 0 68), (68, 0, op_al 0 69), (69, 0, op_gf 10 7 72), (72, 0, op_push (.inl (none, 0)) 73), (73, 0, op_pf (tyX6 3) 6 3 76), (76, 0, op_al 0 77), (77, 0, op_gf 10 6 80)],
  [(80, 0, op_push (.inl (none, 0)) 81), (81, 0, op_pf (tyX1 1) 1 1 84), (84, 0, op_il 1 85), (85, 1, op_goto 0)]]
def tb_X9_readInto : ab_tab := [[(0, 0, op_al 1 1), (1, 0, op_call 10 28 1 0 0 0 0 4), (4, 0, op_push (.inl (none, 0)) 5), (5, 0, op_is 3 6), (6, 0, op_il 3 7), (7, 0, op_al 0 8), (8, 0, op_gf 9 0 11), (11, 0, op_len 12), (12, 0, op_icmp 3 28 15), (15, 0, op_al 0 16)],
  [(16, 0, op_gf 9 0 19), (19, 0, op_il 3 20), (20, 0, op_push (.inl (none, 0)) 21), (21, 0, op_ast 3 22), (22, 0, op_inc 3 1 25), (25, 0, op_goto 6), (28, 0, op_al 2 29), (29, 0, op_push (.inl (none, 900)) 32)],
  [(32, 0, op_call 6 29 2 0 0 0 0 35), (35, 0, op_push (.inl (none, 0)) 36), (36, 0, op_is 3 37), (37, 0, op_al 2 38), (38, 0, op_call 6 31 1 0 0 0 0 41), (41, 0, op_if 1 77 44)],
  [],
  [(70, 1, op_goto 0), (77, 0, op_il 3 78), (78, 1, op_goto 0)]]
def tb_X8_makeEmpty : ab_tab := [[(0, 0, op_al 0 1), (1, 0, op_push (.inl (none, 0)) 2), (2, 0, op_pf (tyX8 0) 8 0 5), (5, 0, op_al 0 6), (6, 0, op_push (.inl (none, 0)) 7), (7, 0, op_pf (tyX8 4) 8 4 10), (10, 0, op_al 0 11), (11, 0, op_push (.inl (none, 0)) 12), (12, 0, op_pf (tyX8 9) 8 9 15), (15, 0, op_al 0 16)],
  [(16, 0, op_gf 8 15 19), (19, 0, op_push (.inl (none, 0)) 20), (20, 0, op_push (.inl (none, 3)) 21), (21, 0, op_ast 0 22), (22, 0, op_al 0 23), (23, 0, op_gf 8 15 26), (26, 0, op_push (.inl (none, 1)) 27), (27, 0, op_push (.inl (none, 2)) 28), (28, 0, op_ast 0 29), (29, 0, op_al 0 30), (30, 0, op_gf 8 15 33)],
  [(33, 0, op_push (.inl (none, 2)) 34), (34, 0, op_push (.inl (none, 1)) 35), (35, 0, op_ast 0 36), (36, 2, op_goto 0)]]
def tb_X4_begin : ab_tab := [[(0, 0, op_al 0 1), (1, 0, op_il 1 2), (2, 0, op_pf (tyX4 2) 4 2 5), (5, 0, op_al 0 6), (6, 0, op_push (.inl (none, 0)) 7), (7, 0, op_pf (tyX4 3) 4 3 10), (10, 0, op_al 0 11), (11, 0, op_push (.inl (none, 0)) 12), (12, 0, op_pf (tyX4 12) 4 12 15), (15, 0, op_al 0 16)],
  [(16, 0, op_push (.inl (none, 0)) 17), (17, 0, op_pf (tyX4 13) 4 13 20), (20, 0, op_al 0 21), (21, 0, op_call 6 30 1 0 0 0 0 24), (24, 2, op_goto 0)]]
def tb_X4_next : ab_tab := [[(0, 0, op_al 0 1), (1, 0, op_gf 4 3 4), (4, 0, op_al 0 5), (5, 0, op_gf 4 1 8), (8, 0, op_icmp 3 52 11)],
  [],
  [],
  [(52, 0, op_al 0 53), (53, 0, op_al 0 54), (54, 0, op_gf 4 3 57), (57, 0, op_pf (tyX4 4) 4 4 60), (60, 0, op_al 0 61), (61, 0, op_push (.inl (none, 0)) 62), (62, 0, op_pf (tyX4 5) 4 5 65)],
  [(65, 0, op_al 0 66), (66, 0, op_push (.inl (none, (-1))) 67), (67, 0, op_pf (tyX4 8) 4 8 70), (70, 0, op_al 0 71), (71, 0, op_gf 4 1 74), (74, 0, op_al 0 75), (75, 0, op_gf 4 2 78), (78, 0, op_icmp 5 103 81)],
  [],
  [(103, 0, op_al 0 104), (104, 0, op_gf 4 4 107), (107, 0, op_al 0 108), (108, 0, op_gf 4 1 111), (111, 0, op_icmp 2 122 114)],
  [(114, 0, op_al 0 115), (115, 0, op_push (.inl (none, 1)) 116), (116, 0, op_pf (tyX4 5) 4 5 119), (119, 0, op_goto 187)],
  [],
  [],
  [],
  [(187, 2, op_goto 0)]]
def tb_X4_atEnd : ab_tab := [[(0, 0, op_al 0 1), (1, 0, op_gf 4 5 4), (4, 0, op_push (.inl (none, 1)) 5), (5, 0, op_icmp 1 12 8), (8, 0, op_push (.inl (none, 1)) 9), (9, 0, op_goto 13), (13, 1, op_goto 0)]]
def tb_X7_beginIn : ab_tab := [[(0, 0, op_al 0 1), (1, 0, op_push (.inl (none, 0)) 2), (2, 0, op_pf (tyX7 0) 7 0 5), (5, 0, op_al 0 6), (6, 0, op_push (.inl (none, 0)) 7), (7, 0, op_pf (tyX7 1) 7 1 10), (10, 0, op_al 0 11), (11, 0, op_push (.inl (none, 0)) 12), (12, 0, op_pf (tyX7 2) 7 2 15), (15, 0, op_push (.inl (none, 0)) 16)],
  [(16, 0, op_is 2 17), (17, 0, op_il 2 18), (18, 0, op_push (.inl (none, 7)) 20), (20, 0, op_icmp 3 67 23), (23, 0, op_al 0 24), (24, 0, op_gf 7 3 27), (27, 0, op_il 2 28), (28, 0, op_il 2 29), (29, 0, op_al 1 30), (30, 0, op_gf 8 0 33)],
  [(33, 0, op_icmp 3 45 36), (45, 0, op_push (.inl (none, 0)) 46), (46, 0, op_ast 0 47), (47, 0, op_al 0 48)],
  [(48, 0, op_gf 7 4 51), (51, 0, op_il 2 52), (52, 0, op_push (.inl (none, 0)) 53), (53, 0, op_ast 0 54), (54, 0, op_al 0 55), (55, 0, op_gf 7 5 58), (58, 0, op_il 2 59), (59, 0, op_push (.inl (none, 0)) 60), (60, 0, op_ast 0 61), (61, 0, op_inc 2 1 64)],
  [(64, 0, op_goto 17), (67, 2, op_goto 0)]]
def tb_X11_valley : ab_tab := [[(0, 0, op_al 0 1), (1, 0, op_push (.inl (none, 0)) 2), (2, 0, op_pf (tyX11 0) 11 0 5), (5, 0, op_al 0 6), (6, 0, op_push (.inl (none, 900)) 9), (9, 0, op_call 13 34 2 0 0 0 0 12), (12, 0, op_al 0 13), (13, 0, op_push (.inl (none, 0)) 14), (14, 0, op_pf (tyX11 15) 11 15 17)],
  [(17, 0, op_al 0 18), (18, 0, op_push (.inl (none, 0)) 19), (19, 0, op_pf (tyX11 19) 11 19 22), (22, 0, op_al 0 23), (23, 0, op_push (.inl (none, 0)) 24), (24, 0, op_pf (tyX11 20) 11 20 27), (27, 0, op_al 0 28), (28, 0, op_call 13 19 1 0 0 0 0 31), (31, 0, op_al 0 32)],
  [(32, 0, op_call 13 35 1 0 0 0 0 35), (35, 0, op_al 0 36), (36, 0, op_gf 11 11 39), (39, 0, op_if 0 78 42)],
  [],
  [(64, 1, op_goto 0), (78, 0, op_push (.inl (none, 0)) 79), (79, 0, op_is 1 80)],
  [(80, 0, op_il 1 81), (81, 0, op_push (.inl (none, 305)) 84), (84, 0, op_icmp 3 115 87), (87, 0, op_al 0 88), (88, 0, op_gf 11 6 91), (91, 0, op_il 1 92), (92, 0, op_il 1 93), (93, 0, op_push (.inl (none, 100)) 95), (95, 0, op_icmp 3 107 98)],
  [(98, 0, op_al 0 99), (99, 0, op_gf 11 7 102), (102, 0, op_il 1 103), (103, 0, op_ald 0 104), (104, 0, op_goto 108), (107, 0, op_push (.inl (none, 0)) 108), (108, 0, op_ast 0 109), (109, 0, op_inc 1 1 112)],
  [(112, 0, op_goto 80), (115, 0, op_push (.inl (none, 0)) 116), (116, 0, op_is 1 117), (117, 0, op_il 1 118), (118, 0, op_push (.inl (none, 15)) 120), (120, 0, op_icmp 3 144 123), (123, 0, op_al 0 124), (124, 0, op_gf 11 9 127), (127, 0, op_il 1 128)],
  [(128, 0, op_al 0 129), (129, 0, op_gf 11 9 132), (132, 0, op_push (.inl (none, 15)) 134), (134, 0, op_il 1 135), (135, 0, op_b2 (ab_addK) 136), (136, 0, op_ald 1 137), (137, 0, op_ast 1 138), (138, 0, op_inc 1 1 141), (141, 0, op_goto 117)],
  [(144, 0, op_push (.inl (none, 0)) 145), (145, 0, op_is 1 146), (146, 0, op_il 1 147), (147, 0, op_al 0 148), (148, 0, op_gf 11 6 151), (151, 0, op_push (.inl (none, 0)) 152), (152, 0, op_ald 0 153), (153, 0, op_icmp 3 180 156)],
  [],
  [(180, 0, op_al 0 181), (181, 0, op_push (.inl (none, 0)) 182), (182, 0, op_pf (tyX11 23) 11 23 185), (185, 0, op_al 0 186), (186, 0, op_gf 11 19 189), (189, 1, op_goto 0)]]
def tb_X11_taken : ab_tab := [[(0, 0, op_al 0 1), (1, 0, op_al 0 2), (2, 0, op_gf 11 2 5), (5, 0, op_pf (tyX11 3) 11 3 8), (8, 0, op_al 0 9), (9, 0, op_push (.inl (none, 0)) 10), (10, 0, op_pf (tyX11 2) 11 2 13), (13, 0, op_al 0 14), (14, 0, op_push (.inl (none, 0)) 15), (15, 0, op_pf (tyX11 4) 11 4 18)],
  [(18, 0, op_al 0 19), (19, 0, op_il 1 20), (20, 0, op_pf (tyX11 5) 11 5 23), (23, 2, op_goto 0)]]
def tb_X11_next : ab_tab := [[(0, 0, op_al 0 1), (1, 0, op_call 13 36 1 0 0 0 0 4), (4, 0, op_push (.inl (none, 32)) 6), (6, 0, op_icmp 0 18 9), (9, 0, op_al 0 10), (10, 0, op_call 13 36 1 0 0 0 0 13), (13, 0, op_push (.inl (none, 10)) 15), (15, 0, op_icmp 1 31 18)],
  [(31, 0, op_al 0 32)],
  [(32, 0, op_al 0 33), (33, 0, op_gf 11 4 36), (36, 0, op_pf (tyX11 12) 11 12 39), (39, 0, op_al 0 40), (40, 0, op_push (.inl (none, 0)) 41), (41, 0, op_pf (tyX11 13) 11 13 44), (44, 0, op_al 0 45), (45, 0, op_gf 11 3 48)],
  [(48, 0, op_al 0 49), (49, 0, op_gf 11 5 52), (52, 0, op_icmp 5 80 55)],
  [(79, 2, op_goto 0)],
  [(80, 0, op_al 0 81), (81, 0, op_call 13 36 1 0 0 0 0 84), (84, 0, op_is 1 85), (85, 0, op_il 1 86), (86, 0, op_if 3 95 89), (89, 0, op_al 0 90), (90, 0, op_push (.inl (none, 0)) 91), (91, 0, op_pf (tyX11 11) 11 11 94), (94, 2, op_goto 0)],
  [],
  [],
  [],
  [],
  [(163, 2, op_goto 0)],
  [],
  [],
  [],
  [],
  [],
  [],
  [],
  [],
  [],
  [],
  [(336, 2, op_goto 0)]]
def tb_X11_peek : ab_tab := [[(0, 0, op_al 0 1), (1, 0, op_gf 11 4 4), (4, 0, op_al 0 5), (5, 0, op_gf 11 3 8), (8, 0, op_icmp 3 27 11)],
  [(27, 0, op_push (.inl (none, (-1))) 28), (28, 1, op_goto 0)]]
def tb_X10_fault : ab_tab := [[(0, 0, op_al 0 1), (1, 0, op_gf 10 0 4), (4, 0, op_gf 4 12 7), (7, 1, op_goto 0)]]
def tb_X11_fault : ab_tab := [[(0, 0, op_al 0 1), (1, 0, op_push (.inl (none, 0)) 2), (2, 0, op_pf (tyX11 0) 11 0 5), (5, 0, op_al 0 6), (6, 0, op_gf 11 15 9), (9, 1, op_goto 0)]]
def tb_L_town : ab_tab := [[(0, 0, op_al 3 1), (1, 0, op_push (.inl (none, 0)) 2), (2, 0, op_al 0 3), (3, 0, op_il 1 4), (4, 0, op_il 2 5), (5, 0, op_callx 12 40 3 1 6 1 6 8 4 15), (15, 0, op_push (.inl (none, 1)) 16)],
  [(16, 1, op_goto 0), (18, 1, op_goto 0)]]
def tb_X10_town : ab_tab := [[(0, 0, op_al 0 1), (1, 0, op_il 1 2), (2, 0, op_call 12 41 2 0 0 1 6 5), (5, 0, op_if 1 18 8), (8, 3, op_goto 0)],
  [],
  [],
  [],
  [(77, 1, op_goto 0)],
  [(87, 1, op_goto 0)],
  [(104, 1, op_goto 0)],
  [(125, 1, op_goto 0)],
  [(135, 1, op_goto 0)],
  [(145, 1, op_goto 0), (158, 1, op_goto 0)],
  [(175, 1, op_goto 0)],
  [(189, 1, op_goto 0)]]
def tb_X10_hasTown : ab_tab := [[(0, 0, op_il 1 1), (1, 0, op_if 2 19 4), (4, 0, op_il 1 5), (5, 0, op_al 0 6), (6, 0, op_gf 10 2 9), (9, 0, op_gf 8 0 12), (12, 0, op_icmp 3 19 15)],
  [(19, 0, op_push (.inl (none, 0)) 20), (20, 1, op_goto 0)]]
def tb_X11_town : ab_tab := [[(0, 0, op_al 0 1), (1, 0, op_al 0 2), (2, 0, op_il 1 3), (3, 0, op_call 13 43 2 0 0 0 0 6), (6, 0, op_if 0 19 9)],
  [(19, 0, op_push (.inl (none, 1)) 20), (20, 0, op_goto 24), (24, 0, op_call 13 45 2 0 0 0 0 27), (27, 0, op_if 0 32 30), (30, 0, op_push (.inl (none, 0)) 31), (31, 1, op_goto 0)],
  [],
  [],
  [],
  [(89, 1, op_goto 0)],
  [(99, 1, op_goto 0)],
  [(113, 1, op_goto 0), (127, 1, op_goto 0)],
  [(137, 1, op_goto 0)],
  [(147, 1, op_goto 0), (153, 1, op_goto 0)],
  [(165, 1, op_goto 0)],
  [(179, 1, op_goto 0)]]
def tb_X11_isTown : ab_tab := [[(0, 0, op_il 1 1), (1, 0, op_push (.inl (none, 0)) 2), (2, 0, op_al 0 3), (3, 0, op_gf 11 6 6), (6, 0, op_push (.inl (none, 0)) 7), (7, 0, op_ald 0 8), (8, 0, op_push (.inl (none, 1)) 9), (9, 0, op_b2 (ab_subK) 10), (10, 0, op_call 0 44 3 0 0 0 0 13), (13, 1, op_goto 0)]]
def tb_X11_isIn : ab_tab := [[(0, 0, op_il 0 1), (1, 0, op_il 1 2), (2, 0, op_icmp 2 14 5), (5, 0, op_il 0 6), (6, 0, op_il 2 7), (7, 0, op_icmp 4 14 10), (10, 0, op_push (.inl (none, 1)) 11), (11, 0, op_goto 15), (14, 0, op_push (.inl (none, 0)) 15), (15, 1, op_goto 0)]]
def tb_X11_throwsIf : ab_tab := [[(0, 0, op_al 0 1), (1, 0, op_il 1 2), (2, 0, op_if 0 9 5), (5, 0, op_push (.inl (none, 1)) 6), (6, 0, op_goto 10), (9, 0, op_push (.inl (none, 0)) 10), (10, 0, op_pf (tyX11 0) 11 0 13), (13, 0, op_il 1 14), (14, 1, op_goto 0)]]
def tb_X11_thrown : ab_tab := [[(0, 0, op_al 0 1), (1, 0, op_gf 11 0 4), (4, 1, op_goto 0)]]
def tb_L_due : ab_tab := [[(0, 0, op_al 3 1), (1, 0, op_push (.inl (none, 0)) 2), (2, 0, op_al 0 3), (3, 0, op_il 1 4), (4, 0, op_il 2 5), (5, 0, op_callx 12 48 3 1 6 1 6 8 4 15), (15, 0, op_push (.inl (none, 1)) 16)],
  [(16, 1, op_goto 0), (18, 1, op_goto 0)]]
def tb_X10_due : ab_tab := [[(0, 0, op_al 0 1), (1, 0, op_il 1 2), (2, 0, op_call 12 41 2 0 0 1 6 5), (5, 0, op_if 0 19 8)],
  [(19, 3, op_goto 0)],
  [],
  [(57, 1, op_goto 0)]]
def tb_X11_due : ab_tab := [[(0, 0, op_al 0 1), (1, 0, op_al 0 2), (2, 0, op_il 1 3), (3, 0, op_call 13 43 2 0 0 0 0 6), (6, 0, op_if 0 31 9)],
  [(31, 0, op_push (.inl (none, 1)) 32)],
  [(32, 0, op_goto 36), (36, 0, op_call 13 45 2 0 0 0 0 39), (39, 0, op_if 0 44 42), (42, 0, op_push (.inl (none, 0)) 43), (43, 1, op_goto 0)],
  [(50, 1, op_goto 0)]]
def tb_L_train : ab_tab := [[(0, 0, op_al 3 1), (1, 0, op_push (.inl (none, 0)) 2), (2, 0, op_al 0 3), (3, 0, op_il 1 4), (4, 0, op_il 2 5), (5, 0, op_callx 12 51 3 1 6 1 6 8 4 15), (15, 0, op_push (.inl (none, 1)) 16)],
  [(16, 1, op_goto 0), (18, 1, op_goto 0)]]
def tb_X10_train : ab_tab := [[(0, 0, op_al 0 1), (1, 0, op_il 1 2), (2, 0, op_call 12 52 2 0 0 1 6 5), (5, 0, op_if 1 18 8), (8, 3, op_goto 0)],
  [],
  [],
  [],
  [(69, 1, op_goto 0), (79, 1, op_goto 0)],
  [(89, 1, op_goto 0)],
  [(99, 1, op_goto 0)],
  [(112, 1, op_goto 0), (125, 1, op_goto 0)],
  [],
  [(159, 1, op_goto 0)]]
def tb_X10_hasTrain : ab_tab := [[(0, 0, op_il 1 1), (1, 0, op_if 2 19 4), (4, 0, op_il 1 5), (5, 0, op_al 0 6), (6, 0, op_gf 10 2 9), (9, 0, op_gf 8 9 12), (12, 0, op_icmp 3 19 15)],
  [(19, 0, op_push (.inl (none, 0)) 20), (20, 1, op_goto 0)]]
def tb_X11_train : ab_tab := [[(0, 0, op_al 0 1), (1, 0, op_al 0 2), (2, 0, op_il 1 3), (3, 0, op_call 13 54 2 0 0 0 0 6), (6, 0, op_if 0 19 9)],
  [(19, 0, op_push (.inl (none, 1)) 20), (20, 0, op_goto 24), (24, 0, op_call 13 45 2 0 0 0 0 27), (27, 0, op_if 0 32 30), (30, 0, op_push (.inl (none, 0)) 31), (31, 1, op_goto 0)],
  [],
  [],
  [],
  [(81, 1, op_goto 0), (91, 1, op_goto 0)],
  [(101, 1, op_goto 0), (111, 1, op_goto 0)],
  [(117, 1, op_goto 0), (123, 1, op_goto 0)],
  [(143, 1, op_goto 0)]]
def tb_X11_isTrain : ab_tab := [[(0, 0, op_il 1 1), (1, 0, op_push (.inl (none, 0)) 2), (2, 0, op_al 0 3), (3, 0, op_gf 11 6 6), (6, 0, op_push (.inl (none, 2)) 7), (7, 0, op_ald 0 8), (8, 0, op_push (.inl (none, 1)) 9), (9, 0, op_b2 (ab_subK) 10), (10, 0, op_call 0 44 3 0 0 0 0 13), (13, 1, op_goto 0)]]
def tb_L_shows : ab_tab := [[(0, 0, op_al 3 1), (1, 0, op_push (.inl (none, 0)) 2), (2, 0, op_al 0 3), (3, 0, op_il 1 4), (4, 0, op_il 2 5), (5, 0, op_callx 12 56 3 1 6 1 6 8 4 15), (15, 0, op_push (.inl (none, 1)) 16)],
  [(16, 1, op_goto 0), (18, 1, op_goto 0)]]
def tb_X10_shows : ab_tab := [[(0, 0, op_al 0 1), (1, 0, op_il 1 2), (2, 0, op_call 12 41 2 0 0 1 6 5), (5, 0, op_if 0 30 8)],
  [(30, 3, op_goto 0)],
  [],
  [(54, 1, op_goto 0)]]
def tb_X11_shows : ab_tab := [[(0, 0, op_al 0 1), (1, 0, op_al 0 2), (2, 0, op_il 1 3), (3, 0, op_call 13 43 2 0 0 0 0 6), (6, 0, op_if 0 28 9)],
  [(28, 0, op_push (.inl (none, 1)) 29), (29, 0, op_goto 33)],
  [(33, 0, op_call 13 45 2 0 0 0 0 36), (36, 0, op_if 0 41 39), (39, 0, op_push (.inl (none, 0)) 40), (40, 1, op_goto 0)],
  [(48, 1, op_goto 0)]]
def tb_L_now : ab_tab := [[(0, 0, op_al 2 1), (1, 0, op_push (.inl (none, 0)) 2), (2, 0, op_al 0 3), (3, 0, op_il 1 4), (4, 0, op_callx 12 59 2 1 6 1 6 7 3 13), (7, 0, op_i2l 8), (8, 0, op_ast 1 9), (9, 0, op_goto 15), (13, 0, op_push (.inl (none, 1)) 14), (14, 1, op_goto 0), (15, 0, op_push (.inl (none, 0)) 16)],
  [(16, 1, op_goto 0)]]
def tb_X10_now : ab_tab := [[(0, 0, op_il 1 1), (1, 0, op_tsw 0 6 [44, 52, 57, 69, 77, 89, 101] 106)],
  [],
  [(44, 0, op_al 0 45), (45, 0, op_gf 10 4 48)],
  [(48, 0, op_gf 7 0 51), (51, 1, op_goto 0), (52, 0, op_al 0 53), (53, 0, op_call 12 60 1 0 0 1 6 56), (56, 1, op_goto 0), (57, 0, op_al 0 58), (58, 0, op_gf 10 4 61), (61, 0, op_al 0 62), (62, 0, op_gf 10 2 65)],
  [(65, 0, op_call 9 62 2 0 0 1 6 68), (68, 1, op_goto 0), (69, 0, op_al 0 70), (70, 0, op_gf 10 4 73), (73, 0, op_gf 7 1 76), (76, 1, op_goto 0), (77, 0, op_al 0 78), (78, 0, op_al 0 79), (79, 0, op_gf 10 4 82)],
  [(82, 0, op_gf 7 4 85), (85, 0, op_call 12 61 2 0 0 1 6 88), (88, 1, op_goto 0), (89, 0, op_al 0 90), (90, 0, op_al 0 91), (91, 0, op_gf 10 4 94), (94, 0, op_gf 7 5 97)],
  [(97, 0, op_call 12 61 2 0 0 1 6 100), (100, 1, op_goto 0), (101, 0, op_al 0 102), (102, 0, op_call 12 63 1 0 0 1 6 105), (105, 1, op_goto 0), (106, 3, op_goto 0)]]
def tb_X10_bendsAdded : ab_tab := [[(0, 0, op_al 0 1), (1, 0, op_al 0 2), (2, 0, op_gf 10 4 5), (5, 0, op_gf 7 3 8), (8, 0, op_call 12 61 2 0 0 0 0 11), (11, 1, op_goto 0)]]
def tb_X10_added : ab_tab := [[(0, 0, op_push (.inl (none, 0)) 1), (1, 0, op_is 2 2), (2, 0, op_push (.inl (none, 0)) 3), (3, 0, op_is 3 4), (4, 0, op_il 3 5), (5, 0, op_al 0 6), (6, 0, op_gf 10 2 9), (9, 0, op_gf 8 0 12), (12, 0, op_icmp 3 27 15)],
  [(27, 0, op_il 2 28), (28, 1, op_goto 0)]]
def tb_X7_breachBits : ab_tab := [[(0, 0, op_push (.inl (none, 0)) 1), (1, 0, op_is 2 2), (2, 0, op_push (.inl (none, 0)) 3), (3, 0, op_is 3 4), (4, 0, op_il 3 5), (5, 0, op_al 1 6), (6, 0, op_gf 8 0 9), (9, 0, op_icmp 3 33 12)],
  [],
  [(33, 0, op_il 2 34), (34, 1, op_goto 0)]]
def tb_X10_minutesOff : ab_tab := [[(0, 0, op_push (.inl (none, 0)) 1), (1, 0, op_is 1 2), (2, 0, op_push (.inl (none, 0)) 3), (3, 0, op_is 2 4), (4, 0, op_il 2 5), (5, 0, op_al 0 6), (6, 0, op_gf 10 2 9), (9, 0, op_gf 8 0 12), (12, 0, op_icmp 3 36 15)],
  [],
  [(36, 0, op_il 1 37), (37, 1, op_goto 0)]]
def tb_X11_now : ab_tab := [[(0, 0, op_al 0 1), (1, 0, op_il 1 2), (2, 0, op_push (.inl (none, 0)) 3), (3, 0, op_push (.inl (none, 6)) 5), (5, 0, op_call 0 44 3 0 0 0 0 8), (8, 0, op_if 1 15 11), (11, 0, op_push (.inl (none, 1)) 12), (12, 0, op_goto 16), (15, 0, op_push (.inl (none, 0)) 16)],
  [(16, 0, op_call 13 45 2 0 0 0 0 19), (19, 0, op_if 0 24 22), (22, 0, op_push (.inl (none, 0)) 23), (23, 1, op_goto 0), (24, 0, op_il 1 25), (25, 0, op_tsw 0 5 [64, 72, 79, 84, 92, 99] 106)],
  [],
  [],
  [(64, 0, op_al 0 65), (65, 0, op_gf 11 6 68), (68, 0, op_push (.inl (none, 100)) 70), (70, 0, op_ald 0 71), (71, 1, op_goto 0), (72, 0, op_al 0 73), (73, 0, op_push (.inl (none, 103)) 75), (75, 0, op_call 13 65 2 0 0 0 0 78), (78, 1, op_goto 0), (79, 0, op_al 0 80)],
  [(80, 0, op_call 13 66 1 0 0 0 0 83), (83, 1, op_goto 0), (84, 0, op_al 0 85), (85, 0, op_gf 11 6 88), (88, 0, op_push (.inl (none, 101)) 90), (90, 0, op_ald 0 91), (91, 1, op_goto 0), (92, 0, op_al 0 93), (93, 0, op_push (.inl (none, 110)) 95), (95, 0, op_call 13 65 2 0 0 0 0 98)],
  [(98, 1, op_goto 0), (99, 0, op_al 0 100), (100, 0, op_push (.inl (none, 117)) 102), (102, 0, op_call 13 65 2 0 0 0 0 105), (105, 1, op_goto 0), (106, 0, op_push (.inl (none, 0)) 107), (107, 0, op_is 2 108), (108, 0, op_push (.inl (none, 0)) 109), (109, 0, op_is 3 110), (110, 0, op_il 3 111), (111, 0, op_al 0 112)],
  [(112, 0, op_gf 11 6 115), (115, 0, op_push (.inl (none, 0)) 116), (116, 0, op_ald 0 117), (117, 0, op_icmp 3 141 120)],
  [(141, 0, op_il 2 142), (142, 1, op_goto 0)]]
def tb_X11_sumOf : ab_tab := [[(0, 0, op_push (.inl (none, 0)) 1), (1, 0, op_is 2 2), (2, 0, op_push (.inl (none, 0)) 3), (3, 0, op_is 3 4), (4, 0, op_il 3 5), (5, 0, op_al 0 6), (6, 0, op_gf 11 6 9), (9, 0, op_push (.inl (none, 0)) 10), (10, 0, op_ald 0 11), (11, 0, op_icmp 3 31 14)],
  [(31, 0, op_il 2 32)],
  [(32, 1, op_goto 0)]]
def tb_X11_breachSet : ab_tab := [[(0, 0, op_push (.inl (none, 0)) 1), (1, 0, op_is 1 2), (2, 0, op_push (.inl (none, 0)) 3), (3, 0, op_is 2 4), (4, 0, op_il 2 5), (5, 0, op_al 0 6), (6, 0, op_gf 11 6 9), (9, 0, op_push (.inl (none, 0)) 10), (10, 0, op_ald 0 11), (11, 0, op_icmp 3 38 14)],
  [],
  [(38, 0, op_il 1 39), (39, 1, op_goto 0)]]
def tb_X10_bend : ab_tab := [[(0, 0, op_al 0 1), (1, 0, op_il 1 2), (2, 0, op_call 12 41 2 0 0 0 0 5), (5, 0, op_if 0 24 8)],
  [(24, 0, op_push (.inl (none, (-1))) 25), (25, 1, op_goto 0)],
  [],
  [],
  [(65, 1, op_goto 0)]]
def tb_X11_bend : ab_tab := [[(0, 0, op_al 0 1), (1, 0, op_push (.inl (none, 0)) 2), (2, 0, op_pf (tyX11 0) 11 0 5), (5, 0, op_al 0 6), (6, 0, op_il 1 7), (7, 0, op_call 13 43 2 0 0 0 0 10), (10, 0, op_if 0 28 13)],
  [(28, 0, op_push (.inl (none, (-1))) 29), (29, 1, op_goto 0)],
  [(42, 1, op_goto 0)],
  [(54, 1, op_goto 0)]]
def tb_X10_shade : ab_tab := [[(0, 0, op_al 0 1), (1, 0, op_il 1 2), (2, 0, op_call 12 41 2 0 0 0 0 5), (5, 0, op_if 1 10 8), (8, 0, op_push (.inl (none, (-1))) 9), (9, 1, op_goto 0)],
  [(22, 1, op_goto 0)],
  [(43, 1, op_goto 0)]]
def tb_X11_shade : ab_tab := [[(0, 0, op_al 0 1), (1, 0, op_push (.inl (none, 0)) 2), (2, 0, op_pf (tyX11 0) 11 0 5), (5, 0, op_al 0 6), (6, 0, op_il 1 7), (7, 0, op_call 13 43 2 0 0 0 0 10), (10, 0, op_if 1 15 13), (13, 0, op_push (.inl (none, (-1))) 14), (14, 1, op_goto 0)],
  [(24, 1, op_goto 0)],
  [(43, 1, op_goto 0)]]
def tb_X10_clear : ab_tab := [[(0, 0, op_al 0 1), (1, 0, op_il 1 2), (2, 0, op_call 12 41 2 0 0 0 0 5), (5, 0, op_if 1 10 8), (8, 0, op_push (.inl (none, (-1))) 9), (9, 1, op_goto 0)],
  [(22, 1, op_goto 0)],
  [(43, 1, op_goto 0)]]
def tb_X11_clear : ab_tab := [[(0, 0, op_al 0 1), (1, 0, op_push (.inl (none, 0)) 2), (2, 0, op_pf (tyX11 0) 11 0 5), (5, 0, op_al 0 6), (6, 0, op_il 1 7), (7, 0, op_call 13 43 2 0 0 0 0 10), (10, 0, op_if 1 15 13), (13, 0, op_push (.inl (none, (-1))) 14), (14, 1, op_goto 0)],
  [(24, 1, op_goto 0)],
  [(45, 1, op_goto 0)]]
def tb_X10_freeze : ab_tab := [[(0, 0, op_al 0 1), (1, 0, op_gf 10 6 4), (4, 0, op_al 0 5), (5, 0, op_gf 10 4 8), (8, 0, op_call 3 74 2 0 0 0 0 11), (11, 0, op_al 0 12), (12, 0, op_gf 10 4 15), (15, 0, op_al 0 16)],
  [(16, 0, op_gf 10 2 19), (19, 0, op_call 9 76 2 0 0 0 0 22), (22, 1, op_goto 0)]]
def tb_X1_keep : ab_tab := [[(0, 0, op_al 0 1), (1, 0, op_gf 1 1 4), (4, 0, op_push (.inl (none, 8)) 6), (6, 0, op_icmp 2 60 9)],
  [],
  [],
  [(60, 0, op_al 0 61), (61, 0, op_gf 1 0 64)],
  [(64, 0, op_al 0 65), (65, 0, op_gf 1 1 68), (68, 0, op_aald 7 69), (69, 0, op_al 1 70), (70, 0, op_call 9 75 2 0 0 0 0 73), (73, 0, op_al 0 74), (74, 0, op_dup 75), (75, 0, op_gf 1 1 78), (78, 0, op_push (.inl (none, 1)) 79), (79, 0, op_b2 (ab_addK) 80)],
  [(80, 0, op_pf (tyX1 1) 1 1 83), (83, 2, op_goto 0)]]
def tb_X7_copyFrom : ab_tab := [[(0, 0, op_al 0 1), (1, 0, op_al 1 2), (2, 0, op_gf 7 0 5), (5, 0, op_pf (tyX7 0) 7 0 8), (8, 0, op_al 0 9), (9, 0, op_al 1 10), (10, 0, op_gf 7 1 13), (13, 0, op_pf (tyX7 1) 7 1 16)],
  [(16, 0, op_al 0 17), (17, 0, op_al 1 18), (18, 0, op_gf 7 2 21), (21, 0, op_pf (tyX7 2) 7 2 24), (24, 0, op_al 1 25), (25, 0, op_gf 7 3 28), (28, 0, op_push (.inl (none, 0)) 29), (29, 0, op_al 0 30), (30, 0, op_gf 7 3 33)],
  [(33, 0, op_push (.inl (none, 0)) 34), (34, 0, op_push (.inl (none, 7)) 36), (36, 0, op_ac 0 39), (39, 0, op_al 1 40), (40, 0, op_gf 7 4 43), (43, 0, op_push (.inl (none, 0)) 44), (44, 0, op_al 0 45), (45, 0, op_gf 7 4 48)],
  [(48, 0, op_push (.inl (none, 0)) 49), (49, 0, op_push (.inl (none, 7)) 51), (51, 0, op_ac 0 54), (54, 0, op_al 1 55), (55, 0, op_gf 7 5 58), (58, 0, op_push (.inl (none, 0)) 59), (59, 0, op_al 0 60), (60, 0, op_gf 7 5 63), (63, 0, op_push (.inl (none, 0)) 64)],
  [(64, 0, op_push (.inl (none, 7)) 66), (66, 0, op_ac 0 69), (69, 2, op_goto 0)]]
def tb_X7_springBack : ab_tab := [[(0, 0, op_push (.inl (none, 0)) 1), (1, 0, op_is 2 2), (2, 0, op_push (.inl (none, 0)) 3), (3, 0, op_is 3 4), (4, 0, op_il 3 5), (5, 0, op_al 1 6), (6, 0, op_gf 8 0 9), (9, 0, op_icmp 3 58 12)],
  [],
  [],
  [(58, 0, op_il 2 59), (59, 1, op_goto 0)]]
def tb_X11_freeze : ab_tab := [[(0, 0, op_al 0 1), (1, 0, op_push (.inl (none, 0)) 2), (2, 0, op_pf (tyX11 0) 11 0 5), (5, 0, op_al 0 6), (6, 0, op_call 13 78 1 0 0 0 0 9), (9, 0, op_al 0 10), (10, 0, op_call 13 79 1 0 0 0 0 13), (13, 1, op_goto 0)]]
def tb_X11_keep : ab_tab := [[(0, 0, op_al 0 1), (1, 0, op_gf 11 23 4), (4, 0, op_push (.inl (none, 8)) 6), (6, 0, op_icmp 1 45 9)],
  [],
  [(45, 0, op_push (.inl (none, 0)) 46), (46, 0, op_is 1 47), (47, 0, op_il 1 48)],
  [(48, 0, op_push (.inl (none, 24)) 50), (50, 0, op_icmp 3 82 53), (53, 0, op_al 0 54), (54, 0, op_gf 11 21 57), (57, 0, op_push (.inl (none, 24)) 59), (59, 0, op_al 0 60), (60, 0, op_gf 11 23 63), (63, 0, op_b2 (ab_binK (fun u v => u * v)) 64)],
  [(64, 0, op_il 1 65), (65, 0, op_b2 (ab_addK) 66), (66, 0, op_al 0 67), (67, 0, op_gf 11 6 70), (70, 0, op_push (.inl (none, 100)) 72), (72, 0, op_il 1 73), (73, 0, op_b2 (ab_addK) 74), (74, 0, op_ald 0 75), (75, 0, op_ast 0 76), (76, 0, op_inc 1 1 79), (79, 0, op_goto 47)],
  [(82, 0, op_al 0 83), (83, 0, op_dup 84), (84, 0, op_gf 11 23 87), (87, 0, op_push (.inl (none, 1)) 88), (88, 0, op_b2 (ab_addK) 89), (89, 0, op_pf (tyX11 23) 11 23 92), (92, 2, op_goto 0)]]
def tb_X11_freezes : ab_tab := [[(0, 0, op_push (.inl (none, 0)) 1), (1, 0, op_is 1 2), (2, 0, op_push (.inl (none, 0)) 3), (3, 0, op_is 2 4), (4, 0, op_il 2 5), (5, 0, op_al 0 6), (6, 0, op_gf 11 6 9), (9, 0, op_push (.inl (none, 0)) 10), (10, 0, op_ald 0 11), (11, 0, op_icmp 3 75 14)],
  [],
  [],
  [],
  [(75, 0, op_il 1 76), (76, 1, op_goto 0)]]
def tb_X10_days : ab_tab := [[(0, 0, op_il 1 1), (1, 0, op_push (.inl (none, 1)) 2), (2, 0, op_icmp 2 11 5), (5, 0, op_il 1 6), (6, 0, op_push (.inl (none, 60)) 8), (8, 0, op_icmp 5 13 11), (11, 0, op_push (.inl (none, (-1))) 12), (12, 1, op_goto 0), (13, 0, op_il 1 14), (14, 0, op_push (.inl (none, 400)) 17)],
  [(17, 0, op_al 0 18), (18, 0, op_gf 10 4 21), (21, 0, op_gf 7 0 24), (24, 0, op_b2 (ab_subK) 25), (25, 0, op_call 0 81 2 0 0 0 0 28), (28, 0, op_is 2 29), (29, 0, op_il 2 30), (30, 0, op_if 5 44 33)],
  [(33, 0, op_al 0 34), (34, 0, op_gf 10 6 37), (37, 0, op_al 0 38), (38, 0, op_gf 10 4 41), (41, 0, op_call 3 74 2 0 0 0 0 44), (44, 0, op_al 0 45), (45, 0, op_gf 10 4 48)],
  [(48, 0, op_al 0 49), (49, 0, op_gf 10 2 52), (52, 0, op_il 2 53), (53, 0, op_call 9 82 3 0 0 0 0 56), (56, 0, op_il 2 57), (57, 1, op_goto 0)]]
def tb_J9_min_7cf53 : ab_tab := [[(0, 0, op_il 0 1), (1, 0, op_il 1 2), (2, 0, op_icmp 4 9 5), (5, 0, op_il 0 6), (6, 0, op_goto 10), (10, 1, op_goto 0)]]
def tb_X7_passDays : ab_tab := [[(0, 0, op_push (.inl (none, 0)) 1), (1, 0, op_is 3 2), (2, 0, op_il 3 3), (3, 0, op_il 2 4), (4, 0, op_icmp 3 28 7), (7, 0, op_al 0 8), (8, 0, op_gf 7 0 11), (11, 0, op_push (.inl (none, 400)) 14), (14, 0, op_icmp 3 28 17)],
  [(17, 0, op_al 0 18), (18, 0, op_al 1 19), (19, 0, op_call 9 83 2 0 0 0 0 22), (22, 0, op_inc 3 1 25), (25, 0, op_goto 2), (28, 2, op_goto 0)]]
def tb_X7_passDay : ab_tab := [[(0, 0, op_push (.inl (none, 0)) 1), (1, 0, op_is 2 2), (2, 0, op_il 2 3), (3, 0, op_al 1 4), (4, 0, op_gf 8 0 7), (7, 0, op_icmp 3 43 10)],
  [],
  [(43, 0, op_al 0 44), (44, 0, op_dup 45), (45, 0, op_gf 7 0 48)],
  [(48, 0, op_push (.inl (none, 1)) 49), (49, 0, op_b2 (ab_addK) 50), (50, 0, op_pf (tyX7 0) 7 0 53), (53, 0, op_al 0 54), (54, 0, op_push (.inl (none, 0)) 55), (55, 0, op_pf (tyX7 2) 7 2 58), (58, 2, op_goto 0)]]
def tb_X11_days : ab_tab := [[(0, 0, op_al 0 1), (1, 0, op_push (.inl (none, 0)) 2), (2, 0, op_pf (tyX11 0) 11 0 5), (5, 0, op_il 1 6), (6, 0, op_push (.inl (none, 1)) 7), (7, 0, op_push (.inl (none, 60)) 9), (9, 0, op_call 0 44 3 0 0 0 0 12), (12, 0, op_if 1 17 15), (15, 0, op_push (.inl (none, (-1))) 16)],
  [(16, 1, op_goto 0), (17, 0, op_al 0 18), (18, 0, op_gf 11 6 21), (21, 0, op_push (.inl (none, 100)) 23), (23, 0, op_ald 0 24), (24, 0, op_push (.inl (none, 400)) 27), (27, 0, op_icmp 1 32 30), (31, 1, op_goto 0)],
  [(32, 0, op_al 0 33), (33, 0, op_call 13 78 1 0 0 0 0 36), (36, 0, op_al 0 37), (37, 0, op_il 1 38), (38, 0, op_call 13 85 2 0 0 0 0 41), (41, 1, op_goto 0)]]
def tb_X11_goesOn : ab_tab := [[(0, 0, op_push (.inl (none, 0)) 1), (1, 0, op_is 2 2), (2, 0, op_il 2 3), (3, 0, op_il 1 4), (4, 0, op_icmp 3 96 7), (7, 0, op_al 0 8), (8, 0, op_gf 11 6 11), (11, 0, op_push (.inl (none, 100)) 13), (13, 0, op_ald 0 14), (14, 0, op_push (.inl (none, 400)) 17)],
  [(17, 0, op_icmp 3 96 20), (20, 0, op_push (.inl (none, 0)) 21), (21, 0, op_is 3 22), (22, 0, op_il 3 23), (23, 0, op_al 0 24), (24, 0, op_gf 11 6 27), (27, 0, op_push (.inl (none, 0)) 28), (28, 0, op_ald 0 29), (29, 0, op_icmp 3 71 32)],
  [],
  [],
  [(71, 0, op_al 0 72), (72, 0, op_gf 11 6 75), (75, 0, op_push (.inl (none, 102)) 77), (77, 0, op_push (.inl (none, 0)) 78), (78, 0, op_ast 0 79), (79, 0, op_al 0 80)],
  [(80, 0, op_gf 11 6 83), (83, 0, op_push (.inl (none, 100)) 85), (85, 0, op_dup2 86), (86, 0, op_ald 0 87), (87, 0, op_push (.inl (none, 1)) 88), (88, 0, op_b2 (ab_addK) 89), (89, 0, op_ast 0 90), (90, 0, op_inc 2 1 93), (93, 0, op_goto 2)],
  [(96, 0, op_il 2 97), (97, 1, op_goto 0)]]
def tb_X10_undo : ab_tab := [[(0, 0, op_al 0 1), (1, 0, op_gf 10 6 4), (4, 0, op_al 0 5), (5, 0, op_gf 10 4 8), (8, 0, op_call 3 87 2 0 0 0 0 11), (11, 1, op_goto 0)]]
def tb_X1_takeBack : ab_tab := [[(0, 0, op_al 0 1), (1, 0, op_gf 1 1 4), (4, 0, op_if 4 9 7), (7, 0, op_push (.inl (none, (-1))) 8), (8, 1, op_goto 0)],
  [],
  [(36, 1, op_goto 0)]]
def tb_X11_undo : ab_tab := [[(0, 0, op_al 0 1), (1, 0, op_push (.inl (none, 0)) 2), (2, 0, op_pf (tyX11 0) 11 0 5), (5, 0, op_al 0 6), (6, 0, op_gf 11 23 9), (9, 0, op_if 1 14 12), (12, 0, op_push (.inl (none, (-1))) 13), (13, 1, op_goto 0)],
  [],
  [],
  [],
  [(65, 1, op_goto 0)]]
def tb_L_noonLong : ab_tab := [[(0, 0, op_al 1 1), (1, 0, op_push (.inl (none, 0)) 2), (2, 0, op_al 0 3), (3, 0, op_callx 12 90 1 1 6 1 6 6 2 12), (12, 0, op_push (.inl (none, 1)) 13), (13, 1, op_goto 0), (15, 1, op_goto 0)]]
def tb_X10_noonLong : ab_tab := [[(0, 0, op_push (.inl (none, 10000)) 3), (3, 0, op_is 1 4), (4, 0, op_push (.inl (none, (-10000))) 7), (7, 0, op_is 2 8), (8, 0, op_push (.inl (none, 0)) 9), (9, 0, op_is 3 10), (10, 0, op_il 3 11), (11, 0, op_al 0 12), (12, 0, op_gf 10 2 15), (15, 0, op_gf 8 0 18)],
  [(18, 0, op_icmp 3 72 21)],
  [],
  [],
  [(72, 0, op_il 1 73), (73, 0, op_push (.inl (none, 10000)) 76), (76, 0, op_icmp 1 90 79), (79, 3, op_goto 0)],
  [(93, 1, op_goto 0)]]
def tb_X11_noonLong : ab_tab := [[(0, 0, op_al 0 1), (1, 0, op_push (.inl (none, (-1))) 2), (2, 0, op_call 13 92 2 0 0 0 0 5), (5, 0, op_is 1 6), (6, 0, op_al 0 7), (7, 0, op_il 1 8), (8, 0, op_if 1 15 11), (11, 0, op_push (.inl (none, 1)) 12), (12, 0, op_goto 16)],
  [(16, 0, op_call 13 45 2 0 0 0 0 19), (19, 0, op_if 0 26 22), (22, 0, op_push (.inl (none, 0)) 23), (23, 0, op_goto 41)],
  [(41, 1, op_goto 0)]]
def tb_X11_sorts : ab_tab := [[(0, 0, op_push (.inl (none, 0)) 1), (1, 0, op_is 2 2), (2, 0, op_push (.inl (none, 0)) 3), (3, 0, op_is 3 4), (4, 0, op_il 3 5), (5, 0, op_al 0 6), (6, 0, op_gf 11 6 9), (9, 0, op_push (.inl (none, 0)) 10), (10, 0, op_ald 0 11), (11, 0, op_icmp 3 98 14)],
  [],
  [],
  [],
  [],
  [],
  [(98, 0, op_il 2 99), (99, 1, op_goto 0)]]
def tb_L_oneNoon : ab_tab := [[(0, 0, op_al 1 1), (1, 0, op_push (.inl (none, 0)) 2), (2, 0, op_al 0 3), (3, 0, op_callx 12 94 1 1 6 1 6 6 2 12), (12, 0, op_push (.inl (none, 1)) 13), (13, 1, op_goto 0), (15, 1, op_goto 0)]]
def tb_X10_oneNoon : ab_tab := [[(0, 0, op_al 0 1), (1, 0, op_gf 10 4 4), (4, 0, op_al 0 5), (5, 0, op_gf 10 2 8), (8, 0, op_push (.inl (none, (-1))) 9), (9, 0, op_call 9 95 3 0 0 1 6 12), (12, 0, op_is 1 13), (13, 0, op_il 1 14), (14, 0, op_push (.inl (none, 10000)) 17)],
  [(17, 0, op_icmp 1 31 20), (20, 3, op_goto 0)],
  [(32, 1, op_goto 0)]]
def tb_X7_middleNoon : ab_tab := [[(0, 0, op_push (.inl (none, 0)) 1), (1, 0, op_is 3 2), (2, 0, op_push (.inl (none, 0)) 3), (3, 0, op_is 4 5), (5, 0, op_il 4 7), (7, 0, op_al 1 8), (8, 0, op_gf 8 0 11), (11, 0, op_icmp 3 38 14)],
  [],
  [(38, 0, op_push (.inl (none, 10000)) 41), (41, 0, op_is 4 43), (43, 0, op_push (.inl (none, 0)) 44), (44, 0, op_is 5 46), (46, 0, op_il 5 48)],
  [(48, 0, op_al 1 49), (49, 0, op_gf 8 0 52), (52, 0, op_icmp 3 110 55)],
  [],
  [],
  [(110, 0, op_il 4 112)],
  [(112, 1, op_goto 0)]]
def tb_X11_oneNoon : ab_tab := [[(0, 0, op_al 0 1), (1, 0, op_push (.inl (none, (-1))) 2), (2, 0, op_call 13 92 2 0 0 0 0 5), (5, 0, op_is 1 6), (6, 0, op_al 0 7), (7, 0, op_il 1 8), (8, 0, op_if 1 15 11), (11, 0, op_push (.inl (none, 1)) 12), (12, 0, op_goto 16)],
  [(16, 0, op_call 13 45 2 0 0 0 0 19), (19, 0, op_if 0 26 22), (22, 0, op_push (.inl (none, 0)) 23), (23, 0, op_goto 36)],
  [(36, 1, op_goto 0)]]
def tb_X10_even : ab_tab := [[(0, 0, op_al 0 1), (1, 0, op_call 12 60 1 0 0 0 0 4), (4, 0, op_is 1 5), (5, 0, op_il 1 6), (6, 0, op_if 5 13 9), (13, 0, op_push (.inl (none, 1)) 14), (14, 0, op_is 2 15), (15, 0, op_il 1 16)],
  [(16, 0, op_call 0 98 1 0 0 0 0 19), (19, 0, op_is 3 20), (20, 0, op_push (.inl (none, 0)) 21), (21, 0, op_is 4 23), (23, 0, op_push (.inl (none, 0)) 24), (24, 0, op_is 5 26), (26, 0, op_il 5 28), (28, 0, op_al 0 29), (29, 0, op_gf 10 2 32)],
  [(32, 0, op_gf 8 0 35), (35, 0, op_icmp 3 56 38)],
  [(56, 0, op_il 4 58), (58, 0, op_il 3 59), (59, 0, op_icmp 3 64 62), (63, 1, op_goto 0)],
  [(64, 0, op_il 3 65), (65, 0, op_is 5 67), (67, 0, op_push (.inl (none, 0)) 68), (68, 0, op_is 6 70), (70, 0, op_il 6 72), (72, 0, op_al 0 73), (73, 0, op_gf 10 2 76), (76, 0, op_gf 8 0 79), (79, 0, op_icmp 3 129 82)],
  [],
  [],
  [],
  [(129, 0, op_al 0 130), (130, 0, op_al 0 131), (131, 0, op_gf 10 2 134), (134, 0, op_gf 8 0 137), (137, 0, op_pf (tyX10 14) 10 14 140), (140, 0, op_il 3 141), (141, 1, op_goto 0)]]
def tb_J9_abs_0f7a4 : ab_tab := [[(0, 0, op_il 0 1), (1, 0, op_if 3 9 4), (9, 0, op_il 0 10), (10, 1, op_goto 0)]]
def tb_X11_even : ab_tab := [[(0, 0, op_al 0 1), (1, 0, op_push (.inl (none, 0)) 2), (2, 0, op_pf (tyX11 0) 11 0 5), (5, 0, op_al 0 6), (6, 0, op_push (.inl (none, 103)) 8), (8, 0, op_call 13 65 2 0 0 0 0 11), (11, 0, op_is 1 12), (12, 0, op_il 1 13), (13, 0, op_if 3 20 16)],
  [(20, 0, op_push (.inl (none, 0)) 21), (21, 0, op_is 2 22), (22, 0, op_il 1 23), (23, 0, op_call 0 100 1 0 0 0 0 26), (26, 0, op_is 3 27), (27, 0, op_push (.inl (none, 0)) 28), (28, 0, op_is 4 30), (30, 0, op_push (.inl (none, 0)) 31), (31, 0, op_is 5 33)],
  [(33, 0, op_il 5 35), (35, 0, op_al 0 36), (36, 0, op_gf 11 6 39), (39, 0, op_push (.inl (none, 0)) 40), (40, 0, op_ald 0 41), (41, 0, op_icmp 3 62 44)],
  [(62, 0, op_il 4 64)],
  [(64, 0, op_il 3 65), (65, 0, op_icmp 3 70 68), (69, 1, op_goto 0), (70, 0, op_al 0 71), (71, 0, op_al 0 72), (72, 0, op_gf 11 6 75), (75, 0, op_push (.inl (none, 0)) 76), (76, 0, op_ald 0 77), (77, 0, op_pf (tyX11 27) 11 27 80)],
  [(80, 0, op_push (.inl (none, 0)) 81), (81, 0, op_is 5 83), (83, 0, op_il 5 85), (85, 0, op_al 0 86), (86, 0, op_gf 11 6 89), (89, 0, op_push (.inl (none, 0)) 90), (90, 0, op_ald 0 91), (91, 0, op_icmp 3 146 94)],
  [],
  [],
  [],
  [(146, 0, op_il 1 147), (147, 0, op_call 0 100 1 0 0 0 0 150), (150, 1, op_goto 0)]]
def tb_X11_absolute : ab_tab := [[(0, 0, op_il 0 1), (1, 0, op_if 3 9 4), (9, 0, op_il 0 10), (10, 1, op_goto 0)]]
def tb_L_evenAt : ab_tab := [[(0, 0, op_al 2 1), (1, 0, op_push (.inl (none, 0)) 2), (2, 0, op_al 0 3), (3, 0, op_il 1 4), (4, 0, op_callx 12 102 2 1 6 1 6 7 3 13), (13, 0, op_push (.inl (none, 1)) 14), (14, 1, op_goto 0)],
  [(16, 1, op_goto 0)]]
def tb_X10_evenAt : ab_tab := [[(0, 0, op_il 1 1), (1, 0, op_if 2 12 4), (4, 0, op_il 1 5), (5, 0, op_al 0 6), (6, 0, op_gf 10 14 9), (9, 0, op_icmp 2 23 12), (12, 3, op_goto 0)],
  [(29, 1, op_goto 0)]]
def tb_X11_evenAt : ab_tab := [[(0, 0, op_al 0 1), (1, 0, op_il 1 2), (2, 0, op_push (.inl (none, 0)) 3), (3, 0, op_al 0 4), (4, 0, op_gf 11 27 7), (7, 0, op_push (.inl (none, 1)) 8), (8, 0, op_b2 (ab_subK) 9), (9, 0, op_call 0 44 3 0 0 0 0 12), (12, 0, op_if 1 19 15), (15, 0, op_push (.inl (none, 1)) 16)],
  [(16, 0, op_goto 20), (20, 0, op_call 13 45 2 0 0 0 0 23), (23, 0, op_if 0 30 26), (26, 0, op_push (.inl (none, 0)) 27), (27, 0, op_goto 36)],
  [(36, 1, op_goto 0)]]
def tb_X10_kept : ab_tab := [[(0, 0, op_al 0 1), (1, 0, op_gf 10 5 4), (4, 0, op_al 0 5), (5, 0, op_gf 10 4 8), (8, 0, op_call 9 75 2 0 0 0 0 11), (11, 0, op_push (.inl (none, 0)) 12), (12, 0, op_is 1 13), (13, 0, op_il 1 14), (14, 0, op_push (.inl (none, 200)) 17)],
  [(17, 0, op_icmp 3 85 20), (20, 0, op_al 0 21), (21, 0, op_gf 10 5 24), (24, 0, op_gf 7 0 27), (27, 0, op_push (.inl (none, 400)) 30), (30, 0, op_icmp 3 85 33)],
  [(33, 0, op_al 0 34), (34, 0, op_gf 10 5 37), (37, 0, op_al 0 38), (38, 0, op_gf 10 2 41), (41, 0, op_call 9 105 2 0 0 0 0 44), (44, 0, op_al 0 45), (45, 0, op_gf 10 5 48)],
  [(48, 0, op_al 0 49), (49, 0, op_gf 10 2 52), (52, 0, op_call 9 62 2 0 0 0 0 55), (55, 0, op_if 1 66 58), (58, 0, op_al 0 59), (59, 0, op_gf 10 5 62), (62, 0, op_gf 7 0 65)],
  [(65, 1, op_goto 0)],
  [(86, 1, op_goto 0)]]
def tb_X7_bendToDues : ab_tab := [[(0, 0, op_push (.inl (none, 0)) 1), (1, 0, op_is 2 2), (2, 0, op_il 2 3), (3, 0, op_al 1 4), (4, 0, op_gf 8 0 7), (7, 0, op_icmp 3 69 10)],
  [],
  [],
  [],
  [(69, 2, op_goto 0)]]
def tb_X11_kept : ab_tab := [[(0, 0, op_al 0 1), (1, 0, op_push (.inl (none, 0)) 2), (2, 0, op_pf (tyX11 0) 11 0 5), (5, 0, op_al 0 6), (6, 0, op_call 13 107 1 0 0 0 0 9), (9, 0, op_push (.inl (none, (-1))) 10), (10, 0, op_is 1 11), (11, 0, op_push (.inl (none, 0)) 12), (12, 0, op_is 2 13), (13, 0, op_il 2 14), (14, 0, op_push (.inl (none, 200)) 17)],
  [(17, 0, op_icmp 3 73 20), (20, 0, op_il 1 21), (21, 0, op_if 3 73 24), (24, 0, op_al 0 25), (25, 0, op_gf 11 6 28), (28, 0, op_push (.inl (none, 100)) 30), (30, 0, op_ald 0 31), (31, 0, op_push (.inl (none, 400)) 34)],
  [(34, 0, op_icmp 3 73 37), (37, 0, op_al 0 38), (38, 0, op_call 13 108 1 0 0 0 0 41), (41, 0, op_al 0 42), (42, 0, op_call 13 66 1 0 0 0 0 45), (45, 0, op_if 1 56 48)],
  [(48, 0, op_al 0 49), (49, 0, op_gf 11 6 52), (52, 0, op_push (.inl (none, 100)) 54), (54, 0, op_ald 0 55), (55, 0, op_is 1 56), (56, 0, op_al 0 57), (57, 0, op_gf 11 6 60), (60, 0, op_push (.inl (none, 100)) 62), (62, 0, op_dup2 63), (63, 0, op_ald 0 64)],
  [(64, 0, op_push (.inl (none, 1)) 65), (65, 0, op_b2 (ab_addK) 66), (66, 0, op_ast 0 67), (67, 0, op_inc 2 1 70), (70, 0, op_goto 13), (73, 0, op_al 0 74), (74, 0, op_call 13 109 1 0 0 0 0 77), (77, 0, op_il 1 78), (78, 1, op_goto 0)]]
def tb_X11_tries : ab_tab := [[(0, 0, op_push (.inl (none, 0)) 1), (1, 0, op_is 1 2), (2, 0, op_il 1 3), (3, 0, op_push (.inl (none, 24)) 5), (5, 0, op_icmp 3 29 8), (8, 0, op_al 0 9), (9, 0, op_gf 11 22 12), (12, 0, op_il 1 13), (13, 0, op_al 0 14), (14, 0, op_gf 11 6 17)],
  [(17, 0, op_push (.inl (none, 100)) 19), (19, 0, op_il 1 20), (20, 0, op_b2 (ab_addK) 21), (21, 0, op_ald 0 22), (22, 0, op_ast 0 23), (23, 0, op_inc 1 1 26), (26, 0, op_goto 2), (29, 2, op_goto 0)]]
def tb_X11_movesToDues : ab_tab := [[(0, 0, op_push (.inl (none, 0)) 1), (1, 0, op_is 1 2), (2, 0, op_il 1 3), (3, 0, op_al 0 4), (4, 0, op_gf 11 6 7), (7, 0, op_push (.inl (none, 0)) 8), (8, 0, op_ald 0 9), (9, 0, op_icmp 3 93 12)],
  [],
  [],
  [],
  [],
  [(93, 2, op_goto 0)]]
def tb_X11_back : ab_tab := [[(0, 0, op_push (.inl (none, 0)) 1), (1, 0, op_is 1 2), (2, 0, op_il 1 3), (3, 0, op_push (.inl (none, 24)) 5), (5, 0, op_icmp 3 29 8), (8, 0, op_al 0 9), (9, 0, op_gf 11 6 12), (12, 0, op_push (.inl (none, 100)) 14), (14, 0, op_il 1 15), (15, 0, op_b2 (ab_addK) 16)],
  [(16, 0, op_al 0 17), (17, 0, op_gf 11 22 20), (20, 0, op_il 1 21), (21, 0, op_ald 0 22), (22, 0, op_ast 0 23), (23, 0, op_inc 1 1 26), (26, 0, op_goto 2), (29, 2, op_goto 0)]]
def tb_X10_worst : ab_tab := [[(0, 0, op_il 1 1), (1, 0, op_push (.inl (none, 1)) 2), (2, 0, op_icmp 2 11 5), (5, 0, op_il 1 6), (6, 0, op_push (.inl (none, 60)) 8), (8, 0, op_icmp 5 13 11), (11, 0, op_push (.inl (none, (-1))) 12), (12, 1, op_goto 0), (13, 0, op_al 0 14), (14, 0, op_gf 10 5 17)],
  [(17, 0, op_al 0 18), (18, 0, op_gf 10 4 21), (21, 0, op_call 9 75 2 0 0 0 0 24), (24, 0, op_al 0 25), (25, 0, op_gf 10 5 28), (28, 0, op_al 0 29), (29, 0, op_gf 10 2 32)],
  [(32, 0, op_il 1 33), (33, 0, op_call 9 82 3 0 0 0 0 36), (36, 0, op_push (.inl (none, (-1))) 37), (37, 0, op_is 2 38), (38, 0, op_push (.inl (none, 0)) 39), (39, 0, op_is 3 40), (40, 0, op_push (.inl (none, 0)) 41), (41, 0, op_is 4 43), (43, 0, op_il 4 45), (45, 0, op_al 0 46), (46, 0, op_gf 10 2 49)],
  [(49, 0, op_gf 8 0 52), (52, 0, op_icmp 3 96 55)],
  [],
  [],
  [(96, 0, op_il 2 97), (97, 1, op_goto 0)]]
def tb_X11_worst : ab_tab := [[(0, 0, op_al 0 1), (1, 0, op_push (.inl (none, 0)) 2), (2, 0, op_pf (tyX11 0) 11 0 5), (5, 0, op_il 1 6), (6, 0, op_push (.inl (none, 1)) 7), (7, 0, op_push (.inl (none, 60)) 9), (9, 0, op_call 0 44 3 0 0 0 0 12), (12, 0, op_if 1 17 15), (15, 0, op_push (.inl (none, (-1))) 16)],
  [(16, 1, op_goto 0), (17, 0, op_al 0 18), (18, 0, op_call 13 107 1 0 0 0 0 21), (21, 0, op_al 0 22), (22, 0, op_il 1 23), (23, 0, op_call 13 85 2 0 0 0 0 26), (26, 0, op_pop 27), (27, 0, op_push (.inl (none, (-1))) 28), (28, 0, op_is 2 29), (29, 0, op_push (.inl (none, 0)) 30), (30, 0, op_is 3 31), (31, 0, op_push (.inl (none, 0)) 32)],
  [(32, 0, op_is 4 34), (34, 0, op_il 4 36), (36, 0, op_al 0 37), (37, 0, op_gf 11 6 40), (40, 0, op_push (.inl (none, 0)) 41), (41, 0, op_ald 0 42), (42, 0, op_icmp 3 89 45)],
  [],
  [],
  [(89, 0, op_al 0 90), (90, 0, op_call 13 109 1 0 0 0 0 93), (93, 0, op_il 2 94), (94, 1, op_goto 0)]]
def tb_L_spare : ab_tab := [[(0, 0, op_al 3 1), (1, 0, op_push (.inl (none, 0)) 2), (2, 0, op_al 0 3), (3, 0, op_il 1 4), (4, 0, op_il 2 5), (5, 0, op_callx 12 113 3 1 6 1 6 8 4 15), (15, 0, op_push (.inl (none, 1)) 16)],
  [(16, 1, op_goto 0), (18, 1, op_goto 0)]]
def tb_X10_spare : ab_tab := [[(0, 0, op_al 0 1), (1, 0, op_il 1 2), (2, 0, op_call 12 52 2 0 0 1 6 5), (5, 0, op_if 0 37 8)],
  [],
  [(37, 3, op_goto 0)],
  [],
  [],
  [(81, 1, op_goto 0)]]
def tb_X11_spare : ab_tab := [[(0, 0, op_al 0 1), (1, 0, op_al 0 2), (2, 0, op_il 1 3), (3, 0, op_call 13 54 2 0 0 0 0 6), (6, 0, op_if 0 38 9)],
  [],
  [(38, 0, op_push (.inl (none, 1)) 39), (39, 0, op_goto 43), (43, 0, op_call 13 45 2 0 0 0 0 46), (46, 0, op_if 0 51 49)],
  [(49, 0, op_push (.inl (none, 0)) 50), (50, 1, op_goto 0)],
  [(69, 1, op_goto 0)]]
def tb_X10_route : ab_tab := [[(0, 0, op_al 0 1), (1, 0, op_il 1 2), (2, 0, op_call 12 41 2 0 0 0 0 5), (5, 0, op_if 0 32 8)],
  [],
  [(32, 0, op_push (.inl (none, (-1))) 33), (33, 1, op_goto 0)],
  [(52, 1, op_goto 0)]]
def tb_X11_route : ab_tab := [[(0, 0, op_al 0 1), (1, 0, op_push (.inl (none, 0)) 2), (2, 0, op_pf (tyX11 0) 11 0 5), (5, 0, op_al 0 6), (6, 0, op_il 1 7), (7, 0, op_call 13 43 2 0 0 0 0 10), (10, 0, op_if 0 37 13)],
  [],
  [(37, 0, op_push (.inl (none, (-1))) 38), (38, 1, op_goto 0)],
  [],
  [],
  [],
  [],
  [],
  [],
  [],
  [],
  [],
  [],
  [],
  [],
  [],
  [],
  [],
  [],
  [(308, 1, op_goto 0), (317, 1, op_goto 0)]]
def tb_X10_routeAt : ab_tab := [[(0, 0, op_il 1 1), (1, 0, op_if 2 27 4), (4, 0, op_il 1 5), (5, 0, op_al 0 6), (6, 0, op_gf 10 10 9), (9, 0, op_gf 5 2 12), (12, 0, op_icmp 3 27 15)],
  [(27, 0, op_push (.inl (none, (-1))) 28), (28, 1, op_goto 0)]]
def tb_X11_routeAt : ab_tab := [[(0, 0, op_al 0 1), (1, 0, op_push (.inl (none, 0)) 2), (2, 0, op_pf (tyX11 0) 11 0 5), (5, 0, op_il 1 6), (6, 0, op_push (.inl (none, 0)) 7), (7, 0, op_al 0 8), (8, 0, op_gf 11 34 11), (11, 0, op_push (.inl (none, 1)) 12), (12, 0, op_b2 (ab_subK) 13), (13, 0, op_call 0 44 3 0 0 0 0 16)],
  [(16, 0, op_if 0 28 19), (28, 0, op_push (.inl (none, (-1))) 29), (29, 1, op_goto 0)]]
def tb_X10_shadows : ab_tab := [[(0, 0, op_al 0 1), (1, 0, op_gf 10 0 4), (4, 0, op_gf 4 1 7), (7, 0, op_is 1 8), (8, 0, op_al 0 9), (9, 0, op_gf 10 0 12), (12, 0, op_push (.inl (none, 0)) 13), (13, 0, op_pf (tyX4 1) 4 1 16)],
  [(16, 0, op_il 1 17), (17, 0, op_push (.inl (none, 2)) 18), (18, 0, op_icmp 2 33 21)],
  [(33, 0, op_push (.inl (none, (-1))) 34), (34, 1, op_goto 0)],
  [],
  [(74, 1, op_goto 0)],
  [],
  [],
  [(116, 1, op_goto 0)],
  [],
  [(145, 1, op_goto 0)]]
def tb_X11_shadows : ab_tab := [[(0, 0, op_al 0 1), (1, 0, op_push (.inl (none, 0)) 2), (2, 0, op_pf (tyX11 0) 11 0 5), (5, 0, op_al 0 6), (6, 0, op_push (.inl (none, 940)) 9), (9, 0, op_call 13 34 2 0 0 0 0 12), (12, 0, op_al 0 13), (13, 0, op_gf 11 3 16)],
  [(16, 0, op_push (.inl (none, 2)) 17), (17, 0, op_push (.inl (none, 20)) 19), (19, 0, op_call 0 44 3 0 0 0 0 22), (22, 0, op_if 0 35 25)],
  [(35, 0, op_push (.inl (none, (-1))) 36), (36, 1, op_goto 0)],
  [],
  [],
  [(92, 1, op_goto 0)],
  [],
  [],
  [],
  [],
  [(166, 1, op_goto 0)]]
def tb_L_votes : ab_tab := [[(0, 0, op_al 3 1), (1, 0, op_push (.inl (none, 0)) 2), (2, 0, op_al 0 3), (3, 0, op_il 1 4), (4, 0, op_il 2 5), (5, 0, op_callx 12 122 3 1 6 1 6 8 4 15), (15, 0, op_push (.inl (none, 1)) 16)],
  [(16, 1, op_goto 0), (18, 1, op_goto 0)]]
def tb_X10_votes : ab_tab := [[(0, 0, op_al 0 1), (1, 0, op_il 1 2), (2, 0, op_call 12 41 2 0 0 1 6 5), (5, 0, op_if 0 20 8)],
  [(20, 3, op_goto 0)],
  [],
  [],
  [],
  [],
  [(109, 1, op_goto 0)]]
def tb_X11_votes : ab_tab := [[(0, 0, op_al 0 1), (1, 0, op_al 0 2), (2, 0, op_il 1 3), (3, 0, op_call 13 43 2 0 0 0 0 6), (6, 0, op_if 0 20 9)],
  [(20, 0, op_push (.inl (none, 1)) 21), (21, 0, op_goto 25), (25, 0, op_call 13 45 2 0 0 0 0 28), (28, 0, op_if 0 33 31), (31, 0, op_push (.inl (none, 0)) 32)],
  [(32, 1, op_goto 0)],
  [],
  [],
  [],
  [],
  [(118, 1, op_goto 0)]]
def tb_X10_nearer : ab_tab := [[(0, 0, op_al 0 1), (1, 0, op_gf 10 5 4), (4, 0, op_al 0 5), (5, 0, op_gf 10 4 8), (8, 0, op_call 9 75 2 0 0 0 0 11), (11, 0, op_push (.inl (none, 0)) 12), (12, 0, op_is 1 13), (13, 0, op_push (.inl (none, 1)) 14), (14, 0, op_is 2 15), (15, 0, op_il 2 16)],
  [(16, 0, op_if 0 43 19), (19, 0, op_il 1 20), (20, 0, op_push (.inl (none, 60)) 22), (22, 0, op_icmp 3 43 25), (25, 0, op_al 0 26), (26, 0, op_gf 10 5 29), (29, 0, op_al 0 30), (30, 0, op_gf 10 2 33)],
  [(33, 0, op_call 9 125 2 0 0 0 0 36), (36, 0, op_is 2 37), (37, 0, op_inc 1 1 40), (40, 0, op_goto 15), (43, 0, op_push (.inl (none, 0)) 44), (44, 0, op_is 3 45), (45, 0, op_il 3 46), (46, 0, op_al 0 47), (47, 0, op_gf 10 2 50)],
  [(50, 0, op_gf 8 0 53), (53, 0, op_icmp 3 77 56)],
  [(77, 0, op_al 0 78), (78, 0, op_al 0 79), (79, 0, op_gf 10 2 82)],
  [(82, 0, op_gf 8 0 85), (85, 0, op_pf (tyX10 16) 10 16 88), (88, 0, op_il 1 89), (89, 1, op_goto 0)]]
def tb_X7_comeNearer : ab_tab := [[(0, 0, op_push (.inl (none, 0)) 1), (1, 0, op_is 2 2), (2, 0, op_push (.inl (none, 0)) 3), (3, 0, op_is 3 4), (4, 0, op_il 3 5), (5, 0, op_al 1 6), (6, 0, op_gf 8 0 9), (9, 0, op_icmp 3 108 12)],
  [],
  [],
  [],
  [],
  [],
  [(108, 0, op_il 2 109), (109, 1, op_goto 0)]]
def tb_X11_nearer : ab_tab := [[(0, 0, op_al 0 1), (1, 0, op_push (.inl (none, 0)) 2), (2, 0, op_pf (tyX11 0) 11 0 5), (5, 0, op_al 0 6), (6, 0, op_call 13 107 1 0 0 0 0 9), (9, 0, op_push (.inl (none, 0)) 10), (10, 0, op_is 1 11), (11, 0, op_push (.inl (none, 1)) 12), (12, 0, op_is 2 13), (13, 0, op_il 2 14), (14, 0, op_if 0 59 17)],
  [(17, 0, op_il 1 18), (18, 0, op_push (.inl (none, 60)) 20), (20, 0, op_icmp 3 59 23), (23, 0, op_push (.inl (none, 0)) 24), (24, 0, op_is 2 25), (25, 0, op_push (.inl (none, 0)) 26), (26, 0, op_is 3 27), (27, 0, op_il 3 28), (28, 0, op_al 0 29), (29, 0, op_gf 11 6 32)],
  [(32, 0, op_push (.inl (none, 0)) 33), (33, 0, op_ald 0 34), (34, 0, op_icmp 3 53 37)],
  [(53, 0, op_inc 1 1 56), (56, 0, op_goto 13), (59, 0, op_al 0 60), (60, 0, op_al 0 61), (61, 0, op_gf 11 6 64)],
  [(64, 0, op_push (.inl (none, 0)) 65), (65, 0, op_ald 0 66), (66, 0, op_pf (tyX11 28) 11 28 69), (69, 0, op_push (.inl (none, 0)) 70), (70, 0, op_is 3 71), (71, 0, op_il 3 72), (72, 0, op_al 0 73), (73, 0, op_gf 11 6 76), (76, 0, op_push (.inl (none, 0)) 77), (77, 0, op_ald 0 78), (78, 0, op_icmp 3 102 81)],
  [],
  [(102, 0, op_al 0 103), (103, 0, op_call 13 109 1 0 0 0 0 106), (106, 0, op_il 1 107), (107, 1, op_goto 0)]]
def tb_L_nearerAt : ab_tab := [[(0, 0, op_al 2 1), (1, 0, op_push (.inl (none, 0)) 2), (2, 0, op_al 0 3), (3, 0, op_il 1 4), (4, 0, op_callx 12 128 2 1 6 1 6 7 3 13), (13, 0, op_push (.inl (none, 1)) 14), (14, 1, op_goto 0)],
  [(16, 1, op_goto 0)]]
def tb_X10_nearerAt : ab_tab := [[(0, 0, op_il 1 1), (1, 0, op_if 2 12 4), (4, 0, op_il 1 5), (5, 0, op_al 0 6), (6, 0, op_gf 10 16 9), (9, 0, op_icmp 2 23 12), (12, 3, op_goto 0)],
  [(29, 1, op_goto 0)]]
def tb_X11_nearerAt : ab_tab := [[(0, 0, op_al 0 1), (1, 0, op_il 1 2), (2, 0, op_push (.inl (none, 0)) 3), (3, 0, op_al 0 4), (4, 0, op_gf 11 28 7), (7, 0, op_push (.inl (none, 1)) 8), (8, 0, op_b2 (ab_subK) 9), (9, 0, op_call 0 44 3 0 0 0 0 12), (12, 0, op_if 1 19 15), (15, 0, op_push (.inl (none, 1)) 16)],
  [(16, 0, op_goto 20), (20, 0, op_call 13 45 2 0 0 0 0 23), (23, 0, op_if 0 30 26), (26, 0, op_push (.inl (none, 0)) 27), (27, 0, op_goto 36)],
  [(36, 1, op_goto 0)]]
def tb_X10_right : ab_tab := [[(0, 0, op_al 0 1), (1, 0, op_il 1 2), (2, 0, op_call 12 41 2 0 0 0 0 5), (5, 0, op_if 0 19 8)],
  [(19, 0, op_push (.inl (none, (-1))) 20), (20, 1, op_goto 0)],
  [],
  [],
  [(79, 1, op_goto 0)]]
def tb_X11_right : ab_tab := [[(0, 0, op_al 0 1), (1, 0, op_push (.inl (none, 0)) 2), (2, 0, op_pf (tyX11 0) 11 0 5), (5, 0, op_al 0 6), (6, 0, op_il 1 7), (7, 0, op_call 13 43 2 0 0 0 0 10), (10, 0, op_if 0 23 13)],
  [(23, 0, op_push (.inl (none, (-1))) 24), (24, 1, op_goto 0)],
  [],
  [],
  [],
  [(83, 1, op_goto 0)]]
def tb_X10_turns : ab_tab := [[(0, 0, op_al 0 1), (1, 0, op_il 1 2), (2, 0, op_call 12 41 2 0 0 0 0 5), (5, 0, op_if 1 10 8), (8, 0, op_push (.inl (none, (-1))) 9), (9, 1, op_goto 0)],
  [],
  [],
  [(57, 1, op_goto 0)],
  [(65, 1, op_goto 0)]]
def tb_X11_turns : ab_tab := [[(0, 0, op_al 0 1), (1, 0, op_push (.inl (none, 0)) 2), (2, 0, op_pf (tyX11 0) 11 0 5), (5, 0, op_al 0 6), (6, 0, op_il 1 7), (7, 0, op_call 13 43 2 0 0 0 0 10), (10, 0, op_if 1 15 13), (13, 0, op_push (.inl (none, (-1))) 14), (14, 1, op_goto 0)],
  [],
  [],
  [(57, 1, op_goto 0)],
  [(65, 1, op_goto 0)]]
def tb_X10_motto : ab_tab := [[(0, 0, op_al 0 1), (1, 0, op_il 1 2), (2, 0, op_call 12 41 2 0 0 0 0 5), (5, 0, op_if 1 10 8), (8, 0, op_push (.inl (none, (-1))) 9), (9, 1, op_goto 0)],
  [],
  [],
  [(50, 1, op_goto 0)]]
def tb_X11_motto : ab_tab := [[(0, 0, op_al 0 1), (1, 0, op_push (.inl (none, 0)) 2), (2, 0, op_pf (tyX11 0) 11 0 5), (5, 0, op_al 0 6), (6, 0, op_il 1 7), (7, 0, op_call 13 43 2 0 0 0 0 10), (10, 0, op_if 1 15 13), (13, 0, op_push (.inl (none, (-1))) 14), (14, 1, op_goto 0)],
  [],
  [],
  [],
  [],
  [],
  [],
  [],
  [],
  [(156, 1, op_goto 0)]]
def tb_X10_byteAt : ab_tab := [[(0, 0, op_il 1 1), (1, 0, op_if 2 27 4), (4, 0, op_il 1 5), (5, 0, op_al 0 6), (6, 0, op_gf 10 11 9), (9, 0, op_gf 3 1 12), (12, 0, op_icmp 3 27 15)],
  [(27, 0, op_push (.inl (none, (-1))) 28), (28, 1, op_goto 0)]]
def tb_X11_byteAt : ab_tab := [[(0, 0, op_al 0 1), (1, 0, op_push (.inl (none, 0)) 2), (2, 0, op_pf (tyX11 0) 11 0 5), (5, 0, op_il 1 6), (6, 0, op_push (.inl (none, 0)) 7), (7, 0, op_al 0 8), (8, 0, op_gf 11 36 11), (11, 0, op_push (.inl (none, 1)) 12), (12, 0, op_b2 (ab_subK) 13), (13, 0, op_call 0 44 3 0 0 0 0 16)],
  [(16, 0, op_if 0 28 19), (28, 0, op_push (.inl (none, (-1))) 29), (29, 1, op_goto 0)]]
def tb_X10_drawn : ab_tab := [[(0, 0, op_il 1 1), (1, 0, op_push (.inl (none, 1)) 2), (2, 0, op_icmp 2 21 5), (5, 0, op_il 1 6), (6, 0, op_push (.inl (none, 60)) 8), (8, 0, op_icmp 4 21 11), (11, 0, op_al 0 12), (12, 0, op_gf 10 2 15), (15, 0, op_gf 8 0 18)],
  [(18, 0, op_if 1 23 21), (21, 0, op_push (.inl (none, (-1))) 22), (22, 1, op_goto 0)],
  [],
  [],
  [(68, 1, op_goto 0)]]
def tb_X11_drawn : ab_tab := [[(0, 0, op_al 0 1), (1, 0, op_push (.inl (none, 0)) 2), (2, 0, op_pf (tyX11 0) 11 0 5), (5, 0, op_il 1 6), (6, 0, op_push (.inl (none, 1)) 7), (7, 0, op_push (.inl (none, 60)) 9), (9, 0, op_call 0 44 3 0 0 0 0 12), (12, 0, op_if 0 24 15), (15, 0, op_al 0 16)],
  [(16, 0, op_gf 11 6 19), (19, 0, op_push (.inl (none, 0)) 20), (20, 0, op_ald 0 21), (21, 0, op_if 1 26 24), (24, 0, op_push (.inl (none, (-1))) 25), (25, 1, op_goto 0)],
  [],
  [(49, 1, op_goto 0)]]
def tb_X10_odds : ab_tab := [[(0, 0, op_al 0 1), (1, 0, op_il 1 2), (2, 0, op_call 12 41 2 0 0 0 0 5), (5, 0, op_if 0 19 8)],
  [(19, 0, op_push (.inl (none, (-1))) 20), (20, 1, op_goto 0)],
  [],
  [],
  [],
  [(93, 1, op_goto 0)]]
def tb_X11_odds : ab_tab := [[(0, 0, op_al 0 1), (1, 0, op_push (.inl (none, 0)) 2), (2, 0, op_pf (tyX11 0) 11 0 5), (5, 0, op_al 0 6), (6, 0, op_il 1 7), (7, 0, op_call 13 43 2 0 0 0 0 10), (10, 0, op_if 0 23 13)],
  [(23, 0, op_push (.inl (none, (-1))) 24), (24, 1, op_goto 0)],
  [],
  [],
  [],
  [(95, 1, op_goto 0)]]
def tb_X10_book : ab_tab := [[(0, 0, op_il 1 1), (1, 0, op_if 0 13 4), (4, 0, op_il 1 5), (5, 0, op_push (.inl (none, 1)) 6), (6, 0, op_icmp 0 13 9), (9, 0, op_push (.inl (none, (-1000))) 12), (12, 1, op_goto 0), (13, 0, op_al 0 14), (14, 0, op_gf 10 9 17)],
  [(17, 0, op_al 0 18), (18, 0, op_gf 10 2 21), (21, 0, op_al 0 22), (22, 0, op_gf 10 0 25), (25, 0, op_call 2 143 3 0 0 0 0 28), (28, 0, op_is 2 29), (29, 0, op_al 0 30), (30, 0, op_gf 10 0 33)],
  [(33, 0, op_push (.inl (none, 0)) 34), (34, 0, op_pf (tyX4 1) 4 1 37), (37, 0, op_il 2 38), (38, 0, op_if 1 52 41)],
  [(51, 1, op_goto 0), (52, 0, op_al 0 53), (53, 0, op_gf 10 5 56), (56, 0, op_al 0 57), (57, 0, op_gf 10 4 60), (60, 0, op_call 9 75 2 0 0 0 0 63), (63, 0, op_al 0 64)],
  [(64, 0, op_gf 10 9 67), (67, 0, op_al 0 68), (68, 0, op_gf 10 2 71), (71, 0, op_al 0 72), (72, 0, op_gf 10 5 75), (75, 0, op_call 2 144 3 0 0 0 0 78), (78, 0, op_il 1 79), (79, 0, op_push (.inl (none, 1)) 80)],
  [(80, 0, op_icmp 1 105 83), (83, 0, op_al 0 84), (84, 0, op_gf 10 6 87), (87, 0, op_al 0 88), (88, 0, op_gf 10 4 91), (91, 0, op_call 3 74 2 0 0 0 0 94), (94, 0, op_al 0 95), (95, 0, op_gf 10 4 98)],
  [(98, 0, op_al 0 99), (99, 0, op_gf 10 5 102), (102, 0, op_call 9 75 2 0 0 0 0 105), (105, 0, op_al 0 106), (106, 0, op_gf 10 9 109), (109, 0, op_gf 0 5 112)],
  [(112, 1, op_goto 0)]]
def tb_X0_read : ab_tab := [[(0, 0, op_al 0 1), (1, 0, op_push (.inl (none, 0)) 2), (2, 0, op_pf (tyX0 3) 0 3 5), (5, 0, op_al 2 6), (6, 0, op_push (.inl (none, 400)) 9), (9, 0, op_call 6 29 2 0 0 0 0 12), (12, 0, op_al 2 13), (13, 0, op_call 6 31 1 0 0 0 0 16)],
  [(16, 0, op_if 1 92 19)],
  [(43, 1, op_goto 0)],
  [(58, 1, op_goto 0)],
  [(78, 1, op_goto 0)],
  [(92, 0, op_push (.inl (none, 1)) 93), (93, 1, op_goto 0)]]
def tb_X0_judge : ab_tab := [[(0, 0, op_al 0 1), (1, 0, op_push (.inl (none, 1)) 2), (2, 0, op_pf (tyX0 4) 0 4 5), (5, 0, op_al 0 6), (6, 0, op_push (.inl (none, (-1))) 7), (7, 0, op_pf (tyX0 5) 0 5 10), (10, 0, op_al 0 11), (11, 0, op_push (.inl (none, 0)) 12), (12, 0, op_pf (tyX0 6) 0 6 15), (15, 0, op_al 0 16)],
  [(16, 0, op_push (.inl (none, 0)) 17), (17, 0, op_pf (tyX0 7) 0 7 20), (20, 0, op_al 0 21), (21, 0, op_gf 0 7 24), (24, 0, op_al 0 25), (25, 0, op_gf 0 3 28), (28, 0, op_icmp 3 83 31)],
  [],
  [],
  [],
  [(83, 0, op_al 0 84), (84, 0, op_al 2 85), (85, 0, op_gf 7 0 88), (88, 0, op_pf (tyX0 8) 0 8 91), (91, 0, op_al 0 92), (92, 0, op_al 2 93), (93, 0, op_al 1 94), (94, 0, op_call 9 62 2 0 0 0 0 97)],
  [(97, 0, op_pf (tyX0 9) 0 9 100), (100, 2, op_goto 0)]]
def tb_X11_book : ab_tab := [[(0, 0, op_al 0 1), (1, 0, op_push (.inl (none, 0)) 2), (2, 0, op_pf (tyX11 0) 11 0 5), (5, 0, op_il 1 6), (6, 0, op_push (.inl (none, 0)) 7), (7, 0, op_push (.inl (none, 1)) 8), (8, 0, op_call 0 44 3 0 0 0 0 11), (11, 0, op_if 1 18 14), (14, 0, op_push (.inl (none, (-1000))) 17)],
  [(17, 1, op_goto 0), (18, 0, op_al 0 19), (19, 0, op_push (.inl (none, 400)) 22), (22, 0, op_call 13 34 2 0 0 0 0 25), (25, 0, op_al 0 26), (26, 0, op_push (.inl (none, 0)) 27), (27, 0, op_pf (tyX11 15) 11 15 30), (30, 0, op_al 0 31), (31, 0, op_push (.inl (none, 0)) 32)],
  [(32, 0, op_pf (tyX11 38) 11 38 35), (35, 0, op_al 0 36), (36, 0, op_call 13 35 1 0 0 0 0 39), (39, 0, op_al 0 40), (40, 0, op_gf 11 11 43), (43, 0, op_if 0 83 46)],
  [],
  [(69, 1, op_goto 0)],
  [(83, 0, op_al 0 84), (84, 0, op_call 13 107 1 0 0 0 0 87), (87, 0, op_push (.inl (none, 0)) 88), (88, 0, op_is 2 89), (89, 0, op_il 2 90), (90, 0, op_push (.inl (none, 4)) 91), (91, 0, op_icmp 3 107 94), (94, 0, op_al 0 95), (95, 0, op_gf 11 39 98)],
  [(98, 0, op_il 2 99), (99, 0, op_push (.inl (none, 0)) 100), (100, 0, op_ast 0 101), (101, 0, op_inc 2 1 104), (104, 0, op_goto 89), (107, 0, op_push (.inl (none, (-1))) 108), (108, 0, op_is 2 109), (109, 0, op_push (.inl (none, 0)) 110), (110, 0, op_is 3 111), (111, 0, op_il 3 112)],
  [(112, 0, op_al 0 113), (113, 0, op_gf 11 38 116), (116, 0, op_icmp 3 191 119)],
  [],
  [],
  [],
  [(191, 0, op_al 0 192)],
  [(192, 0, op_gf 11 39 195), (195, 0, op_push (.inl (none, 2)) 196), (196, 0, op_al 0 197), (197, 0, op_gf 11 6 200), (200, 0, op_push (.inl (none, 100)) 202), (202, 0, op_ald 0 203), (203, 0, op_ast 0 204), (204, 0, op_al 0 205), (205, 0, op_gf 11 39 208)],
  [(208, 0, op_push (.inl (none, 3)) 209), (209, 0, op_al 0 210), (210, 0, op_call 13 66 1 0 0 0 0 213), (213, 0, op_ast 0 214), (214, 0, op_al 0 215), (215, 0, op_push (.inl (none, 1)) 216), (216, 0, op_pf (tyX11 40) 11 40 219), (219, 0, op_il 1 220), (220, 0, op_push (.inl (none, 1)) 221), (221, 0, op_icmp 1 273 224)],
  [(224, 0, op_al 0 225), (225, 0, op_gf 11 39 228), (228, 0, op_push (.inl (none, 1)) 229), (229, 0, op_ald 0 230), (230, 0, op_if 5 273 233)],
  [],
  [],
  [(273, 0, op_il 1 274), (274, 0, op_if 1 281 277), (277, 0, op_al 0 278), (278, 0, op_call 13 109 1 0 0 0 0 281), (281, 0, op_il 2 282), (282, 1, op_goto 0)]]
def tb_X10_told : ab_tab := [[(0, 0, op_al 0 1), (1, 0, op_gf 10 9 4), (4, 0, op_gf 0 4 7), (7, 0, op_if 1 12 10), (10, 0, op_push (.inl (none, (-1))) 11), (11, 1, op_goto 0)],
  [],
  [],
  [(51, 1, op_goto 0), (59, 1, op_goto 0)],
  [(67, 1, op_goto 0), (75, 1, op_goto 0), (77, 1, op_goto 0)]]
def tb_X11_told : ab_tab := [[(0, 0, op_al 0 1), (1, 0, op_push (.inl (none, 0)) 2), (2, 0, op_pf (tyX11 0) 11 0 5), (5, 0, op_al 0 6), (6, 0, op_gf 11 40 9), (9, 0, op_if 0 30 12)],
  [(30, 0, op_push (.inl (none, (-1))) 31), (31, 1, op_goto 0)]]
def tb_X10_sentence : ab_tab := [[(0, 0, op_al 0 1), (1, 0, op_gf 10 8 4), (4, 0, op_al 0 5), (5, 0, op_gf 10 2 8), (8, 0, op_al 0 9), (9, 0, op_gf 10 0 12), (12, 0, op_call 8 149 3 0 0 0 0 15), (15, 0, op_is 1 16)],
  [(16, 0, op_al 0 17), (17, 0, op_gf 10 0 20), (20, 0, op_push (.inl (none, 0)) 21), (21, 0, op_pf (tyX4 1) 4 1 24), (24, 0, op_il 1 25), (25, 0, op_if 1 38 28), (28, 0, op_push (.inl (none, (-1))) 29), (29, 0, op_al 0 30), (30, 0, op_gf 10 0 33)],
  [(33, 0, op_gf 4 13 36), (36, 0, op_b2 (ab_subK) 37), (37, 1, op_goto 0)],
  [(63, 1, op_goto 0)]]
def tb_X6_read : ab_tab := [[(0, 0, op_al 0 1), (1, 0, op_push (.inl (none, 0)) 2), (2, 0, op_pf (tyX6 3) 6 3 5), (5, 0, op_al 0 6), (6, 0, op_push (.inl (none, 0)) 7), (7, 0, op_pf (tyX6 4) 6 4 10), (10, 0, op_al 2 11), (11, 0, op_push (.inl (none, 200)) 14), (14, 0, op_call 6 29 2 0 0 0 0 17)],
  [(17, 0, op_al 0 18), (18, 0, op_al 1 19), (19, 0, op_al 2 20), (20, 0, op_push (.inl (none, 1)) 21), (21, 0, op_call 8 150 4 0 0 0 0 24), (24, 0, op_if 0 46 27)],
  [(46, 0, op_push (.inl (none, 0)) 47), (47, 1, op_goto 0)]]
def tb_X6_readCond : ab_tab := [[(0, 0, op_al 0 1), (1, 0, op_al 1 2), (2, 0, op_al 2 3), (3, 0, op_il 3 4), (4, 0, op_call 8 151 4 0 0 0 0 7), (7, 0, op_if 1 12 10), (10, 0, op_push (.inl (none, 0)) 11), (11, 1, op_goto 0)],
  [],
  [(46, 1, op_goto 0)],
  [(62, 1, op_goto 0)]]
def tb_X6_readAll : ab_tab := [[(0, 0, op_al 0 1), (1, 0, op_al 1 2), (2, 0, op_al 2 3), (3, 0, op_il 3 4), (4, 0, op_call 8 152 4 0 0 0 0 7), (7, 0, op_if 1 12 10), (10, 0, op_push (.inl (none, 0)) 11), (11, 1, op_goto 0)],
  [],
  [(46, 1, op_goto 0)],
  [(62, 1, op_goto 0)]]
def tb_X6_readOne : ab_tab := [[(0, 0, op_al 2 1), (1, 0, op_gf 4 8 4), (4, 0, op_is 4 6), (6, 0, op_al 2 7), (7, 0, op_gf 4 5 10), (10, 0, op_push (.inl (none, 40)) 12), (12, 0, op_icmp 1 19 15)],
  [(19, 0, op_push (.inl (none, 0)) 20), (20, 0, op_is 5 22), (22, 0, op_il 5 24), (24, 0, op_if 1 41 27), (27, 0, op_il 4 29), (29, 0, op_call 0 153 1 0 0 0 0 32)],
  [(32, 0, op_if 1 41 35), (35, 0, op_al 2 36), (36, 0, op_push (.inl (none, 1)) 37), (37, 0, op_call 6 154 2 0 0 0 0 40), (40, 1, op_goto 0)],
  [(61, 1, op_goto 0)],
  [],
  [],
  [(107, 1, op_goto 0)],
  [],
  [(128, 1, op_goto 0), (138, 1, op_goto 0)],
  [(147, 1, op_goto 0)]]
def tb_X6_beginsOne : ab_tab := [[(0, 0, op_il 0 1), (1, 0, op_push (.inl (none, 1)) 2), (2, 0, op_icmp 0 22 5), (5, 0, op_il 0 6), (6, 0, op_push (.inl (none, 2)) 7), (7, 0, op_icmp 0 22 10), (10, 0, op_il 0 11), (11, 0, op_push (.inl (none, 15)) 13), (13, 0, op_icmp 2 26 16)],
  [(26, 0, op_push (.inl (none, 0)) 27), (27, 1, op_goto 0)]]
def tb_X4_failAs : ab_tab := [[(0, 0, op_al 0 1), (1, 0, op_il 1 2), (2, 0, op_pf (tyX4 12) 4 12 5), (5, 0, op_al 0 6), (6, 0, op_al 0 7), (7, 0, op_gf 4 4 10), (10, 0, op_pf (tyX4 13) 4 13 13), (13, 0, op_push (.inl (none, 0)) 14), (14, 1, op_goto 0)]]
def tb_X11_sentence : ab_tab := [[(0, 0, op_al 0 1), (1, 0, op_push (.inl (none, 0)) 2), (2, 0, op_pf (tyX11 0) 11 0 5), (5, 0, op_al 0 6), (6, 0, op_push (.inl (none, 200)) 9), (9, 0, op_call 13 34 2 0 0 0 0 12), (12, 0, op_al 0 13), (13, 0, op_push (.inl (none, 0)) 14), (14, 0, op_pf (tyX11 15) 11 15 17)],
  [(17, 0, op_al 0 18), (18, 0, op_push (.inl (none, 0)) 19), (19, 0, op_pf (tyX11 42) 11 42 22), (22, 0, op_al 0 23), (23, 0, op_push (.inl (none, 0)) 24), (24, 0, op_pf (tyX11 43) 11 43 27), (27, 0, op_al 0 28), (28, 0, op_push (.inl (none, 0)) 29), (29, 0, op_pf (tyX11 44) 11 44 32)],
  [(32, 0, op_al 0 33), (33, 0, op_push (.inl (none, 1)) 34), (34, 0, op_pf (tyX11 45) 11 45 37), (37, 0, op_al 0 38), (38, 0, op_push (.inl (none, 0)) 39), (39, 0, op_pf (tyX11 46) 11 46 42), (42, 0, op_al 0 43), (43, 0, op_call 13 35 1 0 0 0 0 46), (46, 0, op_push (.inl (none, 1)) 47), (47, 0, op_is 1 48)],
  [(48, 0, op_il 1 49), (49, 0, op_if 0 132 52), (52, 0, op_al 0 53), (53, 0, op_gf 11 46 56), (56, 0, op_if 0 101 59)],
  [],
  [(95, 1, op_goto 0)],
  [(101, 0, op_al 0 102), (102, 0, op_gf 11 46 105), (105, 0, op_if 0 118 108)],
  [(118, 0, op_al 0 119), (119, 0, op_call 13 156 1 0 0 0 0 122), (122, 0, op_if 1 48 125), (125, 0, op_push (.inl (none, (-1))) 126), (126, 0, op_al 0 127), (127, 0, op_gf 11 16 130)],
  [(130, 0, op_b2 (ab_subK) 131), (131, 1, op_goto 0)],
  [],
  [],
  [(180, 1, op_goto 0)]]
def tb_X11_operand : ab_tab := [[(0, 0, op_al 0 1), (1, 0, op_lfr 4), (4, 0, op_call 13 157 2 0 0 0 0 7), (7, 0, op_is 1 8), (8, 0, op_al 0 9), (9, 0, op_push (.inl (none, 40)) 11), (11, 0, op_call 13 158 2 0 0 0 0 14), (14, 0, op_is 2 15), (15, 0, op_al 0 16)],
  [(16, 0, op_call 13 159 1 0 0 0 0 19), (19, 0, op_is 3 20), (20, 0, op_il 1 21), (21, 0, op_if 1 38 24), (24, 0, op_il 2 25), (25, 0, op_if 1 38 28), (28, 0, op_il 3 29), (29, 0, op_if 3 38 32)],
  [(32, 0, op_al 0 33), (33, 0, op_push (.inl (none, 1)) 34), (34, 0, op_call 13 160 2 0 0 0 0 37), (37, 1, op_goto 0)],
  [(61, 1, op_goto 0)],
  [],
  [],
  [],
  [(125, 1, op_goto 0)],
  [],
  [(144, 1, op_goto 0)],
  [(165, 1, op_goto 0)],
  [(181, 1, op_goto 0)],
  [],
  [(213, 1, op_goto 0)],
  [(237, 1, op_goto 0)],
  [(254, 1, op_goto 0)]]
def tb_X11_isWord : ab_tab := [[(0, 0, op_al 0 1), (1, 0, op_gf 11 11 4), (4, 0, op_push (.inl (none, 1)) 5), (5, 0, op_icmp 1 21 8)],
  [(21, 0, op_push (.inl (none, 0)) 22), (22, 1, op_goto 0)]]
def tb_X11_isSign : ab_tab := [[(0, 0, op_al 0 1), (1, 0, op_gf 11 11 4), (4, 0, op_push (.inl (none, 3)) 5), (5, 0, op_icmp 1 20 8)],
  [(20, 0, op_push (.inl (none, 0)) 21), (21, 1, op_goto 0)]]
def tb_X11_leafOf : ab_tab := [[(0, 0, op_al 0 1), (1, 0, op_lfr 4), (4, 0, op_call 13 157 2 0 0 0 0 7), (7, 0, op_if 0 14 10), (14, 0, op_al 0 15), (15, 0, op_lfr 18)],
  [(18, 0, op_call 13 157 2 0 0 0 0 21), (21, 0, op_if 0 28 24), (28, 0, op_al 0 29), (29, 0, op_lfr 32)],
  [(32, 0, op_call 13 157 2 0 0 0 0 35), (35, 0, op_if 0 42 38), (42, 0, op_al 0 43), (43, 0, op_lfr 46), (46, 0, op_call 13 157 2 0 0 0 0 49)],
  [(49, 0, op_if 0 56 52), (56, 0, op_al 0 57), (57, 0, op_lfr 60), (60, 0, op_call 13 157 2 0 0 0 0 63), (63, 0, op_if 0 70 66)],
  [(70, 0, op_al 0 71), (71, 0, op_lfr 74), (74, 0, op_call 13 157 2 0 0 0 0 77), (77, 0, op_if 0 84 80)],
  [(84, 0, op_al 0 85), (85, 0, op_lfr 88), (88, 0, op_call 13 157 2 0 0 0 0 91), (91, 0, op_if 0 99 94)],
  [(99, 0, op_al 0 100), (100, 0, op_lfr 103), (103, 0, op_call 13 157 2 0 0 0 0 106), (106, 0, op_if 0 114 109)],
  [(114, 0, op_push (.inl (none, (-1))) 115), (115, 1, op_goto 0)]]
def tb_X11_bad : ab_tab := [[(0, 0, op_al 0 1), (1, 0, op_il 1 2), (2, 0, op_pf (tyX11 15) 11 15 5), (5, 0, op_al 0 6), (6, 0, op_al 0 7), (7, 0, op_gf 11 12 10), (10, 0, op_pf (tyX11 16) 11 16 13), (13, 0, op_push (.inl (none, 0)) 14), (14, 1, op_goto 0)]]
def tb_X10_said : ab_tab := [[(0, 0, op_al 0 1), (1, 0, op_gf 10 7 4), (4, 0, op_gf 6 3 7), (7, 0, op_if 1 12 10), (10, 0, op_push (.inl (none, (-1))) 11), (11, 1, op_goto 0)],
  [],
  [],
  [(52, 1, op_goto 0)],
  [(72, 1, op_goto 0)]]
def tb_X11_said : ab_tab := [[(0, 0, op_al 0 1), (1, 0, op_push (.inl (none, 0)) 2), (2, 0, op_pf (tyX11 0) 11 0 5), (5, 0, op_al 0 6), (6, 0, op_gf 11 6 9), (9, 0, op_push (.inl (none, 124)) 11), (11, 0, op_ald 0 12), (12, 0, op_if 0 20 15)],
  [(20, 0, op_push (.inl (none, (-1))) 21), (21, 1, op_goto 0)],
  [],
  [(53, 1, op_goto 0)],
  [(73, 1, op_goto 0)]]
def tb_X10_image : ab_tab := [[(0, 0, op_il 1 1), (1, 0, op_if 2 13 4), (4, 0, op_il 1 5), (5, 0, op_al 0 6), (6, 0, op_gf 10 12 9), (9, 0, op_len 10), (10, 0, op_icmp 2 15 13), (13, 0, op_push (.inl (none, 0)) 14), (14, 1, op_goto 0), (15, 0, op_al 0 16)],
  [(16, 0, op_gf 10 12 19), (19, 0, op_il 1 20), (20, 0, op_aald 2 21), (21, 0, op_as 2 22), (22, 0, op_al 2 23), (23, 0, op_gf 2 0 26), (26, 0, op_al 0 27), (27, 0, op_gf 10 2 30), (30, 0, op_call 10 164 2 0 0 0 0 33)],
  [(33, 0, op_al 2 34), (34, 0, op_gf 2 1 37), (37, 0, op_al 0 38), (38, 0, op_gf 10 4 41), (41, 0, op_call 9 75 2 0 0 0 0 44), (44, 0, op_al 2 45), (45, 0, op_gf 2 2 48)],
  [(48, 0, op_al 0 49), (49, 0, op_gf 10 7 52), (52, 0, op_call 8 165 2 0 0 0 0 55), (55, 0, op_al 2 56), (56, 0, op_push (.inl (none, 1)) 57), (57, 0, op_pf (tyX2 3) 2 3 60), (60, 0, op_push (.inl (none, 1)) 61), (61, 1, op_goto 0)]]
def tb_X8_copyFrom : ab_tab := [[(0, 0, op_al 0 1), (1, 0, op_al 1 2), (2, 0, op_gf 8 0 5), (5, 0, op_pf (tyX8 0) 8 0 8), (8, 0, op_al 1 9), (9, 0, op_gf 8 1 12), (12, 0, op_push (.inl (none, 0)) 13), (13, 0, op_al 0 14), (14, 0, op_gf 8 1 17)],
  [(17, 0, op_push (.inl (none, 0)) 18), (18, 0, op_push (.inl (none, 7)) 20), (20, 0, op_ac 1 23), (23, 0, op_al 1 24), (24, 0, op_gf 8 2 27), (27, 0, op_push (.inl (none, 0)) 28), (28, 0, op_al 0 29), (29, 0, op_gf 8 2 32)],
  [(32, 0, op_push (.inl (none, 0)) 33), (33, 0, op_push (.inl (none, 7)) 35), (35, 0, op_ac 0 38), (38, 0, op_al 1 39), (39, 0, op_gf 8 3 42), (42, 0, op_push (.inl (none, 0)) 43), (43, 0, op_al 0 44), (44, 0, op_gf 8 3 47), (47, 0, op_push (.inl (none, 0)) 48)],
  [(48, 0, op_push (.inl (none, 7)) 50), (50, 0, op_ac 0 53), (53, 0, op_al 0 54), (54, 0, op_al 1 55), (55, 0, op_gf 8 4 58), (58, 0, op_pf (tyX8 4) 8 4 61), (61, 0, op_al 1 62), (62, 0, op_gf 8 5 65)],
  [(65, 0, op_push (.inl (none, 0)) 66), (66, 0, op_al 0 67), (67, 0, op_gf 8 5 70), (70, 0, op_push (.inl (none, 0)) 71), (71, 0, op_push (.inl (none, 12)) 73), (73, 0, op_ac 0 76), (76, 0, op_al 1 77), (77, 0, op_gf 8 6 80)],
  [(80, 0, op_push (.inl (none, 0)) 81), (81, 0, op_al 0 82), (82, 0, op_gf 8 6 85), (85, 0, op_push (.inl (none, 0)) 86), (86, 0, op_push (.inl (none, 12)) 88), (88, 0, op_ac 0 91), (91, 0, op_al 1 92), (92, 0, op_gf 8 7 95), (95, 0, op_push (.inl (none, 0)) 96)],
  [(96, 0, op_al 0 97), (97, 0, op_gf 8 7 100), (100, 0, op_push (.inl (none, 0)) 101), (101, 0, op_push (.inl (none, 12)) 103), (103, 0, op_ac 0 106), (106, 0, op_al 1 107), (107, 0, op_gf 8 8 110), (110, 0, op_push (.inl (none, 0)) 111), (111, 0, op_al 0 112)],
  [(112, 0, op_gf 8 8 115), (115, 0, op_push (.inl (none, 0)) 116), (116, 0, op_push (.inl (none, 12)) 118), (118, 0, op_ac 0 121), (121, 0, op_al 0 122), (122, 0, op_al 1 123), (123, 0, op_gf 8 9 126), (126, 0, op_pf (tyX8 9) 8 9 129)],
  [(129, 0, op_al 1 130), (130, 0, op_gf 8 10 133), (133, 0, op_push (.inl (none, 0)) 134), (134, 0, op_al 0 135), (135, 0, op_gf 8 10 138), (138, 0, op_push (.inl (none, 0)) 139), (139, 0, op_push (.inl (none, 8)) 141), (141, 0, op_ac 1 144)],
  [(144, 0, op_al 1 145), (145, 0, op_gf 8 11 148), (148, 0, op_push (.inl (none, 0)) 149), (149, 0, op_al 0 150), (150, 0, op_gf 8 11 153), (153, 0, op_push (.inl (none, 0)) 154), (154, 0, op_push (.inl (none, 8)) 156), (156, 0, op_ac 0 159), (159, 0, op_al 1 160)],
  [(160, 0, op_gf 8 12 163), (163, 0, op_push (.inl (none, 0)) 164), (164, 0, op_al 0 165), (165, 0, op_gf 8 12 168), (168, 0, op_push (.inl (none, 0)) 169), (169, 0, op_push (.inl (none, 8)) 171), (171, 0, op_ac 0 174), (174, 0, op_al 1 175), (175, 0, op_gf 8 13 178)],
  [(178, 0, op_push (.inl (none, 0)) 179), (179, 0, op_al 0 180), (180, 0, op_gf 8 13 183), (183, 0, op_push (.inl (none, 0)) 184), (184, 0, op_push (.inl (none, 8)) 186), (186, 0, op_ac 0 189), (189, 0, op_al 1 190), (190, 0, op_gf 8 14 193)],
  [(193, 0, op_push (.inl (none, 0)) 194), (194, 0, op_al 0 195), (195, 0, op_gf 8 14 198), (198, 0, op_push (.inl (none, 0)) 199), (199, 0, op_push (.inl (none, 8)) 201), (201, 0, op_ac 0 204), (204, 0, op_al 1 205), (205, 0, op_gf 8 15 208)],
  [(208, 0, op_push (.inl (none, 0)) 209), (209, 0, op_al 0 210), (210, 0, op_gf 8 15 213), (213, 0, op_push (.inl (none, 0)) 214), (214, 0, op_al 0 215), (215, 0, op_gf 8 15 218), (218, 0, op_len 219), (219, 0, op_ac 0 222), (222, 2, op_goto 0)]]
def tb_X6_copyFrom : ab_tab := [[(0, 0, op_al 0 1), (1, 0, op_al 1 2), (2, 0, op_gf 6 3 5), (5, 0, op_pf (tyX6 3) 6 3 8), (8, 0, op_al 0 9), (9, 0, op_al 1 10), (10, 0, op_gf 6 4 13), (13, 0, op_pf (tyX6 4) 6 4 16)],
  [(16, 0, op_al 1 17), (17, 0, op_gf 6 0 20), (20, 0, op_push (.inl (none, 0)) 21), (21, 0, op_al 0 22), (22, 0, op_gf 6 0 25), (25, 0, op_push (.inl (none, 0)) 26), (26, 0, op_push (.inl (none, 40)) 28), (28, 0, op_ac 0 31), (31, 0, op_al 1 32)],
  [(32, 0, op_gf 6 1 35), (35, 0, op_push (.inl (none, 0)) 36), (36, 0, op_al 0 37), (37, 0, op_gf 6 1 40), (40, 0, op_push (.inl (none, 0)) 41), (41, 0, op_push (.inl (none, 40)) 43), (43, 0, op_ac 0 46), (46, 0, op_al 1 47), (47, 0, op_gf 6 2 50)],
  [(50, 0, op_push (.inl (none, 0)) 51), (51, 0, op_al 0 52), (52, 0, op_gf 6 2 55), (55, 0, op_push (.inl (none, 0)) 56), (56, 0, op_push (.inl (none, 40)) 58), (58, 0, op_ac 0 61), (61, 2, op_goto 0)]]
def tb_X11_image : ab_tab := [[(0, 0, op_al 0 1), (1, 0, op_push (.inl (none, 0)) 2), (2, 0, op_pf (tyX11 0) 11 0 5), (5, 0, op_il 1 6), (6, 0, op_push (.inl (none, 0)) 7), (7, 0, op_push (.inl (none, 1)) 8), (8, 0, op_call 0 44 3 0 0 0 0 11), (11, 0, op_if 1 16 14), (14, 0, op_push (.inl (none, 0)) 15), (15, 1, op_goto 0)],
  [(16, 0, op_push (.inl (none, 0)) 17), (17, 0, op_is 2 18), (18, 0, op_il 2 19), (19, 0, op_push (.inl (none, 305)) 22), (22, 0, op_icmp 3 49 25), (25, 0, op_al 0 26), (26, 0, op_gf 11 48 29), (29, 0, op_push (.inl (none, 305)) 32)],
  [(32, 0, op_il 1 33), (33, 0, op_b2 (ab_binK (fun u v => u * v)) 34), (34, 0, op_il 2 35), (35, 0, op_b2 (ab_addK) 36), (36, 0, op_al 0 37), (37, 0, op_gf 11 6 40), (40, 0, op_il 2 41), (41, 0, op_ald 0 42), (42, 0, op_ast 0 43), (43, 0, op_inc 2 1 46), (46, 0, op_goto 18)],
  [(49, 0, op_push (.inl (none, 0)) 50), (50, 0, op_is 2 51), (51, 0, op_il 2 52), (52, 0, op_push (.inl (none, 15)) 54), (54, 0, op_icmp 3 80 57), (57, 0, op_al 0 58), (58, 0, op_gf 11 49 61), (61, 0, op_push (.inl (none, 15)) 63), (63, 0, op_il 1 64)],
  [(64, 0, op_b2 (ab_binK (fun u v => u * v)) 65), (65, 0, op_il 2 66), (66, 0, op_b2 (ab_addK) 67), (67, 0, op_al 0 68), (68, 0, op_gf 11 9 71), (71, 0, op_il 2 72), (72, 0, op_ald 1 73), (73, 0, op_ast 1 74), (74, 0, op_inc 2 1 77), (77, 0, op_goto 51)],
  [(80, 0, op_al 0 81), (81, 0, op_gf 11 50 84), (84, 0, op_il 1 85), (85, 0, op_push (.inl (none, 1)) 86), (86, 0, op_ast 3 87), (87, 0, op_push (.inl (none, 1)) 88), (88, 1, op_goto 0)]]
def tb_X10_restore : ab_tab := [[(0, 0, op_il 1 1), (1, 0, op_if 2 25 4), (4, 0, op_il 1 5), (5, 0, op_al 0 6), (6, 0, op_gf 10 12 9), (9, 0, op_len 10), (10, 0, op_icmp 3 25 13), (13, 0, op_al 0 14), (14, 0, op_gf 10 12 17)],
  [(17, 0, op_il 1 18), (18, 0, op_aald 2 19), (19, 0, op_gf 2 3 22), (22, 0, op_if 1 27 25), (25, 0, op_push (.inl (none, 0)) 26), (26, 1, op_goto 0)],
  [],
  [],
  [(76, 1, op_goto 0)]]
def tb_X11_restore : ab_tab := [[(0, 0, op_al 0 1), (1, 0, op_push (.inl (none, 0)) 2), (2, 0, op_pf (tyX11 0) 11 0 5), (5, 0, op_il 1 6), (6, 0, op_push (.inl (none, 0)) 7), (7, 0, op_push (.inl (none, 1)) 8), (8, 0, op_call 0 44 3 0 0 0 0 11), (11, 0, op_if 0 23 14), (14, 0, op_al 0 15), (15, 0, op_gf 11 50 18)],
  [(18, 0, op_il 1 19), (19, 0, op_ald 3 20), (20, 0, op_if 1 25 23), (23, 0, op_push (.inl (none, 0)) 24), (24, 1, op_goto 0)],
  [],
  [],
  [],
  [(95, 1, op_goto 0)]]
def tb_X10_count : ab_tab := [[(0, 0, op_il 1 1), (1, 0, op_tsw 0 6 [44, 52, 60, 68, 76, 84, 92] 100)],
  [],
  [(44, 0, op_al 0 45), (45, 0, op_gf 10 2 48)],
  [(48, 0, op_gf 8 0 51), (51, 1, op_goto 0), (52, 0, op_al 0 53), (53, 0, op_gf 10 2 56), (56, 0, op_gf 8 4 59), (59, 1, op_goto 0), (60, 0, op_al 0 61), (61, 0, op_gf 10 2 64)],
  [(64, 0, op_gf 8 9 67), (67, 1, op_goto 0), (68, 0, op_al 0 69), (69, 0, op_gf 10 2 72), (72, 0, op_call 10 170 1 0 0 0 0 75), (75, 1, op_goto 0), (76, 0, op_al 0 77), (77, 0, op_gf 10 2 80)],
  [(80, 0, op_call 10 171 1 0 0 0 0 83), (83, 1, op_goto 0), (84, 0, op_al 0 85), (85, 0, op_gf 10 2 88), (88, 0, op_call 10 172 1 0 0 0 0 91), (91, 1, op_goto 0), (92, 0, op_al 0 93), (93, 0, op_gf 10 0 96)],
  [(96, 0, op_gf 4 1 99), (99, 1, op_goto 0), (100, 0, op_push (.inl (none, (-1))) 101), (101, 1, op_goto 0)]]
def tb_X8_limit : ab_tab := [[(0, 0, op_al 0 1), (1, 0, op_gf 8 15 4), (4, 0, op_push (.inl (none, 0)) 5), (5, 0, op_ald 0 6), (6, 1, op_goto 0)]]
def tb_X8_change : ab_tab := [[(0, 0, op_al 0 1), (1, 0, op_gf 8 15 4), (4, 0, op_push (.inl (none, 1)) 5), (5, 0, op_ald 0 6), (6, 1, op_goto 0)]]
def tb_X8_frost : ab_tab := [[(0, 0, op_al 0 1), (1, 0, op_gf 8 15 4), (4, 0, op_push (.inl (none, 2)) 5), (5, 0, op_ald 0 6), (6, 1, op_goto 0)]]
def tb_X11_count : ab_tab := [[(0, 0, op_al 0 1), (1, 0, op_push (.inl (none, 0)) 2), (2, 0, op_pf (tyX11 0) 11 0 5), (5, 0, op_il 1 6), (6, 0, op_push (.inl (none, 6)) 8), (8, 0, op_icmp 1 18 11), (11, 0, op_al 0 12), (12, 0, op_gf 11 2 15), (15, 0, op_goto 37)],
  [(18, 0, op_il 1 19), (19, 0, op_push (.inl (none, 0)) 20), (20, 0, op_push (.inl (none, 5)) 21), (21, 0, op_call 0 44 3 0 0 0 0 24), (24, 0, op_if 0 36 27), (27, 0, op_al 0 28), (28, 0, op_gf 11 6 31), (31, 0, op_il 1 32)],
  [(32, 0, op_ald 0 33), (33, 0, op_goto 37), (36, 0, op_push (.inl (none, (-1))) 37), (37, 1, op_goto 0)]]
def tb_L_law : ab_tab := [[(0, 0, op_new 10 17 [.inr (.inr (0, 0)), .inr (.inr (0, 0)), .inr (.inr (0, 0)), .inr (.inr (0, 0)), .inr (.inr (0, 0)), .inr (.inr (0, 0)), .inr (.inr (0, 0)), .inr (.inr (0, 0)), .inr (.inr (0, 0)), .inr (.inr (0, 0)), .inr (.inr (0, 0)), .inr (.inr (0, 0)), .inr (.inr (0, 0)), .inr (.inr (0, 0)), .inl (none, 0), .inr (.inr (0, 0)), .inl (none, 0)] 600002 7302232 3), (3, 0, op_dup 4), (4, 0, op_call 12 0 1 141 2556 600002 7302232 7), (7, 0, op_as 1 8), (8, 0, op_new 11 51 [.inl (none, 0), .inr (.inr (0, 0)), .inl (none, 0), .inl (none, 0), .inl (none, 0), .inl (none, 0), .inr (.inr (0, 0)), .inr (.inr (0, 0)), .inr (.inr (0, 0)), .inr (.inr (0, 0)), .inr (.inr (0, 0)), .inl (none, 0), .inl (none, 0), .inl (none, 0), .inl (none, 0), .inl (none, 0), .inl (none, 0), .inr (.inl (.inl (none, 0))), .inl (none, 0), .inl (none, 0), .inl (none, 0), .inr (.inr (0, 0)), .inr (.inr (0, 0)), .inl (none, 0), .inr (.inr (0, 0)), .inr (.inr (0, 0)), .inr (.inr (0, 0)), .inl (none, 0), .inl (none, 0), .inr (.inr (0, 0)), .inr (.inr (0, 0)), .inr (.inr (0, 0)), .inr (.inr (0, 0)), .inr (.inr (0, 0)), .inl (none, 0), .inr (.inr (0, 0)), .inl (none, 0), .inl (none, 0), .inl (none, 0), .inr (.inr (0, 0)), .inl (none, 0), .inr (.inr (0, 0)), .inl (none, 0), .inl (none, 0), .inl (none, 0), .inl (none, 0), .inl (none, 0), .inr (.inr (0, 0)), .inr (.inr (0, 0)), .inr (.inr (0, 0)), .inr (.inr (0, 0))] 600002 7302232 11), (11, 0, op_dup 12), (12, 0, op_call 13 18 1 23 2596 600002 7302232 15), (15, 0, op_as 2 16)],
  [(16, 0, op_push (.inl (none, 1)) 17), (17, 0, op_na 1 (.inr (.inl (.inl (none, 0)))) 600002 7302232 19), (19, 0, op_as 3 20), (20, 0, op_push (.inl (none, 0)) 21), (21, 0, op_is 4 23), (23, 0, op_il 4 25), (25, 0, op_al 0 26), (26, 0, op_slen 27), (27, 0, op_push (.inl (none, 6)) 29), (29, 0, op_b2 (ab_subK) 30), (30, 0, op_icmp 4 1664 33)],
  [(33, 0, op_al 0 34), (34, 0, op_il 4 36), (36, 0, op_sld 37), (37, 0, op_push (.inl (none, 63)) 39), (39, 0, op_b2 (ab_andK) 40), (40, 0, op_tsw 0 40 [220, 293, 318, 331, 344, 412, 480, 548, 616, 672, 709, 734, 759, 772, 797, 810, 854, 898, 911, 967, 980, 1005, 1073, 1122, 1147, 1160, 1228, 1241, 1297, 1334, 1359, 1384, 1409, 1446, 1495, 1520, 1545, 1558, 1583, 1608, 1633] 1658)],
  [],
  [],
  [],
  [],
  [],
  [],
  [],
  [],
  [],
  [],
  [(220, 0, op_al 1 221), (221, 0, op_al 0 222), (222, 0, op_il 4 224)],
  [(224, 0, op_push (.inl (none, 1)) 225), (225, 0, op_b2 (ab_addK) 226), (226, 0, op_sld 227), (227, 0, op_al 0 228), (228, 0, op_il 4 230), (230, 0, op_push (.inl (none, 2)) 231), (231, 0, op_b2 (ab_addK) 232), (232, 0, op_sld 233), (233, 0, op_al 0 234), (234, 0, op_il 4 236), (236, 0, op_push (.inl (none, 3)) 237), (237, 0, op_b2 (ab_addK) 238), (238, 0, op_sld 239), (239, 0, op_al 0 240)],
  [(240, 0, op_il 4 242), (242, 0, op_push (.inl (none, 4)) 243), (243, 0, op_b2 (ab_addK) 244), (244, 0, op_sld 245), (245, 0, op_al 0 246), (246, 0, op_il 4 248), (248, 0, op_push (.inl (none, 5)) 249), (249, 0, op_b2 (ab_addK) 250), (250, 0, op_sld 251), (251, 0, op_call 12 20 6 0 0 600002 7302232 254), (254, 0, op_al 2 255), (255, 0, op_al 0 256)],
  [(256, 0, op_il 4 258), (258, 0, op_push (.inl (none, 1)) 259), (259, 0, op_b2 (ab_addK) 260), (260, 0, op_sld 261), (261, 0, op_al 0 262), (262, 0, op_il 4 264), (264, 0, op_push (.inl (none, 2)) 265), (265, 0, op_b2 (ab_addK) 266), (266, 0, op_sld 267), (267, 0, op_al 0 268), (268, 0, op_il 4 270), (270, 0, op_push (.inl (none, 3)) 271), (271, 0, op_b2 (ab_addK) 272)],
  [(272, 0, op_sld 273), (273, 0, op_al 0 274), (274, 0, op_il 4 276), (276, 0, op_push (.inl (none, 4)) 277), (277, 0, op_b2 (ab_addK) 278), (278, 0, op_sld 279), (279, 0, op_al 0 280), (280, 0, op_il 4 282), (282, 0, op_push (.inl (none, 5)) 283), (283, 0, op_b2 (ab_addK) 284), (284, 0, op_sld 285), (285, 0, op_call 13 22 6 0 0 600002 7302232 288)],
  [(288, 0, op_icmp 0 1658 291), (292, 1, op_goto 0), (293, 0, op_al 1 294), (294, 0, op_al 0 295), (295, 0, op_il 4 297), (297, 0, op_push (.inl (none, 1)) 298), (298, 0, op_b2 (ab_addK) 299), (299, 0, op_sld 300), (300, 0, op_call 12 24 2 0 0 600002 7302232 303), (303, 0, op_al 2 304)],
  [(304, 0, op_al 0 305), (305, 0, op_il 4 307), (307, 0, op_push (.inl (none, 1)) 308), (308, 0, op_b2 (ab_addK) 309), (309, 0, op_sld 310), (310, 0, op_call 13 25 2 0 0 600002 7302232 313), (313, 0, op_icmp 0 1658 316), (317, 1, op_goto 0), (318, 0, op_al 1 319), (319, 0, op_call 12 26 1 0 0 600002 7302232 322)],
  [(322, 0, op_al 2 323), (323, 0, op_call 13 33 1 0 0 600002 7302232 326), (326, 0, op_icmp 0 1658 329), (330, 1, op_goto 0), (331, 0, op_al 1 332), (332, 0, op_call 12 37 1 0 0 600002 7302232 335), (335, 0, op_al 2 336)],
  [(336, 0, op_call 13 38 1 0 0 600002 7302232 339), (339, 0, op_icmp 0 1658 342), (343, 1, op_goto 0), (344, 0, op_al 1 345), (345, 0, op_al 0 346), (346, 0, op_il 4 348), (348, 0, op_push (.inl (none, 1)) 349), (349, 0, op_b2 (ab_addK) 350), (350, 0, op_sld 351), (351, 0, op_al 0 352)],
  [(352, 0, op_il 4 354), (354, 0, op_push (.inl (none, 2)) 355), (355, 0, op_b2 (ab_addK) 356), (356, 0, op_sld 357), (357, 0, op_al 3 358), (358, 0, op_call 0 39 4 1 6 600002 7302232 361), (361, 0, op_is 5 363), (363, 0, op_al 2 364), (364, 0, op_al 0 365), (365, 0, op_il 4 367), (367, 0, op_push (.inl (none, 1)) 368)],
  [(368, 0, op_b2 (ab_addK) 369), (369, 0, op_sld 370), (370, 0, op_al 0 371), (371, 0, op_il 4 373), (373, 0, op_push (.inl (none, 2)) 374), (374, 0, op_b2 (ab_addK) 375), (375, 0, op_sld 376), (376, 0, op_call 13 42 3 0 0 600002 7302232 379), (379, 0, op_is 6 381), (381, 0, op_al 2 382), (382, 0, op_call 13 46 1 0 0 600002 7302232 385)],
  [(385, 0, op_il 5 387), (387, 0, op_icmp 0 392 390), (391, 1, op_goto 0), (392, 0, op_il 5 394), (394, 0, op_if 1 409 397)],
  [(408, 1, op_goto 0), (409, 0, op_goto 1658), (412, 0, op_al 1 413), (413, 0, op_al 0 414), (414, 0, op_il 4 416)],
  [(416, 0, op_push (.inl (none, 1)) 417), (417, 0, op_b2 (ab_addK) 418), (418, 0, op_sld 419), (419, 0, op_al 0 420), (420, 0, op_il 4 422), (422, 0, op_push (.inl (none, 2)) 423), (423, 0, op_b2 (ab_addK) 424), (424, 0, op_sld 425), (425, 0, op_al 3 426), (426, 0, op_call 0 47 4 1 6 600002 7302232 429), (429, 0, op_is 5 431), (431, 0, op_al 2 432)],
  [(432, 0, op_al 0 433), (433, 0, op_il 4 435), (435, 0, op_push (.inl (none, 1)) 436), (436, 0, op_b2 (ab_addK) 437), (437, 0, op_sld 438), (438, 0, op_al 0 439), (439, 0, op_il 4 441), (441, 0, op_push (.inl (none, 2)) 442), (442, 0, op_b2 (ab_addK) 443), (443, 0, op_sld 444), (444, 0, op_call 13 49 3 0 0 600002 7302232 447), (447, 0, op_is 6 449)],
  [(449, 0, op_al 2 450), (450, 0, op_call 13 46 1 0 0 600002 7302232 453), (453, 0, op_il 5 455), (455, 0, op_icmp 0 460 458), (459, 1, op_goto 0), (460, 0, op_il 5 462), (462, 0, op_if 1 477 465)],
  [(476, 1, op_goto 0), (477, 0, op_goto 1658)],
  [(480, 0, op_al 1 481), (481, 0, op_al 0 482), (482, 0, op_il 4 484), (484, 0, op_push (.inl (none, 1)) 485), (485, 0, op_b2 (ab_addK) 486), (486, 0, op_sld 487), (487, 0, op_al 0 488), (488, 0, op_il 4 490), (490, 0, op_push (.inl (none, 2)) 491), (491, 0, op_b2 (ab_addK) 492), (492, 0, op_sld 493), (493, 0, op_al 3 494), (494, 0, op_call 0 50 4 1 6 600002 7302232 497)],
  [(497, 0, op_is 5 499), (499, 0, op_al 2 500), (500, 0, op_al 0 501), (501, 0, op_il 4 503), (503, 0, op_push (.inl (none, 1)) 504), (504, 0, op_b2 (ab_addK) 505), (505, 0, op_sld 506), (506, 0, op_al 0 507), (507, 0, op_il 4 509), (509, 0, op_push (.inl (none, 2)) 510), (510, 0, op_b2 (ab_addK) 511), (511, 0, op_sld 512)],
  [(512, 0, op_call 13 53 3 0 0 600002 7302232 515), (515, 0, op_is 6 517), (517, 0, op_al 2 518), (518, 0, op_call 13 46 1 0 0 600002 7302232 521), (521, 0, op_il 5 523), (523, 0, op_icmp 0 528 526), (527, 1, op_goto 0)],
  [(528, 0, op_il 5 530), (530, 0, op_if 1 545 533)],
  [(544, 1, op_goto 0), (545, 0, op_goto 1658), (548, 0, op_al 1 549), (549, 0, op_al 0 550), (550, 0, op_il 4 552), (552, 0, op_push (.inl (none, 1)) 553), (553, 0, op_b2 (ab_addK) 554), (554, 0, op_sld 555), (555, 0, op_al 0 556), (556, 0, op_il 4 558), (558, 0, op_push (.inl (none, 2)) 559), (559, 0, op_b2 (ab_addK) 560)],
  [(560, 0, op_sld 561), (561, 0, op_al 3 562), (562, 0, op_call 0 55 4 1 6 600002 7302232 565), (565, 0, op_is 5 567), (567, 0, op_al 2 568), (568, 0, op_al 0 569), (569, 0, op_il 4 571), (571, 0, op_push (.inl (none, 1)) 572), (572, 0, op_b2 (ab_addK) 573), (573, 0, op_sld 574), (574, 0, op_al 0 575), (575, 0, op_il 4 577)],
  [(577, 0, op_push (.inl (none, 2)) 578), (578, 0, op_b2 (ab_addK) 579), (579, 0, op_sld 580), (580, 0, op_call 13 57 3 0 0 600002 7302232 583), (583, 0, op_is 6 585), (585, 0, op_al 2 586), (586, 0, op_call 13 46 1 0 0 600002 7302232 589), (589, 0, op_il 5 591), (591, 0, op_icmp 0 596 594)],
  [(595, 1, op_goto 0), (596, 0, op_il 5 598), (598, 0, op_if 1 613 601)],
  [(612, 1, op_goto 0), (613, 0, op_goto 1658), (616, 0, op_al 1 617), (617, 0, op_al 0 618), (618, 0, op_il 4 620), (620, 0, op_push (.inl (none, 1)) 621), (621, 0, op_b2 (ab_addK) 622), (622, 0, op_sld 623), (623, 0, op_al 3 624)],
  [(624, 0, op_call 0 58 3 1 6 600002 7302232 627), (627, 0, op_is 5 629), (629, 0, op_al 2 630), (630, 0, op_al 0 631), (631, 0, op_il 4 633), (633, 0, op_push (.inl (none, 1)) 634), (634, 0, op_b2 (ab_addK) 635), (635, 0, op_sld 636), (636, 0, op_call 13 64 2 0 0 600002 7302232 639), (639, 0, op_is 6 641)],
  [(641, 0, op_al 2 642), (642, 0, op_call 13 46 1 0 0 600002 7302232 645), (645, 0, op_il 5 647), (647, 0, op_icmp 0 652 650), (651, 1, op_goto 0), (652, 0, op_il 5 654), (654, 0, op_if 1 669 657)],
  [(657, 0, op_al 3 658), (658, 0, op_push (.inl (none, 0)) 659), (659, 0, op_ald 1 660), (660, 0, op_il 6 662), (662, 0, op_i2l 663), (663, 0, op_lcmp 664), (664, 0, op_if 0 669 667), (668, 1, op_goto 0), (669, 0, op_goto 1658)],
  [(672, 0, op_al 1 673), (673, 0, op_al 0 674), (674, 0, op_il 4 676), (676, 0, op_push (.inl (none, 1)) 677), (677, 0, op_b2 (ab_addK) 678), (678, 0, op_sld 679), (679, 0, op_al 0 680), (680, 0, op_il 4 682), (682, 0, op_push (.inl (none, 2)) 683), (683, 0, op_b2 (ab_addK) 684), (684, 0, op_sld 685), (685, 0, op_call 12 67 3 0 0 600002 7302232 688)],
  [(688, 0, op_al 2 689), (689, 0, op_al 0 690), (690, 0, op_il 4 692), (692, 0, op_push (.inl (none, 1)) 693), (693, 0, op_b2 (ab_addK) 694), (694, 0, op_sld 695), (695, 0, op_al 0 696), (696, 0, op_il 4 698), (698, 0, op_push (.inl (none, 2)) 699), (699, 0, op_b2 (ab_addK) 700), (700, 0, op_sld 701), (701, 0, op_call 13 68 3 0 0 600002 7302232 704)],
  [(704, 0, op_icmp 0 1658 707), (708, 1, op_goto 0), (709, 0, op_al 1 710), (710, 0, op_al 0 711), (711, 0, op_il 4 713), (713, 0, op_push (.inl (none, 1)) 714), (714, 0, op_b2 (ab_addK) 715), (715, 0, op_sld 716), (716, 0, op_call 12 69 2 0 0 600002 7302232 719), (719, 0, op_al 2 720)],
  [(720, 0, op_al 0 721), (721, 0, op_il 4 723), (723, 0, op_push (.inl (none, 1)) 724), (724, 0, op_b2 (ab_addK) 725), (725, 0, op_sld 726), (726, 0, op_call 13 70 2 0 0 600002 7302232 729), (729, 0, op_icmp 0 1658 732), (733, 1, op_goto 0), (734, 0, op_al 1 735), (735, 0, op_al 0 736)],
  [(736, 0, op_il 4 738), (738, 0, op_push (.inl (none, 1)) 739), (739, 0, op_b2 (ab_addK) 740), (740, 0, op_sld 741), (741, 0, op_call 12 71 2 0 0 600002 7302232 744), (744, 0, op_al 2 745), (745, 0, op_al 0 746), (746, 0, op_il 4 748), (748, 0, op_push (.inl (none, 1)) 749), (749, 0, op_b2 (ab_addK) 750), (750, 0, op_sld 751), (751, 0, op_call 13 72 2 0 0 600002 7302232 754)],
  [(754, 0, op_icmp 0 1658 757), (758, 1, op_goto 0), (759, 0, op_al 1 760), (760, 0, op_call 12 73 1 0 0 600002 7302232 763), (763, 0, op_al 2 764), (764, 0, op_call 13 77 1 0 0 600002 7302232 767), (767, 0, op_icmp 0 1658 770)],
  [(771, 1, op_goto 0), (772, 0, op_al 1 773), (773, 0, op_al 0 774), (774, 0, op_il 4 776), (776, 0, op_push (.inl (none, 1)) 777), (777, 0, op_b2 (ab_addK) 778), (778, 0, op_sld 779), (779, 0, op_call 12 80 2 0 0 600002 7302232 782), (782, 0, op_al 2 783), (783, 0, op_al 0 784)],
  [(784, 0, op_il 4 786), (786, 0, op_push (.inl (none, 1)) 787), (787, 0, op_b2 (ab_addK) 788), (788, 0, op_sld 789), (789, 0, op_call 13 84 2 0 0 600002 7302232 792), (792, 0, op_icmp 0 1658 795), (796, 1, op_goto 0), (797, 0, op_al 1 798), (798, 0, op_call 12 86 1 0 0 600002 7302232 801)],
  [(801, 0, op_al 2 802), (802, 0, op_call 13 88 1 0 0 600002 7302232 805), (805, 0, op_icmp 0 1658 808), (809, 1, op_goto 0), (810, 0, op_al 1 811), (811, 0, op_al 3 812), (812, 0, op_call 0 89 2 1 6 600002 7302232 815), (815, 0, op_is 5 817)],
  [(817, 0, op_al 2 818), (818, 0, op_call 13 91 1 0 0 600002 7302232 821), (821, 0, op_is 6 823), (823, 0, op_al 2 824), (824, 0, op_call 13 46 1 0 0 600002 7302232 827), (827, 0, op_il 5 829), (829, 0, op_icmp 0 834 832)],
  [(833, 1, op_goto 0), (834, 0, op_il 5 836), (836, 0, op_if 1 851 839)],
  [(850, 1, op_goto 0), (851, 0, op_goto 1658), (854, 0, op_al 1 855), (855, 0, op_al 3 856), (856, 0, op_call 0 93 2 1 6 600002 7302232 859), (859, 0, op_is 5 861), (861, 0, op_al 2 862), (862, 0, op_call 13 96 1 0 0 600002 7302232 865)],
  [(865, 0, op_is 6 867), (867, 0, op_al 2 868), (868, 0, op_call 13 46 1 0 0 600002 7302232 871), (871, 0, op_il 5 873), (873, 0, op_icmp 0 878 876), (877, 1, op_goto 0), (878, 0, op_il 5 880)],
  [(880, 0, op_if 1 895 883), (894, 1, op_goto 0), (895, 0, op_goto 1658)],
  [(898, 0, op_al 1 899), (899, 0, op_call 12 97 1 0 0 600002 7302232 902), (902, 0, op_al 2 903), (903, 0, op_call 13 99 1 0 0 600002 7302232 906), (906, 0, op_icmp 0 1658 909), (910, 1, op_goto 0), (911, 0, op_al 1 912)],
  [(912, 0, op_al 0 913), (913, 0, op_il 4 915), (915, 0, op_push (.inl (none, 1)) 916), (916, 0, op_b2 (ab_addK) 917), (917, 0, op_sld 918), (918, 0, op_al 3 919), (919, 0, op_call 0 101 3 1 6 600002 7302232 922), (922, 0, op_is 5 924), (924, 0, op_al 2 925), (925, 0, op_al 0 926), (926, 0, op_il 4 928)],
  [(928, 0, op_push (.inl (none, 1)) 929), (929, 0, op_b2 (ab_addK) 930), (930, 0, op_sld 931), (931, 0, op_call 13 103 2 0 0 600002 7302232 934), (934, 0, op_is 6 936), (936, 0, op_al 2 937), (937, 0, op_call 13 46 1 0 0 600002 7302232 940), (940, 0, op_il 5 942), (942, 0, op_icmp 0 947 945)],
  [(946, 1, op_goto 0), (947, 0, op_il 5 949), (949, 0, op_if 1 964 952)],
  [(963, 1, op_goto 0), (964, 0, op_goto 1658), (967, 0, op_al 1 968), (968, 0, op_call 12 104 1 0 0 600002 7302232 971), (971, 0, op_al 2 972), (972, 0, op_call 13 106 1 0 0 600002 7302232 975), (975, 0, op_icmp 0 1658 978)],
  [(979, 1, op_goto 0), (980, 0, op_al 1 981), (981, 0, op_al 0 982), (982, 0, op_il 4 984), (984, 0, op_push (.inl (none, 1)) 985), (985, 0, op_b2 (ab_addK) 986), (986, 0, op_sld 987), (987, 0, op_call 12 110 2 0 0 600002 7302232 990), (990, 0, op_al 2 991), (991, 0, op_al 0 992)],
  [(992, 0, op_il 4 994), (994, 0, op_push (.inl (none, 1)) 995), (995, 0, op_b2 (ab_addK) 996), (996, 0, op_sld 997), (997, 0, op_call 13 111 2 0 0 600002 7302232 1000), (1000, 0, op_icmp 0 1658 1003), (1004, 1, op_goto 0), (1005, 0, op_al 1 1006), (1006, 0, op_al 0 1007), (1007, 0, op_il 4 1009)],
  [(1009, 0, op_push (.inl (none, 1)) 1010), (1010, 0, op_b2 (ab_addK) 1011), (1011, 0, op_sld 1012), (1012, 0, op_al 0 1013), (1013, 0, op_il 4 1015), (1015, 0, op_push (.inl (none, 2)) 1016), (1016, 0, op_b2 (ab_addK) 1017), (1017, 0, op_sld 1018), (1018, 0, op_al 3 1019), (1019, 0, op_call 0 112 4 1 6 600002 7302232 1022), (1022, 0, op_is 5 1024)],
  [(1024, 0, op_al 2 1025), (1025, 0, op_al 0 1026), (1026, 0, op_il 4 1028), (1028, 0, op_push (.inl (none, 1)) 1029), (1029, 0, op_b2 (ab_addK) 1030), (1030, 0, op_sld 1031), (1031, 0, op_al 0 1032), (1032, 0, op_il 4 1034), (1034, 0, op_push (.inl (none, 2)) 1035), (1035, 0, op_b2 (ab_addK) 1036), (1036, 0, op_sld 1037), (1037, 0, op_call 13 114 3 0 0 600002 7302232 1040)],
  [(1040, 0, op_is 6 1042), (1042, 0, op_al 2 1043), (1043, 0, op_call 13 46 1 0 0 600002 7302232 1046), (1046, 0, op_il 5 1048), (1048, 0, op_icmp 0 1053 1051), (1052, 1, op_goto 0), (1053, 0, op_il 5 1055), (1055, 0, op_if 1 1070 1058)],
  [(1069, 1, op_goto 0), (1070, 0, op_goto 1658)],
  [(1073, 0, op_al 1 1074), (1074, 0, op_al 0 1075), (1075, 0, op_il 4 1077), (1077, 0, op_push (.inl (none, 1)) 1078), (1078, 0, op_b2 (ab_addK) 1079), (1079, 0, op_sld 1080), (1080, 0, op_al 0 1081), (1081, 0, op_il 4 1083), (1083, 0, op_push (.inl (none, 2)) 1084), (1084, 0, op_b2 (ab_addK) 1085), (1085, 0, op_sld 1086), (1086, 0, op_al 0 1087), (1087, 0, op_il 4 1089)],
  [(1089, 0, op_push (.inl (none, 3)) 1090), (1090, 0, op_b2 (ab_addK) 1091), (1091, 0, op_sld 1092), (1092, 0, op_call 12 115 4 0 0 600002 7302232 1095), (1095, 0, op_al 2 1096), (1096, 0, op_al 0 1097), (1097, 0, op_il 4 1099), (1099, 0, op_push (.inl (none, 1)) 1100), (1100, 0, op_b2 (ab_addK) 1101), (1101, 0, op_sld 1102), (1102, 0, op_al 0 1103), (1103, 0, op_il 4 1105)],
  [(1105, 0, op_push (.inl (none, 2)) 1106), (1106, 0, op_b2 (ab_addK) 1107), (1107, 0, op_sld 1108), (1108, 0, op_al 0 1109), (1109, 0, op_il 4 1111), (1111, 0, op_push (.inl (none, 3)) 1112), (1112, 0, op_b2 (ab_addK) 1113), (1113, 0, op_sld 1114), (1114, 0, op_call 13 116 4 0 0 600002 7302232 1117), (1117, 0, op_icmp 0 1658 1120)],
  [(1121, 1, op_goto 0), (1122, 0, op_al 1 1123), (1123, 0, op_al 0 1124), (1124, 0, op_il 4 1126), (1126, 0, op_push (.inl (none, 1)) 1127), (1127, 0, op_b2 (ab_addK) 1128), (1128, 0, op_sld 1129), (1129, 0, op_call 12 117 2 0 0 600002 7302232 1132), (1132, 0, op_al 2 1133), (1133, 0, op_al 0 1134), (1134, 0, op_il 4 1136)],
  [(1136, 0, op_push (.inl (none, 1)) 1137), (1137, 0, op_b2 (ab_addK) 1138), (1138, 0, op_sld 1139), (1139, 0, op_call 13 118 2 0 0 600002 7302232 1142), (1142, 0, op_icmp 0 1658 1145), (1146, 1, op_goto 0), (1147, 0, op_al 1 1148), (1148, 0, op_call 12 119 1 0 0 600002 7302232 1151), (1151, 0, op_al 2 1152)],
  [(1152, 0, op_call 13 120 1 0 0 600002 7302232 1155), (1155, 0, op_icmp 0 1658 1158), (1159, 1, op_goto 0), (1160, 0, op_al 1 1161), (1161, 0, op_al 0 1162), (1162, 0, op_il 4 1164), (1164, 0, op_push (.inl (none, 1)) 1165), (1165, 0, op_b2 (ab_addK) 1166), (1166, 0, op_sld 1167), (1167, 0, op_al 0 1168)],
  [(1168, 0, op_il 4 1170), (1170, 0, op_push (.inl (none, 2)) 1171), (1171, 0, op_b2 (ab_addK) 1172), (1172, 0, op_sld 1173), (1173, 0, op_al 3 1174), (1174, 0, op_call 0 121 4 1 6 600002 7302232 1177), (1177, 0, op_is 5 1179), (1179, 0, op_al 2 1180), (1180, 0, op_al 0 1181), (1181, 0, op_il 4 1183), (1183, 0, op_push (.inl (none, 1)) 1184)],
  [(1184, 0, op_b2 (ab_addK) 1185), (1185, 0, op_sld 1186), (1186, 0, op_al 0 1187), (1187, 0, op_il 4 1189), (1189, 0, op_push (.inl (none, 2)) 1190), (1190, 0, op_b2 (ab_addK) 1191), (1191, 0, op_sld 1192), (1192, 0, op_call 13 123 3 0 0 600002 7302232 1195), (1195, 0, op_is 6 1197), (1197, 0, op_al 2 1198), (1198, 0, op_call 13 46 1 0 0 600002 7302232 1201)],
  [(1201, 0, op_il 5 1203), (1203, 0, op_icmp 0 1208 1206), (1207, 1, op_goto 0), (1208, 0, op_il 5 1210), (1210, 0, op_if 1 1225 1213)],
  [(1224, 1, op_goto 0), (1225, 0, op_goto 1658), (1228, 0, op_al 1 1229), (1229, 0, op_call 12 124 1 0 0 600002 7302232 1232)],
  [(1232, 0, op_al 2 1233), (1233, 0, op_call 13 126 1 0 0 600002 7302232 1236), (1236, 0, op_icmp 0 1658 1239), (1240, 1, op_goto 0), (1241, 0, op_al 1 1242), (1242, 0, op_al 0 1243), (1243, 0, op_il 4 1245), (1245, 0, op_push (.inl (none, 1)) 1246), (1246, 0, op_b2 (ab_addK) 1247), (1247, 0, op_sld 1248)],
  [(1248, 0, op_al 3 1249), (1249, 0, op_call 0 127 3 1 6 600002 7302232 1252), (1252, 0, op_is 5 1254), (1254, 0, op_al 2 1255), (1255, 0, op_al 0 1256), (1256, 0, op_il 4 1258), (1258, 0, op_push (.inl (none, 1)) 1259), (1259, 0, op_b2 (ab_addK) 1260), (1260, 0, op_sld 1261), (1261, 0, op_call 13 129 2 0 0 600002 7302232 1264)],
  [(1264, 0, op_is 6 1266), (1266, 0, op_al 2 1267), (1267, 0, op_call 13 46 1 0 0 600002 7302232 1270), (1270, 0, op_il 5 1272), (1272, 0, op_icmp 0 1277 1275), (1276, 1, op_goto 0), (1277, 0, op_il 5 1279), (1279, 0, op_if 1 1294 1282)],
  [(1293, 1, op_goto 0), (1294, 0, op_goto 1658)],
  [(1297, 0, op_al 1 1298), (1298, 0, op_al 0 1299), (1299, 0, op_il 4 1301), (1301, 0, op_push (.inl (none, 1)) 1302), (1302, 0, op_b2 (ab_addK) 1303), (1303, 0, op_sld 1304), (1304, 0, op_al 0 1305), (1305, 0, op_il 4 1307), (1307, 0, op_push (.inl (none, 2)) 1308), (1308, 0, op_b2 (ab_addK) 1309), (1309, 0, op_sld 1310), (1310, 0, op_call 12 130 3 0 0 600002 7302232 1313)],
  [(1313, 0, op_al 2 1314), (1314, 0, op_al 0 1315), (1315, 0, op_il 4 1317), (1317, 0, op_push (.inl (none, 1)) 1318), (1318, 0, op_b2 (ab_addK) 1319), (1319, 0, op_sld 1320), (1320, 0, op_al 0 1321), (1321, 0, op_il 4 1323), (1323, 0, op_push (.inl (none, 2)) 1324), (1324, 0, op_b2 (ab_addK) 1325), (1325, 0, op_sld 1326), (1326, 0, op_call 13 131 3 0 0 600002 7302232 1329)],
  [(1329, 0, op_icmp 0 1658 1332), (1333, 1, op_goto 0), (1334, 0, op_al 1 1335), (1335, 0, op_al 0 1336), (1336, 0, op_il 4 1338), (1338, 0, op_push (.inl (none, 1)) 1339), (1339, 0, op_b2 (ab_addK) 1340), (1340, 0, op_sld 1341), (1341, 0, op_call 12 132 2 0 0 600002 7302232 1344)],
  [(1344, 0, op_al 2 1345), (1345, 0, op_al 0 1346), (1346, 0, op_il 4 1348), (1348, 0, op_push (.inl (none, 1)) 1349), (1349, 0, op_b2 (ab_addK) 1350), (1350, 0, op_sld 1351), (1351, 0, op_call 13 133 2 0 0 600002 7302232 1354), (1354, 0, op_icmp 0 1658 1357), (1358, 1, op_goto 0), (1359, 0, op_al 1 1360)],
  [(1360, 0, op_al 0 1361), (1361, 0, op_il 4 1363), (1363, 0, op_push (.inl (none, 1)) 1364), (1364, 0, op_b2 (ab_addK) 1365), (1365, 0, op_sld 1366), (1366, 0, op_call 12 134 2 0 0 600002 7302232 1369), (1369, 0, op_al 2 1370), (1370, 0, op_al 0 1371), (1371, 0, op_il 4 1373), (1373, 0, op_push (.inl (none, 1)) 1374), (1374, 0, op_b2 (ab_addK) 1375), (1375, 0, op_sld 1376)],
  [(1376, 0, op_call 13 135 2 0 0 600002 7302232 1379), (1379, 0, op_icmp 0 1658 1382), (1383, 1, op_goto 0), (1384, 0, op_al 1 1385), (1385, 0, op_al 0 1386), (1386, 0, op_il 4 1388), (1388, 0, op_push (.inl (none, 1)) 1389), (1389, 0, op_b2 (ab_addK) 1390), (1390, 0, op_sld 1391), (1391, 0, op_call 12 136 2 0 0 600002 7302232 1394)],
  [(1394, 0, op_al 2 1395), (1395, 0, op_al 0 1396), (1396, 0, op_il 4 1398), (1398, 0, op_push (.inl (none, 1)) 1399), (1399, 0, op_b2 (ab_addK) 1400), (1400, 0, op_sld 1401), (1401, 0, op_call 13 137 2 0 0 600002 7302232 1404), (1404, 0, op_icmp 0 1658 1407)],
  [(1408, 1, op_goto 0), (1409, 0, op_al 1 1410), (1410, 0, op_al 0 1411), (1411, 0, op_il 4 1413), (1413, 0, op_push (.inl (none, 1)) 1414), (1414, 0, op_b2 (ab_addK) 1415), (1415, 0, op_sld 1416), (1416, 0, op_al 0 1417), (1417, 0, op_il 4 1419), (1419, 0, op_push (.inl (none, 2)) 1420), (1420, 0, op_b2 (ab_addK) 1421), (1421, 0, op_sld 1422), (1422, 0, op_call 12 138 3 0 0 600002 7302232 1425)],
  [(1425, 0, op_al 2 1426), (1426, 0, op_al 0 1427), (1427, 0, op_il 4 1429), (1429, 0, op_push (.inl (none, 1)) 1430), (1430, 0, op_b2 (ab_addK) 1431), (1431, 0, op_sld 1432), (1432, 0, op_al 0 1433), (1433, 0, op_il 4 1435), (1435, 0, op_push (.inl (none, 2)) 1436), (1436, 0, op_b2 (ab_addK) 1437), (1437, 0, op_sld 1438), (1438, 0, op_call 13 139 3 0 0 600002 7302232 1441)],
  [(1441, 0, op_icmp 0 1658 1444), (1445, 1, op_goto 0), (1446, 0, op_al 1 1447), (1447, 0, op_al 0 1448), (1448, 0, op_il 4 1450), (1450, 0, op_push (.inl (none, 1)) 1451), (1451, 0, op_b2 (ab_addK) 1452), (1452, 0, op_sld 1453), (1453, 0, op_al 0 1454), (1454, 0, op_il 4 1456)],
  [(1456, 0, op_push (.inl (none, 2)) 1457), (1457, 0, op_b2 (ab_addK) 1458), (1458, 0, op_sld 1459), (1459, 0, op_al 0 1460), (1460, 0, op_il 4 1462), (1462, 0, op_push (.inl (none, 3)) 1463), (1463, 0, op_b2 (ab_addK) 1464), (1464, 0, op_sld 1465), (1465, 0, op_call 12 140 4 0 0 600002 7302232 1468), (1468, 0, op_al 2 1469), (1469, 0, op_al 0 1470), (1470, 0, op_il 4 1472)],
  [(1472, 0, op_push (.inl (none, 1)) 1473), (1473, 0, op_b2 (ab_addK) 1474), (1474, 0, op_sld 1475), (1475, 0, op_al 0 1476), (1476, 0, op_il 4 1478), (1478, 0, op_push (.inl (none, 2)) 1479), (1479, 0, op_b2 (ab_addK) 1480), (1480, 0, op_sld 1481), (1481, 0, op_al 0 1482), (1482, 0, op_il 4 1484), (1484, 0, op_push (.inl (none, 3)) 1485), (1485, 0, op_b2 (ab_addK) 1486), (1486, 0, op_sld 1487), (1487, 0, op_call 13 141 4 0 0 600002 7302232 1490)],
  [(1490, 0, op_icmp 0 1658 1493), (1494, 1, op_goto 0), (1495, 0, op_al 1 1496), (1496, 0, op_al 0 1497), (1497, 0, op_il 4 1499), (1499, 0, op_push (.inl (none, 1)) 1500), (1500, 0, op_b2 (ab_addK) 1501), (1501, 0, op_sld 1502), (1502, 0, op_call 12 142 2 0 0 600002 7302232 1505)],
  [(1505, 0, op_al 2 1506), (1506, 0, op_al 0 1507), (1507, 0, op_il 4 1509), (1509, 0, op_push (.inl (none, 1)) 1510), (1510, 0, op_b2 (ab_addK) 1511), (1511, 0, op_sld 1512), (1512, 0, op_call 13 145 2 0 0 600002 7302232 1515), (1515, 0, op_icmp 0 1658 1518), (1519, 1, op_goto 0)],
  [(1520, 0, op_al 1 1521), (1521, 0, op_al 0 1522), (1522, 0, op_il 4 1524), (1524, 0, op_push (.inl (none, 1)) 1525), (1525, 0, op_b2 (ab_addK) 1526), (1526, 0, op_sld 1527), (1527, 0, op_call 12 146 2 0 0 600002 7302232 1530), (1530, 0, op_al 2 1531), (1531, 0, op_al 0 1532), (1532, 0, op_il 4 1534), (1534, 0, op_push (.inl (none, 1)) 1535), (1535, 0, op_b2 (ab_addK) 1536)],
  [(1536, 0, op_sld 1537), (1537, 0, op_call 13 147 2 0 0 600002 7302232 1540), (1540, 0, op_icmp 0 1658 1543), (1544, 1, op_goto 0), (1545, 0, op_al 1 1546), (1546, 0, op_call 12 148 1 0 0 600002 7302232 1549), (1549, 0, op_al 2 1550), (1550, 0, op_call 13 155 1 0 0 600002 7302232 1553)],
  [(1553, 0, op_icmp 0 1658 1556), (1557, 1, op_goto 0), (1558, 0, op_al 1 1559), (1559, 0, op_al 0 1560), (1560, 0, op_il 4 1562), (1562, 0, op_push (.inl (none, 1)) 1563), (1563, 0, op_b2 (ab_addK) 1564), (1564, 0, op_sld 1565), (1565, 0, op_call 12 161 2 0 0 600002 7302232 1568)],
  [(1568, 0, op_al 2 1569), (1569, 0, op_al 0 1570), (1570, 0, op_il 4 1572), (1572, 0, op_push (.inl (none, 1)) 1573), (1573, 0, op_b2 (ab_addK) 1574), (1574, 0, op_sld 1575), (1575, 0, op_call 13 162 2 0 0 600002 7302232 1578), (1578, 0, op_icmp 0 1658 1581), (1582, 1, op_goto 0), (1583, 0, op_al 1 1584)],
  [(1584, 0, op_al 0 1585), (1585, 0, op_il 4 1587), (1587, 0, op_push (.inl (none, 1)) 1588), (1588, 0, op_b2 (ab_addK) 1589), (1589, 0, op_sld 1590), (1590, 0, op_call 12 163 2 0 0 600002 7302232 1593), (1593, 0, op_al 2 1594), (1594, 0, op_al 0 1595), (1595, 0, op_il 4 1597), (1597, 0, op_push (.inl (none, 1)) 1598), (1598, 0, op_b2 (ab_addK) 1599), (1599, 0, op_sld 1600)],
  [(1600, 0, op_call 13 166 2 0 0 600002 7302232 1603), (1603, 0, op_icmp 0 1658 1606), (1607, 1, op_goto 0), (1608, 0, op_al 1 1609), (1609, 0, op_al 0 1610), (1610, 0, op_il 4 1612), (1612, 0, op_push (.inl (none, 1)) 1613), (1613, 0, op_b2 (ab_addK) 1614), (1614, 0, op_sld 1615), (1615, 0, op_call 12 167 2 0 0 600002 7302232 1618)],
  [(1618, 0, op_al 2 1619), (1619, 0, op_al 0 1620), (1620, 0, op_il 4 1622), (1622, 0, op_push (.inl (none, 1)) 1623), (1623, 0, op_b2 (ab_addK) 1624), (1624, 0, op_sld 1625), (1625, 0, op_call 13 168 2 0 0 600002 7302232 1628), (1628, 0, op_icmp 0 1658 1631)],
  [(1632, 1, op_goto 0), (1633, 0, op_al 1 1634), (1634, 0, op_al 0 1635), (1635, 0, op_il 4 1637), (1637, 0, op_push (.inl (none, 1)) 1638), (1638, 0, op_b2 (ab_addK) 1639), (1639, 0, op_sld 1640), (1640, 0, op_call 12 169 2 0 0 600002 7302232 1643), (1643, 0, op_al 2 1644), (1644, 0, op_al 0 1645), (1645, 0, op_il 4 1647), (1647, 0, op_push (.inl (none, 1)) 1648)],
  [(1648, 0, op_b2 (ab_addK) 1649), (1649, 0, op_sld 1650), (1650, 0, op_call 13 173 2 0 0 600002 7302232 1653), (1653, 0, op_icmp 0 1658 1656), (1657, 1, op_goto 0), (1658, 0, op_inc 4 6 1661), (1661, 0, op_goto 23)],
  [(1664, 0, op_push (.inl (none, 1)) 1665), (1665, 1, op_goto 0)]]
def ab_MEL : List ab_ME := [(yX10_init, cX10_init, 1, none, 141, 2556, 0, [], tb_X10_init),
  (yX4_init, cX4_init, 3, none, 2, 962, 0, [], tb_X4_init),
  (yJ0_length_8abf5, cJ0_length_8abf5, 1, some .int, 0, 0, 0, [], tb_J0_length_8abf5),
  (yJ0_coder_7d493, cJ0_coder_7d493, 1, some .byte, 0, 0, 0, [], tb_J0_coder_7d493),
  (yJ0_charAt_5068e, cJ0_charAt_5068e, 2, some .char, 0, 0, 0, [], tb_J0_charAt_5068e),
  (yJ0_isLatin1_aae02, cJ0_isLatin1_aae02, 1, some .boolean, 0, 0, 0, [], tb_J0_isLatin1_aae02),
  (yJ1_charAt_3b067, cJ1_charAt_3b067, 2, some .char, 0, 0, 0, [], tb_J1_charAt_3b067),
  (yJ0_checkIndex_df160, cJ0_checkIndex_df160, 2, none, 0, 0, 0, [], tb_J0_checkIndex_df160),
  (yJ3_checkIndex_8e157, cJ3_checkIndex_8e157, 3, some .int, 0, 0, 0, [], tb_J3_checkIndex_8e157),
  (yX9_init, cX9_init, 1, none, 1, 3, 0, [], tb_X9_init),
  (yX8_init, cX8_init, 1, none, 13, 112, 0, [], tb_X8_init),
  (yX7_init, cX7_init, 1, none, 3, 21, 0, [], tb_X7_init),
  (yX1_init, cX1_init, 2, none, 33, 232, 0, [], tb_X1_init),
  (yX6_init, cX6_init, 1, none, 3, 120, 0, [], tb_X6_init),
  (yX0_init, cX0_init, 1, none, 3, 120, 0, [], tb_X0_init),
  (yX5_init, cX5_init, 1, none, 2, 16, 0, [], tb_X5_init),
  (yX3_init, cX3_init, 1, none, 1, 40, 0, [], tb_X3_init),
  (yX2_init, cX2_init, 1, none, 22, 281, 0, [], tb_X2_init),
  (yX11_init, cX11_init, 2, none, 23, 2596, 0, [], tb_X11_init),
  (yX11_clears, cX11_clears, 2, none, 0, 0, 0, [], tb_X11_clears),
  (yX10_feed, cX10_feed, 6, some .int, 0, 0, 0, [], tb_X10_feed),
  (yX4_put, cX4_put, 3, none, 0, 0, 0, [], tb_X4_put),
  (yX11_feed, cX11_feed, 6, some .int, 0, 0, 0, [], tb_X11_feed),
  (yX11_four, cX11_four, 3, none, 0, 0, 0, [], tb_X11_four),
  (yX10_end, cX10_end, 2, some .boolean, 0, 0, 0, [], tb_X10_end),
  (yX11_end, cX11_end, 2, some .boolean, 0, 0, 0, [], tb_X11_end),
  (yX10_valley, cX10_valley, 3, some .int, 0, 0, 0, [], tb_X10_valley),
  (yX9_readInto, cX9_readInto, 4, some .int, 0, 0, 0, [], tb_X9_readInto),
  (yX8_makeEmpty, cX8_makeEmpty, 1, none, 0, 0, 0, [], tb_X8_makeEmpty),
  (yX4_begin, cX4_begin, 2, none, 0, 0, 0, [], tb_X4_begin),
  (yX4_next, cX4_next, 1, none, 0, 0, 0, [], tb_X4_next),
  (yX4_atEnd, cX4_atEnd, 1, some .boolean, 0, 0, 0, [], tb_X4_atEnd),
  (yX7_beginIn, cX7_beginIn, 3, none, 0, 0, 0, [], tb_X7_beginIn),
  (yX11_valley, cX11_valley, 2, some .int, 0, 0, 0, [], tb_X11_valley),
  (yX11_taken, cX11_taken, 2, none, 0, 0, 0, [], tb_X11_taken),
  (yX11_next, cX11_next, 4, none, 0, 0, 0, [], tb_X11_next),
  (yX11_peek, cX11_peek, 1, some .int, 0, 0, 0, [], tb_X11_peek),
  (yX10_fault, cX10_fault, 1, some .int, 0, 0, 0, [], tb_X10_fault),
  (yX11_fault, cX11_fault, 1, some .int, 0, 0, 0, [], tb_X11_fault),
  (yL_town, cL_town, 5, some .int, 1, 6, 2, [(0, 10, 13, 13)], tb_L_town),
  (yX10_town, cX10_town, 3, some .int, 1, 6, 1, [], tb_X10_town),
  (yX10_hasTown, cX10_hasTown, 2, some .boolean, 0, 0, 0, [], tb_X10_hasTown),
  (yX11_town, cX11_town, 3, some .int, 0, 0, 0, [], tb_X11_town),
  (yX11_isTown, cX11_isTown, 2, some .boolean, 0, 0, 0, [], tb_X11_isTown),
  (yX11_isIn, cX11_isIn, 3, some .boolean, 0, 0, 0, [], tb_X11_isIn),
  (yX11_throwsIf, cX11_throwsIf, 2, some .boolean, 0, 0, 0, [], tb_X11_throwsIf),
  (yX11_thrown, cX11_thrown, 1, some .int, 0, 0, 0, [], tb_X11_thrown),
  (yL_due, cL_due, 5, some .int, 1, 6, 2, [(0, 10, 13, 13)], tb_L_due),
  (yX10_due, cX10_due, 4, some .int, 1, 6, 1, [], tb_X10_due),
  (yX11_due, cX11_due, 3, some .int, 0, 0, 0, [], tb_X11_due),
  (yL_train, cL_train, 5, some .int, 1, 6, 2, [(0, 10, 13, 13)], tb_L_train),
  (yX10_train, cX10_train, 3, some .int, 1, 6, 1, [], tb_X10_train),
  (yX10_hasTrain, cX10_hasTrain, 2, some .boolean, 0, 0, 0, [], tb_X10_hasTrain),
  (yX11_train, cX11_train, 3, some .int, 0, 0, 0, [], tb_X11_train),
  (yX11_isTrain, cX11_isTrain, 2, some .boolean, 0, 0, 0, [], tb_X11_isTrain),
  (yL_shows, cL_shows, 5, some .int, 1, 6, 2, [(0, 10, 13, 13)], tb_L_shows),
  (yX10_shows, cX10_shows, 3, some .int, 1, 6, 1, [], tb_X10_shows),
  (yX11_shows, cX11_shows, 3, some .int, 0, 0, 0, [], tb_X11_shows),
  (yL_now, cL_now, 4, some .int, 1, 6, 2, [(0, 9, 12, 13)], tb_L_now),
  (yX10_now, cX10_now, 2, some .int, 1, 6, 1, [], tb_X10_now),
  (yX10_bendsAdded, cX10_bendsAdded, 1, some .int, 0, 0, 0, [], tb_X10_bendsAdded),
  (yX10_added, cX10_added, 4, some .int, 0, 0, 0, [], tb_X10_added),
  (yX7_breachBits, cX7_breachBits, 4, some .int, 0, 0, 0, [], tb_X7_breachBits),
  (yX10_minutesOff, cX10_minutesOff, 3, some .int, 0, 0, 0, [], tb_X10_minutesOff),
  (yX11_now, cX11_now, 4, some .int, 0, 0, 0, [], tb_X11_now),
  (yX11_sumOf, cX11_sumOf, 4, some .int, 0, 0, 0, [], tb_X11_sumOf),
  (yX11_breachSet, cX11_breachSet, 3, some .int, 0, 0, 0, [], tb_X11_breachSet),
  (yX10_bend, cX10_bend, 4, some .int, 0, 0, 0, [], tb_X10_bend),
  (yX11_bend, cX11_bend, 4, some .int, 0, 0, 0, [], tb_X11_bend),
  (yX10_shade, cX10_shade, 2, some .int, 0, 0, 0, [], tb_X10_shade),
  (yX11_shade, cX11_shade, 2, some .int, 0, 0, 0, [], tb_X11_shade),
  (yX10_clear, cX10_clear, 2, some .int, 0, 0, 0, [], tb_X10_clear),
  (yX11_clear, cX11_clear, 2, some .int, 0, 0, 0, [], tb_X11_clear),
  (yX10_freeze, cX10_freeze, 1, some .int, 0, 0, 0, [], tb_X10_freeze),
  (yX1_keep, cX1_keep, 4, none, 0, 0, 0, [], tb_X1_keep),
  (yX7_copyFrom, cX7_copyFrom, 2, none, 0, 0, 0, [], tb_X7_copyFrom),
  (yX7_springBack, cX7_springBack, 4, some .int, 0, 0, 0, [], tb_X7_springBack),
  (yX11_freeze, cX11_freeze, 1, some .int, 0, 0, 0, [], tb_X11_freeze),
  (yX11_keep, cX11_keep, 2, none, 0, 0, 0, [], tb_X11_keep),
  (yX11_freezes, cX11_freezes, 4, some .int, 0, 0, 0, [], tb_X11_freezes),
  (yX10_days, cX10_days, 3, some .int, 0, 0, 0, [], tb_X10_days),
  (yJ9_min_7cf53, cJ9_min_7cf53, 2, some .int, 0, 0, 0, [], tb_J9_min_7cf53),
  (yX7_passDays, cX7_passDays, 4, none, 0, 0, 0, [], tb_X7_passDays),
  (yX7_passDay, cX7_passDay, 3, none, 0, 0, 0, [], tb_X7_passDay),
  (yX11_days, cX11_days, 2, some .int, 0, 0, 0, [], tb_X11_days),
  (yX11_goesOn, cX11_goesOn, 4, some .int, 0, 0, 0, [], tb_X11_goesOn),
  (yX10_undo, cX10_undo, 1, some .int, 0, 0, 0, [], tb_X10_undo),
  (yX1_takeBack, cX1_takeBack, 2, some .int, 0, 0, 0, [], tb_X1_takeBack),
  (yX11_undo, cX11_undo, 2, some .int, 0, 0, 0, [], tb_X11_undo),
  (yL_noonLong, cL_noonLong, 3, some .int, 1, 6, 2, [(0, 8, 11, 13)], tb_L_noonLong),
  (yX10_noonLong, cX10_noonLong, 4, some .int, 1, 6, 1, [], tb_X10_noonLong),
  (yX11_noonLong, cX11_noonLong, 2, some .int, 0, 0, 0, [], tb_X11_noonLong),
  (yX11_sorts, cX11_sorts, 5, some .int, 0, 0, 0, [], tb_X11_sorts),
  (yL_oneNoon, cL_oneNoon, 3, some .int, 1, 6, 2, [(0, 8, 11, 13)], tb_L_oneNoon),
  (yX10_oneNoon, cX10_oneNoon, 2, some .int, 1, 6, 1, [], tb_X10_oneNoon),
  (yX7_middleNoon, cX7_middleNoon, 7, some .int, 0, 0, 0, [], tb_X7_middleNoon),
  (yX11_oneNoon, cX11_oneNoon, 2, some .int, 0, 0, 0, [], tb_X11_oneNoon),
  (yX10_even, cX10_even, 8, some .int, 0, 0, 0, [], tb_X10_even),
  (yJ9_abs_0f7a4, cJ9_abs_0f7a4, 1, some .int, 0, 0, 0, [], tb_J9_abs_0f7a4),
  (yX11_even, cX11_even, 7, some .int, 0, 0, 0, [], tb_X11_even),
  (yX11_absolute, cX11_absolute, 1, some .int, 0, 0, 0, [], tb_X11_absolute),
  (yL_evenAt, cL_evenAt, 4, some .int, 1, 6, 2, [(0, 9, 12, 13)], tb_L_evenAt),
  (yX10_evenAt, cX10_evenAt, 2, some .int, 1, 6, 1, [], tb_X10_evenAt),
  (yX11_evenAt, cX11_evenAt, 2, some .int, 0, 0, 0, [], tb_X11_evenAt),
  (yX10_kept, cX10_kept, 2, some .int, 0, 0, 0, [], tb_X10_kept),
  (yX7_bendToDues, cX7_bendToDues, 5, none, 0, 0, 0, [], tb_X7_bendToDues),
  (yX11_kept, cX11_kept, 3, some .int, 0, 0, 0, [], tb_X11_kept),
  (yX11_tries, cX11_tries, 2, none, 0, 0, 0, [], tb_X11_tries),
  (yX11_movesToDues, cX11_movesToDues, 3, none, 0, 0, 0, [], tb_X11_movesToDues),
  (yX11_back, cX11_back, 2, none, 0, 0, 0, [], tb_X11_back),
  (yX10_worst, cX10_worst, 6, some .int, 0, 0, 0, [], tb_X10_worst),
  (yX11_worst, cX11_worst, 6, some .int, 0, 0, 0, [], tb_X11_worst),
  (yL_spare, cL_spare, 5, some .int, 1, 6, 2, [(0, 10, 13, 13)], tb_L_spare),
  (yX10_spare, cX10_spare, 3, some .int, 1, 6, 1, [], tb_X10_spare),
  (yX11_spare, cX11_spare, 3, some .int, 0, 0, 0, [], tb_X11_spare),
  (yX10_route, cX10_route, 4, some .int, 0, 0, 0, [], tb_X10_route),
  (yX11_route, cX11_route, 11, some .int, 0, 0, 0, [], tb_X11_route),
  (yX10_routeAt, cX10_routeAt, 2, some .int, 0, 0, 0, [], tb_X10_routeAt),
  (yX11_routeAt, cX11_routeAt, 2, some .int, 0, 0, 0, [], tb_X11_routeAt),
  (yX10_shadows, cX10_shadows, 5, some .int, 0, 0, 0, [], tb_X10_shadows),
  (yX11_shadows, cX11_shadows, 2, some .int, 0, 0, 0, [], tb_X11_shadows),
  (yL_votes, cL_votes, 5, some .int, 1, 6, 2, [(0, 10, 13, 13)], tb_L_votes),
  (yX10_votes, cX10_votes, 7, some .int, 1, 6, 1, [], tb_X10_votes),
  (yX11_votes, cX11_votes, 7, some .int, 0, 0, 0, [], tb_X11_votes),
  (yX10_nearer, cX10_nearer, 4, some .int, 0, 0, 0, [], tb_X10_nearer),
  (yX7_comeNearer, cX7_comeNearer, 6, some .boolean, 0, 0, 0, [], tb_X7_comeNearer),
  (yX11_nearer, cX11_nearer, 4, some .int, 0, 0, 0, [], tb_X11_nearer),
  (yL_nearerAt, cL_nearerAt, 4, some .int, 1, 6, 2, [(0, 9, 12, 13)], tb_L_nearerAt),
  (yX10_nearerAt, cX10_nearerAt, 2, some .int, 1, 6, 1, [], tb_X10_nearerAt),
  (yX11_nearerAt, cX11_nearerAt, 2, some .int, 0, 0, 0, [], tb_X11_nearerAt),
  (yX10_right, cX10_right, 6, some .int, 0, 0, 0, [], tb_X10_right),
  (yX11_right, cX11_right, 5, some .int, 0, 0, 0, [], tb_X11_right),
  (yX10_turns, cX10_turns, 4, some .int, 0, 0, 0, [], tb_X10_turns),
  (yX11_turns, cX11_turns, 3, some .int, 0, 0, 0, [], tb_X11_turns),
  (yX10_motto, cX10_motto, 2, some .int, 0, 0, 0, [], tb_X10_motto),
  (yX11_motto, cX11_motto, 3, some .int, 0, 0, 0, [], tb_X11_motto),
  (yX10_byteAt, cX10_byteAt, 2, some .int, 0, 0, 0, [], tb_X10_byteAt),
  (yX11_byteAt, cX11_byteAt, 2, some .int, 0, 0, 0, [], tb_X11_byteAt),
  (yX10_drawn, cX10_drawn, 4, some .int, 0, 0, 0, [], tb_X10_drawn),
  (yX11_drawn, cX11_drawn, 3, some .int, 0, 0, 0, [], tb_X11_drawn),
  (yX10_odds, cX10_odds, 6, some .int, 0, 0, 0, [], tb_X10_odds),
  (yX11_odds, cX11_odds, 6, some .int, 0, 0, 0, [], tb_X11_odds),
  (yX10_book, cX10_book, 3, some .int, 0, 0, 0, [], tb_X10_book),
  (yX0_read, cX0_read, 3, some .boolean, 0, 0, 0, [], tb_X0_read),
  (yX0_judge, cX0_judge, 3, none, 0, 0, 0, [], tb_X0_judge),
  (yX11_book, cX11_book, 4, some .int, 0, 0, 0, [], tb_X11_book),
  (yX10_told, cX10_told, 2, some .int, 0, 0, 0, [], tb_X10_told),
  (yX11_told, cX11_told, 2, some .int, 0, 0, 0, [], tb_X11_told),
  (yX10_sentence, cX10_sentence, 3, some .int, 0, 0, 0, [], tb_X10_sentence),
  (yX6_read, cX6_read, 3, some .boolean, 0, 0, 0, [], tb_X6_read),
  (yX6_readCond, cX6_readCond, 5, some .boolean, 0, 0, 0, [], tb_X6_readCond),
  (yX6_readAll, cX6_readAll, 5, some .boolean, 0, 0, 0, [], tb_X6_readAll),
  (yX6_readOne, cX6_readOne, 6, some .boolean, 0, 0, 0, [], tb_X6_readOne),
  (yX6_beginsOne, cX6_beginsOne, 1, some .boolean, 0, 0, 0, [], tb_X6_beginsOne),
  (yX4_failAs, cX4_failAs, 2, some .boolean, 0, 0, 0, [], tb_X4_failAs),
  (yX11_sentence, cX11_sentence, 3, some .int, 0, 0, 0, [], tb_X11_sentence),
  (yX11_operand, cX11_operand, 5, some .boolean, 0, 0, 0, [], tb_X11_operand),
  (yX11_isWord, cX11_isWord, 3, some .boolean, 0, 0, 0, [], tb_X11_isWord),
  (yX11_isSign, cX11_isSign, 2, some .boolean, 0, 0, 0, [], tb_X11_isSign),
  (yX11_leafOf, cX11_leafOf, 1, some .int, 0, 0, 0, [], tb_X11_leafOf),
  (yX11_bad, cX11_bad, 2, some .boolean, 0, 0, 0, [], tb_X11_bad),
  (yX10_said, cX10_said, 4, some .int, 0, 0, 0, [], tb_X10_said),
  (yX11_said, cX11_said, 4, some .int, 0, 0, 0, [], tb_X11_said),
  (yX10_image, cX10_image, 3, some .boolean, 0, 0, 0, [], tb_X10_image),
  (yX8_copyFrom, cX8_copyFrom, 2, none, 0, 0, 0, [], tb_X8_copyFrom),
  (yX6_copyFrom, cX6_copyFrom, 2, none, 0, 0, 0, [], tb_X6_copyFrom),
  (yX11_image, cX11_image, 3, some .boolean, 0, 0, 0, [], tb_X11_image),
  (yX10_restore, cX10_restore, 3, some .boolean, 0, 0, 0, [], tb_X10_restore),
  (yX11_restore, cX11_restore, 3, some .boolean, 0, 0, 0, [], tb_X11_restore),
  (yX10_count, cX10_count, 2, some .int, 0, 0, 0, [], tb_X10_count),
  (yX8_limit, cX8_limit, 1, some .int, 0, 0, 0, [], tb_X8_limit),
  (yX8_change, cX8_change, 1, some .int, 0, 0, 0, [], tb_X8_change),
  (yX8_frost, cX8_frost, 1, some .int, 0, 0, 0, [], tb_X8_frost),
  (yX11_count, cX11_count, 2, some .int, 0, 0, 0, [], tb_X11_count)]
set_option maxRecDepth 100000 in
theorem me_X10_init : ab_MEL[0]? = some (yX10_init, cX10_init, 1, none, 141, 2556, 0, [], tb_X10_init) := rfl
set_option maxRecDepth 100000 in
theorem me_X4_init : ab_MEL[1]? = some (yX4_init, cX4_init, 3, none, 2, 962, 0, [], tb_X4_init) := rfl
set_option maxRecDepth 100000 in
theorem me_J0_length_8abf5 : ab_MEL[2]? = some (yJ0_length_8abf5, cJ0_length_8abf5, 1, some .int, 0, 0, 0, [], tb_J0_length_8abf5) := rfl
set_option maxRecDepth 100000 in
theorem me_J0_coder_7d493 : ab_MEL[3]? = some (yJ0_coder_7d493, cJ0_coder_7d493, 1, some .byte, 0, 0, 0, [], tb_J0_coder_7d493) := rfl
set_option maxRecDepth 100000 in
theorem me_J0_charAt_5068e : ab_MEL[4]? = some (yJ0_charAt_5068e, cJ0_charAt_5068e, 2, some .char, 0, 0, 0, [], tb_J0_charAt_5068e) := rfl
set_option maxRecDepth 100000 in
theorem me_J0_isLatin1_aae02 : ab_MEL[5]? = some (yJ0_isLatin1_aae02, cJ0_isLatin1_aae02, 1, some .boolean, 0, 0, 0, [], tb_J0_isLatin1_aae02) := rfl
set_option maxRecDepth 100000 in
theorem me_J1_charAt_3b067 : ab_MEL[6]? = some (yJ1_charAt_3b067, cJ1_charAt_3b067, 2, some .char, 0, 0, 0, [], tb_J1_charAt_3b067) := rfl
set_option maxRecDepth 100000 in
theorem me_J0_checkIndex_df160 : ab_MEL[7]? = some (yJ0_checkIndex_df160, cJ0_checkIndex_df160, 2, none, 0, 0, 0, [], tb_J0_checkIndex_df160) := rfl
set_option maxRecDepth 100000 in
theorem me_J3_checkIndex_8e157 : ab_MEL[8]? = some (yJ3_checkIndex_8e157, cJ3_checkIndex_8e157, 3, some .int, 0, 0, 0, [], tb_J3_checkIndex_8e157) := rfl
set_option maxRecDepth 100000 in
theorem me_X9_init : ab_MEL[9]? = some (yX9_init, cX9_init, 1, none, 1, 3, 0, [], tb_X9_init) := rfl
set_option maxRecDepth 100000 in
theorem me_X8_init : ab_MEL[10]? = some (yX8_init, cX8_init, 1, none, 13, 112, 0, [], tb_X8_init) := rfl
set_option maxRecDepth 100000 in
theorem me_X7_init : ab_MEL[11]? = some (yX7_init, cX7_init, 1, none, 3, 21, 0, [], tb_X7_init) := rfl
set_option maxRecDepth 100000 in
theorem me_X1_init : ab_MEL[12]? = some (yX1_init, cX1_init, 2, none, 33, 232, 0, [], tb_X1_init) := rfl
set_option maxRecDepth 100000 in
theorem me_X6_init : ab_MEL[13]? = some (yX6_init, cX6_init, 1, none, 3, 120, 0, [], tb_X6_init) := rfl
set_option maxRecDepth 100000 in
theorem me_X0_init : ab_MEL[14]? = some (yX0_init, cX0_init, 1, none, 3, 120, 0, [], tb_X0_init) := rfl
set_option maxRecDepth 100000 in
theorem me_X5_init : ab_MEL[15]? = some (yX5_init, cX5_init, 1, none, 2, 16, 0, [], tb_X5_init) := rfl
set_option maxRecDepth 100000 in
theorem me_X3_init : ab_MEL[16]? = some (yX3_init, cX3_init, 1, none, 1, 40, 0, [], tb_X3_init) := rfl
set_option maxRecDepth 100000 in
theorem me_X2_init : ab_MEL[17]? = some (yX2_init, cX2_init, 1, none, 22, 281, 0, [], tb_X2_init) := rfl
set_option maxRecDepth 100000 in
theorem me_X11_init : ab_MEL[18]? = some (yX11_init, cX11_init, 2, none, 23, 2596, 0, [], tb_X11_init) := rfl
set_option maxRecDepth 100000 in
theorem me_X11_clears : ab_MEL[19]? = some (yX11_clears, cX11_clears, 2, none, 0, 0, 0, [], tb_X11_clears) := rfl
set_option maxRecDepth 100000 in
theorem me_X10_feed : ab_MEL[20]? = some (yX10_feed, cX10_feed, 6, some .int, 0, 0, 0, [], tb_X10_feed) := rfl
set_option maxRecDepth 100000 in
theorem me_X4_put : ab_MEL[21]? = some (yX4_put, cX4_put, 3, none, 0, 0, 0, [], tb_X4_put) := rfl
set_option maxRecDepth 100000 in
theorem me_X11_feed : ab_MEL[22]? = some (yX11_feed, cX11_feed, 6, some .int, 0, 0, 0, [], tb_X11_feed) := rfl
set_option maxRecDepth 100000 in
theorem me_X11_four : ab_MEL[23]? = some (yX11_four, cX11_four, 3, none, 0, 0, 0, [], tb_X11_four) := rfl
set_option maxRecDepth 100000 in
theorem me_X10_end : ab_MEL[24]? = some (yX10_end, cX10_end, 2, some .boolean, 0, 0, 0, [], tb_X10_end) := rfl
set_option maxRecDepth 100000 in
theorem me_X11_end : ab_MEL[25]? = some (yX11_end, cX11_end, 2, some .boolean, 0, 0, 0, [], tb_X11_end) := rfl
set_option maxRecDepth 100000 in
theorem me_X10_valley : ab_MEL[26]? = some (yX10_valley, cX10_valley, 3, some .int, 0, 0, 0, [], tb_X10_valley) := rfl
set_option maxRecDepth 100000 in
theorem me_X9_readInto : ab_MEL[27]? = some (yX9_readInto, cX9_readInto, 4, some .int, 0, 0, 0, [], tb_X9_readInto) := rfl
set_option maxRecDepth 100000 in
theorem me_X8_makeEmpty : ab_MEL[28]? = some (yX8_makeEmpty, cX8_makeEmpty, 1, none, 0, 0, 0, [], tb_X8_makeEmpty) := rfl
set_option maxRecDepth 100000 in
theorem me_X4_begin : ab_MEL[29]? = some (yX4_begin, cX4_begin, 2, none, 0, 0, 0, [], tb_X4_begin) := rfl
set_option maxRecDepth 100000 in
theorem me_X4_next : ab_MEL[30]? = some (yX4_next, cX4_next, 1, none, 0, 0, 0, [], tb_X4_next) := rfl
set_option maxRecDepth 100000 in
theorem me_X4_atEnd : ab_MEL[31]? = some (yX4_atEnd, cX4_atEnd, 1, some .boolean, 0, 0, 0, [], tb_X4_atEnd) := rfl
set_option maxRecDepth 100000 in
theorem me_X7_beginIn : ab_MEL[32]? = some (yX7_beginIn, cX7_beginIn, 3, none, 0, 0, 0, [], tb_X7_beginIn) := rfl
set_option maxRecDepth 100000 in
theorem me_X11_valley : ab_MEL[33]? = some (yX11_valley, cX11_valley, 2, some .int, 0, 0, 0, [], tb_X11_valley) := rfl
set_option maxRecDepth 100000 in
theorem me_X11_taken : ab_MEL[34]? = some (yX11_taken, cX11_taken, 2, none, 0, 0, 0, [], tb_X11_taken) := rfl
set_option maxRecDepth 100000 in
theorem me_X11_next : ab_MEL[35]? = some (yX11_next, cX11_next, 4, none, 0, 0, 0, [], tb_X11_next) := rfl
set_option maxRecDepth 100000 in
theorem me_X11_peek : ab_MEL[36]? = some (yX11_peek, cX11_peek, 1, some .int, 0, 0, 0, [], tb_X11_peek) := rfl
set_option maxRecDepth 100000 in
theorem me_X10_fault : ab_MEL[37]? = some (yX10_fault, cX10_fault, 1, some .int, 0, 0, 0, [], tb_X10_fault) := rfl
set_option maxRecDepth 100000 in
theorem me_X11_fault : ab_MEL[38]? = some (yX11_fault, cX11_fault, 1, some .int, 0, 0, 0, [], tb_X11_fault) := rfl
set_option maxRecDepth 100000 in
theorem me_L_town : ab_MEL[39]? = some (yL_town, cL_town, 5, some .int, 1, 6, 2, [(0, 10, 13, 13)], tb_L_town) := rfl
set_option maxRecDepth 100000 in
theorem me_X10_town : ab_MEL[40]? = some (yX10_town, cX10_town, 3, some .int, 1, 6, 1, [], tb_X10_town) := rfl
set_option maxRecDepth 100000 in
theorem me_X10_hasTown : ab_MEL[41]? = some (yX10_hasTown, cX10_hasTown, 2, some .boolean, 0, 0, 0, [], tb_X10_hasTown) := rfl
set_option maxRecDepth 100000 in
theorem me_X11_town : ab_MEL[42]? = some (yX11_town, cX11_town, 3, some .int, 0, 0, 0, [], tb_X11_town) := rfl
set_option maxRecDepth 100000 in
theorem me_X11_isTown : ab_MEL[43]? = some (yX11_isTown, cX11_isTown, 2, some .boolean, 0, 0, 0, [], tb_X11_isTown) := rfl
set_option maxRecDepth 100000 in
theorem me_X11_isIn : ab_MEL[44]? = some (yX11_isIn, cX11_isIn, 3, some .boolean, 0, 0, 0, [], tb_X11_isIn) := rfl
set_option maxRecDepth 100000 in
theorem me_X11_throwsIf : ab_MEL[45]? = some (yX11_throwsIf, cX11_throwsIf, 2, some .boolean, 0, 0, 0, [], tb_X11_throwsIf) := rfl
set_option maxRecDepth 100000 in
theorem me_X11_thrown : ab_MEL[46]? = some (yX11_thrown, cX11_thrown, 1, some .int, 0, 0, 0, [], tb_X11_thrown) := rfl
set_option maxRecDepth 100000 in
theorem me_L_due : ab_MEL[47]? = some (yL_due, cL_due, 5, some .int, 1, 6, 2, [(0, 10, 13, 13)], tb_L_due) := rfl
set_option maxRecDepth 100000 in
theorem me_X10_due : ab_MEL[48]? = some (yX10_due, cX10_due, 4, some .int, 1, 6, 1, [], tb_X10_due) := rfl
set_option maxRecDepth 100000 in
theorem me_X11_due : ab_MEL[49]? = some (yX11_due, cX11_due, 3, some .int, 0, 0, 0, [], tb_X11_due) := rfl
set_option maxRecDepth 100000 in
theorem me_L_train : ab_MEL[50]? = some (yL_train, cL_train, 5, some .int, 1, 6, 2, [(0, 10, 13, 13)], tb_L_train) := rfl
set_option maxRecDepth 100000 in
theorem me_X10_train : ab_MEL[51]? = some (yX10_train, cX10_train, 3, some .int, 1, 6, 1, [], tb_X10_train) := rfl
set_option maxRecDepth 100000 in
theorem me_X10_hasTrain : ab_MEL[52]? = some (yX10_hasTrain, cX10_hasTrain, 2, some .boolean, 0, 0, 0, [], tb_X10_hasTrain) := rfl
set_option maxRecDepth 100000 in
theorem me_X11_train : ab_MEL[53]? = some (yX11_train, cX11_train, 3, some .int, 0, 0, 0, [], tb_X11_train) := rfl
set_option maxRecDepth 100000 in
theorem me_X11_isTrain : ab_MEL[54]? = some (yX11_isTrain, cX11_isTrain, 2, some .boolean, 0, 0, 0, [], tb_X11_isTrain) := rfl
set_option maxRecDepth 100000 in
theorem me_L_shows : ab_MEL[55]? = some (yL_shows, cL_shows, 5, some .int, 1, 6, 2, [(0, 10, 13, 13)], tb_L_shows) := rfl
set_option maxRecDepth 100000 in
theorem me_X10_shows : ab_MEL[56]? = some (yX10_shows, cX10_shows, 3, some .int, 1, 6, 1, [], tb_X10_shows) := rfl
set_option maxRecDepth 100000 in
theorem me_X11_shows : ab_MEL[57]? = some (yX11_shows, cX11_shows, 3, some .int, 0, 0, 0, [], tb_X11_shows) := rfl
set_option maxRecDepth 100000 in
theorem me_L_now : ab_MEL[58]? = some (yL_now, cL_now, 4, some .int, 1, 6, 2, [(0, 9, 12, 13)], tb_L_now) := rfl
set_option maxRecDepth 100000 in
theorem me_X10_now : ab_MEL[59]? = some (yX10_now, cX10_now, 2, some .int, 1, 6, 1, [], tb_X10_now) := rfl
set_option maxRecDepth 100000 in
theorem me_X10_bendsAdded : ab_MEL[60]? = some (yX10_bendsAdded, cX10_bendsAdded, 1, some .int, 0, 0, 0, [], tb_X10_bendsAdded) := rfl
set_option maxRecDepth 100000 in
theorem me_X10_added : ab_MEL[61]? = some (yX10_added, cX10_added, 4, some .int, 0, 0, 0, [], tb_X10_added) := rfl
set_option maxRecDepth 100000 in
theorem me_X7_breachBits : ab_MEL[62]? = some (yX7_breachBits, cX7_breachBits, 4, some .int, 0, 0, 0, [], tb_X7_breachBits) := rfl
set_option maxRecDepth 100000 in
theorem me_X10_minutesOff : ab_MEL[63]? = some (yX10_minutesOff, cX10_minutesOff, 3, some .int, 0, 0, 0, [], tb_X10_minutesOff) := rfl
set_option maxRecDepth 100000 in
theorem me_X11_now : ab_MEL[64]? = some (yX11_now, cX11_now, 4, some .int, 0, 0, 0, [], tb_X11_now) := rfl
set_option maxRecDepth 100000 in
theorem me_X11_sumOf : ab_MEL[65]? = some (yX11_sumOf, cX11_sumOf, 4, some .int, 0, 0, 0, [], tb_X11_sumOf) := rfl
set_option maxRecDepth 100000 in
theorem me_X11_breachSet : ab_MEL[66]? = some (yX11_breachSet, cX11_breachSet, 3, some .int, 0, 0, 0, [], tb_X11_breachSet) := rfl
set_option maxRecDepth 100000 in
theorem me_X10_bend : ab_MEL[67]? = some (yX10_bend, cX10_bend, 4, some .int, 0, 0, 0, [], tb_X10_bend) := rfl
set_option maxRecDepth 100000 in
theorem me_X11_bend : ab_MEL[68]? = some (yX11_bend, cX11_bend, 4, some .int, 0, 0, 0, [], tb_X11_bend) := rfl
set_option maxRecDepth 100000 in
theorem me_X10_shade : ab_MEL[69]? = some (yX10_shade, cX10_shade, 2, some .int, 0, 0, 0, [], tb_X10_shade) := rfl
set_option maxRecDepth 100000 in
theorem me_X11_shade : ab_MEL[70]? = some (yX11_shade, cX11_shade, 2, some .int, 0, 0, 0, [], tb_X11_shade) := rfl
set_option maxRecDepth 100000 in
theorem me_X10_clear : ab_MEL[71]? = some (yX10_clear, cX10_clear, 2, some .int, 0, 0, 0, [], tb_X10_clear) := rfl
set_option maxRecDepth 100000 in
theorem me_X11_clear : ab_MEL[72]? = some (yX11_clear, cX11_clear, 2, some .int, 0, 0, 0, [], tb_X11_clear) := rfl
set_option maxRecDepth 100000 in
theorem me_X10_freeze : ab_MEL[73]? = some (yX10_freeze, cX10_freeze, 1, some .int, 0, 0, 0, [], tb_X10_freeze) := rfl
set_option maxRecDepth 100000 in
theorem me_X1_keep : ab_MEL[74]? = some (yX1_keep, cX1_keep, 4, none, 0, 0, 0, [], tb_X1_keep) := rfl
set_option maxRecDepth 100000 in
theorem me_X7_copyFrom : ab_MEL[75]? = some (yX7_copyFrom, cX7_copyFrom, 2, none, 0, 0, 0, [], tb_X7_copyFrom) := rfl
set_option maxRecDepth 100000 in
theorem me_X7_springBack : ab_MEL[76]? = some (yX7_springBack, cX7_springBack, 4, some .int, 0, 0, 0, [], tb_X7_springBack) := rfl
set_option maxRecDepth 100000 in
theorem me_X11_freeze : ab_MEL[77]? = some (yX11_freeze, cX11_freeze, 1, some .int, 0, 0, 0, [], tb_X11_freeze) := rfl
set_option maxRecDepth 100000 in
theorem me_X11_keep : ab_MEL[78]? = some (yX11_keep, cX11_keep, 2, none, 0, 0, 0, [], tb_X11_keep) := rfl
set_option maxRecDepth 100000 in
theorem me_X11_freezes : ab_MEL[79]? = some (yX11_freezes, cX11_freezes, 4, some .int, 0, 0, 0, [], tb_X11_freezes) := rfl
set_option maxRecDepth 100000 in
theorem me_X10_days : ab_MEL[80]? = some (yX10_days, cX10_days, 3, some .int, 0, 0, 0, [], tb_X10_days) := rfl
set_option maxRecDepth 100000 in
theorem me_J9_min_7cf53 : ab_MEL[81]? = some (yJ9_min_7cf53, cJ9_min_7cf53, 2, some .int, 0, 0, 0, [], tb_J9_min_7cf53) := rfl
set_option maxRecDepth 100000 in
theorem me_X7_passDays : ab_MEL[82]? = some (yX7_passDays, cX7_passDays, 4, none, 0, 0, 0, [], tb_X7_passDays) := rfl
set_option maxRecDepth 100000 in
theorem me_X7_passDay : ab_MEL[83]? = some (yX7_passDay, cX7_passDay, 3, none, 0, 0, 0, [], tb_X7_passDay) := rfl
set_option maxRecDepth 100000 in
theorem me_X11_days : ab_MEL[84]? = some (yX11_days, cX11_days, 2, some .int, 0, 0, 0, [], tb_X11_days) := rfl
set_option maxRecDepth 100000 in
theorem me_X11_goesOn : ab_MEL[85]? = some (yX11_goesOn, cX11_goesOn, 4, some .int, 0, 0, 0, [], tb_X11_goesOn) := rfl
set_option maxRecDepth 100000 in
theorem me_X10_undo : ab_MEL[86]? = some (yX10_undo, cX10_undo, 1, some .int, 0, 0, 0, [], tb_X10_undo) := rfl
set_option maxRecDepth 100000 in
theorem me_X1_takeBack : ab_MEL[87]? = some (yX1_takeBack, cX1_takeBack, 2, some .int, 0, 0, 0, [], tb_X1_takeBack) := rfl
set_option maxRecDepth 100000 in
theorem me_X11_undo : ab_MEL[88]? = some (yX11_undo, cX11_undo, 2, some .int, 0, 0, 0, [], tb_X11_undo) := rfl
set_option maxRecDepth 100000 in
theorem me_L_noonLong : ab_MEL[89]? = some (yL_noonLong, cL_noonLong, 3, some .int, 1, 6, 2, [(0, 8, 11, 13)], tb_L_noonLong) := rfl
set_option maxRecDepth 100000 in
theorem me_X10_noonLong : ab_MEL[90]? = some (yX10_noonLong, cX10_noonLong, 4, some .int, 1, 6, 1, [], tb_X10_noonLong) := rfl
set_option maxRecDepth 100000 in
theorem me_X11_noonLong : ab_MEL[91]? = some (yX11_noonLong, cX11_noonLong, 2, some .int, 0, 0, 0, [], tb_X11_noonLong) := rfl
set_option maxRecDepth 100000 in
theorem me_X11_sorts : ab_MEL[92]? = some (yX11_sorts, cX11_sorts, 5, some .int, 0, 0, 0, [], tb_X11_sorts) := rfl
set_option maxRecDepth 100000 in
theorem me_L_oneNoon : ab_MEL[93]? = some (yL_oneNoon, cL_oneNoon, 3, some .int, 1, 6, 2, [(0, 8, 11, 13)], tb_L_oneNoon) := rfl
set_option maxRecDepth 100000 in
theorem me_X10_oneNoon : ab_MEL[94]? = some (yX10_oneNoon, cX10_oneNoon, 2, some .int, 1, 6, 1, [], tb_X10_oneNoon) := rfl
set_option maxRecDepth 100000 in
theorem me_X7_middleNoon : ab_MEL[95]? = some (yX7_middleNoon, cX7_middleNoon, 7, some .int, 0, 0, 0, [], tb_X7_middleNoon) := rfl
set_option maxRecDepth 100000 in
theorem me_X11_oneNoon : ab_MEL[96]? = some (yX11_oneNoon, cX11_oneNoon, 2, some .int, 0, 0, 0, [], tb_X11_oneNoon) := rfl
set_option maxRecDepth 100000 in
theorem me_X10_even : ab_MEL[97]? = some (yX10_even, cX10_even, 8, some .int, 0, 0, 0, [], tb_X10_even) := rfl
set_option maxRecDepth 100000 in
theorem me_J9_abs_0f7a4 : ab_MEL[98]? = some (yJ9_abs_0f7a4, cJ9_abs_0f7a4, 1, some .int, 0, 0, 0, [], tb_J9_abs_0f7a4) := rfl
set_option maxRecDepth 100000 in
theorem me_X11_even : ab_MEL[99]? = some (yX11_even, cX11_even, 7, some .int, 0, 0, 0, [], tb_X11_even) := rfl
set_option maxRecDepth 100000 in
theorem me_X11_absolute : ab_MEL[100]? = some (yX11_absolute, cX11_absolute, 1, some .int, 0, 0, 0, [], tb_X11_absolute) := rfl
set_option maxRecDepth 100000 in
theorem me_L_evenAt : ab_MEL[101]? = some (yL_evenAt, cL_evenAt, 4, some .int, 1, 6, 2, [(0, 9, 12, 13)], tb_L_evenAt) := rfl
set_option maxRecDepth 100000 in
theorem me_X10_evenAt : ab_MEL[102]? = some (yX10_evenAt, cX10_evenAt, 2, some .int, 1, 6, 1, [], tb_X10_evenAt) := rfl
set_option maxRecDepth 100000 in
theorem me_X11_evenAt : ab_MEL[103]? = some (yX11_evenAt, cX11_evenAt, 2, some .int, 0, 0, 0, [], tb_X11_evenAt) := rfl
set_option maxRecDepth 100000 in
theorem me_X10_kept : ab_MEL[104]? = some (yX10_kept, cX10_kept, 2, some .int, 0, 0, 0, [], tb_X10_kept) := rfl
set_option maxRecDepth 100000 in
theorem me_X7_bendToDues : ab_MEL[105]? = some (yX7_bendToDues, cX7_bendToDues, 5, none, 0, 0, 0, [], tb_X7_bendToDues) := rfl
set_option maxRecDepth 100000 in
theorem me_X11_kept : ab_MEL[106]? = some (yX11_kept, cX11_kept, 3, some .int, 0, 0, 0, [], tb_X11_kept) := rfl
set_option maxRecDepth 100000 in
theorem me_X11_tries : ab_MEL[107]? = some (yX11_tries, cX11_tries, 2, none, 0, 0, 0, [], tb_X11_tries) := rfl
set_option maxRecDepth 100000 in
theorem me_X11_movesToDues : ab_MEL[108]? = some (yX11_movesToDues, cX11_movesToDues, 3, none, 0, 0, 0, [], tb_X11_movesToDues) := rfl
set_option maxRecDepth 100000 in
theorem me_X11_back : ab_MEL[109]? = some (yX11_back, cX11_back, 2, none, 0, 0, 0, [], tb_X11_back) := rfl
set_option maxRecDepth 100000 in
theorem me_X10_worst : ab_MEL[110]? = some (yX10_worst, cX10_worst, 6, some .int, 0, 0, 0, [], tb_X10_worst) := rfl
set_option maxRecDepth 100000 in
theorem me_X11_worst : ab_MEL[111]? = some (yX11_worst, cX11_worst, 6, some .int, 0, 0, 0, [], tb_X11_worst) := rfl
set_option maxRecDepth 100000 in
theorem me_L_spare : ab_MEL[112]? = some (yL_spare, cL_spare, 5, some .int, 1, 6, 2, [(0, 10, 13, 13)], tb_L_spare) := rfl
set_option maxRecDepth 100000 in
theorem me_X10_spare : ab_MEL[113]? = some (yX10_spare, cX10_spare, 3, some .int, 1, 6, 1, [], tb_X10_spare) := rfl
set_option maxRecDepth 100000 in
theorem me_X11_spare : ab_MEL[114]? = some (yX11_spare, cX11_spare, 3, some .int, 0, 0, 0, [], tb_X11_spare) := rfl
set_option maxRecDepth 100000 in
theorem me_X10_route : ab_MEL[115]? = some (yX10_route, cX10_route, 4, some .int, 0, 0, 0, [], tb_X10_route) := rfl
set_option maxRecDepth 100000 in
theorem me_X11_route : ab_MEL[116]? = some (yX11_route, cX11_route, 11, some .int, 0, 0, 0, [], tb_X11_route) := rfl
set_option maxRecDepth 100000 in
theorem me_X10_routeAt : ab_MEL[117]? = some (yX10_routeAt, cX10_routeAt, 2, some .int, 0, 0, 0, [], tb_X10_routeAt) := rfl
set_option maxRecDepth 100000 in
theorem me_X11_routeAt : ab_MEL[118]? = some (yX11_routeAt, cX11_routeAt, 2, some .int, 0, 0, 0, [], tb_X11_routeAt) := rfl
set_option maxRecDepth 100000 in
theorem me_X10_shadows : ab_MEL[119]? = some (yX10_shadows, cX10_shadows, 5, some .int, 0, 0, 0, [], tb_X10_shadows) := rfl
set_option maxRecDepth 100000 in
theorem me_X11_shadows : ab_MEL[120]? = some (yX11_shadows, cX11_shadows, 2, some .int, 0, 0, 0, [], tb_X11_shadows) := rfl
set_option maxRecDepth 100000 in
theorem me_L_votes : ab_MEL[121]? = some (yL_votes, cL_votes, 5, some .int, 1, 6, 2, [(0, 10, 13, 13)], tb_L_votes) := rfl
set_option maxRecDepth 100000 in
theorem me_X10_votes : ab_MEL[122]? = some (yX10_votes, cX10_votes, 7, some .int, 1, 6, 1, [], tb_X10_votes) := rfl
set_option maxRecDepth 100000 in
theorem me_X11_votes : ab_MEL[123]? = some (yX11_votes, cX11_votes, 7, some .int, 0, 0, 0, [], tb_X11_votes) := rfl
set_option maxRecDepth 100000 in
theorem me_X10_nearer : ab_MEL[124]? = some (yX10_nearer, cX10_nearer, 4, some .int, 0, 0, 0, [], tb_X10_nearer) := rfl
set_option maxRecDepth 100000 in
theorem me_X7_comeNearer : ab_MEL[125]? = some (yX7_comeNearer, cX7_comeNearer, 6, some .boolean, 0, 0, 0, [], tb_X7_comeNearer) := rfl
set_option maxRecDepth 100000 in
theorem me_X11_nearer : ab_MEL[126]? = some (yX11_nearer, cX11_nearer, 4, some .int, 0, 0, 0, [], tb_X11_nearer) := rfl
set_option maxRecDepth 100000 in
theorem me_L_nearerAt : ab_MEL[127]? = some (yL_nearerAt, cL_nearerAt, 4, some .int, 1, 6, 2, [(0, 9, 12, 13)], tb_L_nearerAt) := rfl
set_option maxRecDepth 100000 in
theorem me_X10_nearerAt : ab_MEL[128]? = some (yX10_nearerAt, cX10_nearerAt, 2, some .int, 1, 6, 1, [], tb_X10_nearerAt) := rfl
set_option maxRecDepth 100000 in
theorem me_X11_nearerAt : ab_MEL[129]? = some (yX11_nearerAt, cX11_nearerAt, 2, some .int, 0, 0, 0, [], tb_X11_nearerAt) := rfl
set_option maxRecDepth 100000 in
theorem me_X10_right : ab_MEL[130]? = some (yX10_right, cX10_right, 6, some .int, 0, 0, 0, [], tb_X10_right) := rfl
set_option maxRecDepth 100000 in
theorem me_X11_right : ab_MEL[131]? = some (yX11_right, cX11_right, 5, some .int, 0, 0, 0, [], tb_X11_right) := rfl
set_option maxRecDepth 100000 in
theorem me_X10_turns : ab_MEL[132]? = some (yX10_turns, cX10_turns, 4, some .int, 0, 0, 0, [], tb_X10_turns) := rfl
set_option maxRecDepth 100000 in
theorem me_X11_turns : ab_MEL[133]? = some (yX11_turns, cX11_turns, 3, some .int, 0, 0, 0, [], tb_X11_turns) := rfl
set_option maxRecDepth 100000 in
theorem me_X10_motto : ab_MEL[134]? = some (yX10_motto, cX10_motto, 2, some .int, 0, 0, 0, [], tb_X10_motto) := rfl
set_option maxRecDepth 100000 in
theorem me_X11_motto : ab_MEL[135]? = some (yX11_motto, cX11_motto, 3, some .int, 0, 0, 0, [], tb_X11_motto) := rfl
set_option maxRecDepth 100000 in
theorem me_X10_byteAt : ab_MEL[136]? = some (yX10_byteAt, cX10_byteAt, 2, some .int, 0, 0, 0, [], tb_X10_byteAt) := rfl
set_option maxRecDepth 100000 in
theorem me_X11_byteAt : ab_MEL[137]? = some (yX11_byteAt, cX11_byteAt, 2, some .int, 0, 0, 0, [], tb_X11_byteAt) := rfl
set_option maxRecDepth 100000 in
theorem me_X10_drawn : ab_MEL[138]? = some (yX10_drawn, cX10_drawn, 4, some .int, 0, 0, 0, [], tb_X10_drawn) := rfl
set_option maxRecDepth 100000 in
theorem me_X11_drawn : ab_MEL[139]? = some (yX11_drawn, cX11_drawn, 3, some .int, 0, 0, 0, [], tb_X11_drawn) := rfl
set_option maxRecDepth 100000 in
theorem me_X10_odds : ab_MEL[140]? = some (yX10_odds, cX10_odds, 6, some .int, 0, 0, 0, [], tb_X10_odds) := rfl
set_option maxRecDepth 100000 in
theorem me_X11_odds : ab_MEL[141]? = some (yX11_odds, cX11_odds, 6, some .int, 0, 0, 0, [], tb_X11_odds) := rfl
set_option maxRecDepth 100000 in
theorem me_X10_book : ab_MEL[142]? = some (yX10_book, cX10_book, 3, some .int, 0, 0, 0, [], tb_X10_book) := rfl
set_option maxRecDepth 100000 in
theorem me_X0_read : ab_MEL[143]? = some (yX0_read, cX0_read, 3, some .boolean, 0, 0, 0, [], tb_X0_read) := rfl
set_option maxRecDepth 100000 in
theorem me_X0_judge : ab_MEL[144]? = some (yX0_judge, cX0_judge, 3, none, 0, 0, 0, [], tb_X0_judge) := rfl
set_option maxRecDepth 100000 in
theorem me_X11_book : ab_MEL[145]? = some (yX11_book, cX11_book, 4, some .int, 0, 0, 0, [], tb_X11_book) := rfl
set_option maxRecDepth 100000 in
theorem me_X10_told : ab_MEL[146]? = some (yX10_told, cX10_told, 2, some .int, 0, 0, 0, [], tb_X10_told) := rfl
set_option maxRecDepth 100000 in
theorem me_X11_told : ab_MEL[147]? = some (yX11_told, cX11_told, 2, some .int, 0, 0, 0, [], tb_X11_told) := rfl
set_option maxRecDepth 100000 in
theorem me_X10_sentence : ab_MEL[148]? = some (yX10_sentence, cX10_sentence, 3, some .int, 0, 0, 0, [], tb_X10_sentence) := rfl
set_option maxRecDepth 100000 in
theorem me_X6_read : ab_MEL[149]? = some (yX6_read, cX6_read, 3, some .boolean, 0, 0, 0, [], tb_X6_read) := rfl
set_option maxRecDepth 100000 in
theorem me_X6_readCond : ab_MEL[150]? = some (yX6_readCond, cX6_readCond, 5, some .boolean, 0, 0, 0, [], tb_X6_readCond) := rfl
set_option maxRecDepth 100000 in
theorem me_X6_readAll : ab_MEL[151]? = some (yX6_readAll, cX6_readAll, 5, some .boolean, 0, 0, 0, [], tb_X6_readAll) := rfl
set_option maxRecDepth 100000 in
theorem me_X6_readOne : ab_MEL[152]? = some (yX6_readOne, cX6_readOne, 6, some .boolean, 0, 0, 0, [], tb_X6_readOne) := rfl
set_option maxRecDepth 100000 in
theorem me_X6_beginsOne : ab_MEL[153]? = some (yX6_beginsOne, cX6_beginsOne, 1, some .boolean, 0, 0, 0, [], tb_X6_beginsOne) := rfl
set_option maxRecDepth 100000 in
theorem me_X4_failAs : ab_MEL[154]? = some (yX4_failAs, cX4_failAs, 2, some .boolean, 0, 0, 0, [], tb_X4_failAs) := rfl
set_option maxRecDepth 100000 in
theorem me_X11_sentence : ab_MEL[155]? = some (yX11_sentence, cX11_sentence, 3, some .int, 0, 0, 0, [], tb_X11_sentence) := rfl
set_option maxRecDepth 100000 in
theorem me_X11_operand : ab_MEL[156]? = some (yX11_operand, cX11_operand, 5, some .boolean, 0, 0, 0, [], tb_X11_operand) := rfl
set_option maxRecDepth 100000 in
theorem me_X11_isWord : ab_MEL[157]? = some (yX11_isWord, cX11_isWord, 3, some .boolean, 0, 0, 0, [], tb_X11_isWord) := rfl
set_option maxRecDepth 100000 in
theorem me_X11_isSign : ab_MEL[158]? = some (yX11_isSign, cX11_isSign, 2, some .boolean, 0, 0, 0, [], tb_X11_isSign) := rfl
set_option maxRecDepth 100000 in
theorem me_X11_leafOf : ab_MEL[159]? = some (yX11_leafOf, cX11_leafOf, 1, some .int, 0, 0, 0, [], tb_X11_leafOf) := rfl
set_option maxRecDepth 100000 in
theorem me_X11_bad : ab_MEL[160]? = some (yX11_bad, cX11_bad, 2, some .boolean, 0, 0, 0, [], tb_X11_bad) := rfl
set_option maxRecDepth 100000 in
theorem me_X10_said : ab_MEL[161]? = some (yX10_said, cX10_said, 4, some .int, 0, 0, 0, [], tb_X10_said) := rfl
set_option maxRecDepth 100000 in
theorem me_X11_said : ab_MEL[162]? = some (yX11_said, cX11_said, 4, some .int, 0, 0, 0, [], tb_X11_said) := rfl
set_option maxRecDepth 100000 in
theorem me_X10_image : ab_MEL[163]? = some (yX10_image, cX10_image, 3, some .boolean, 0, 0, 0, [], tb_X10_image) := rfl
set_option maxRecDepth 100000 in
theorem me_X8_copyFrom : ab_MEL[164]? = some (yX8_copyFrom, cX8_copyFrom, 2, none, 0, 0, 0, [], tb_X8_copyFrom) := rfl
set_option maxRecDepth 100000 in
theorem me_X6_copyFrom : ab_MEL[165]? = some (yX6_copyFrom, cX6_copyFrom, 2, none, 0, 0, 0, [], tb_X6_copyFrom) := rfl
set_option maxRecDepth 100000 in
theorem me_X11_image : ab_MEL[166]? = some (yX11_image, cX11_image, 3, some .boolean, 0, 0, 0, [], tb_X11_image) := rfl
set_option maxRecDepth 100000 in
theorem me_X10_restore : ab_MEL[167]? = some (yX10_restore, cX10_restore, 3, some .boolean, 0, 0, 0, [], tb_X10_restore) := rfl
set_option maxRecDepth 100000 in
theorem me_X11_restore : ab_MEL[168]? = some (yX11_restore, cX11_restore, 3, some .boolean, 0, 0, 0, [], tb_X11_restore) := rfl
set_option maxRecDepth 100000 in
theorem me_X10_count : ab_MEL[169]? = some (yX10_count, cX10_count, 2, some .int, 0, 0, 0, [], tb_X10_count) := rfl
set_option maxRecDepth 100000 in
theorem me_X8_limit : ab_MEL[170]? = some (yX8_limit, cX8_limit, 1, some .int, 0, 0, 0, [], tb_X8_limit) := rfl
set_option maxRecDepth 100000 in
theorem me_X8_change : ab_MEL[171]? = some (yX8_change, cX8_change, 1, some .int, 0, 0, 0, [], tb_X8_change) := rfl
set_option maxRecDepth 100000 in
theorem me_X8_frost : ab_MEL[172]? = some (yX8_frost, cX8_frost, 1, some .int, 0, 0, 0, [], tb_X8_frost) := rfl
set_option maxRecDepth 100000 in
theorem me_X11_count : ab_MEL[173]? = some (yX11_count, cX11_count, 2, some .int, 0, 0, 0, [], tb_X11_count) := rfl
section
variable {p : Program} {l : Launch} {e : Env} {R : Room} {s : State} {m : MethodId} {args : Array Value} {below : List Frame} {meth : Method} {c : Code} {Q : State → Prop} {cc : ByteArray} {nL : Nat} {X : ab_X} {D : va_G} {z0 : ab_Z} {cal : ab_K} {th : Nat → Prop} {pc : Nat} {f : ab_P} {t : List (Nat × Nat × ab_P)} {b : List (Nat × Nat × ab_P)} {bs : ab_tab}
theorem tcn : ∀ q ∈ ([] : List (Nat × Nat × ab_P)), ab_tv p l e R s m args below meth c Q cc nL X D z0 cal th q := fun _ h => nomatch h
theorem tc0 (h : ab_so p l e R s m args below meth c Q nL X D z0 cal pc f) (k : ∀ q ∈ t, ab_tv p l e R s m args below meth c Q cc nL X D z0 cal th q) : ∀ q ∈ (pc, 0, f) :: t, ab_tv p l e R s m args below meth c Q cc nL X D z0 cal th q := fun q hq => (List.mem_cons.mp hq).elim (fun e => e ▸ h) (k q)
theorem tc1 (h : decode cc pc = .ok (.ireturn, 1)) (k : ∀ q ∈ t, ab_tv p l e R s m args below meth c Q cc nL X D z0 cal th q) : ∀ q ∈ (pc, 1, f) :: t, ab_tv p l e R s m args below meth c Q cc nL X D z0 cal th q := fun q hq => (List.mem_cons.mp hq).elim (fun e => e ▸ h) (k q)
theorem tc2 (h : decode cc pc = .ok (.return_, 1)) (k : ∀ q ∈ t, ab_tv p l e R s m args below meth c Q cc nL X D z0 cal th q) : ∀ q ∈ (pc, 2, f) :: t, ab_tv p l e R s m args below meth c Q cc nL X D z0 cal th q := fun q hq => (List.mem_cons.mp hq).elim (fun e => e ▸ h) (k q)
theorem tc3 (h : th pc) (k : ∀ q ∈ t, ab_tv p l e R s m args below meth c Q cc nL X D z0 cal th q) : ∀ q ∈ (pc, 3, f) :: t, ab_tv p l e R s m args below meth c Q cc nL X D z0 cal th q := fun q hq => (List.mem_cons.mp hq).elim (fun e => e ▸ h) (k q)
theorem tc4 (k : ∀ q ∈ t, ab_tv p l e R s m args below meth c Q cc nL X D z0 cal th q) : ∀ q ∈ (pc, 4, f) :: t, ab_tv p l e R s m args below meth c Q cc nL X D z0 cal th q := fun q hq => (List.mem_cons.mp hq).elim (fun e => e ▸ trivial) (k q)
theorem bn : ∀ b ∈ ([] : ab_tab), ∀ q ∈ b, ab_tv p l e R s m args below meth c Q cc nL X D z0 cal th q := fun _ h => nomatch h
theorem bc (h : ∀ q ∈ b, ab_tv p l e R s m args below meth c Q cc nL X D z0 cal th q) (k : ∀ b ∈ bs, ∀ q ∈ b, ab_tv p l e R s m args below meth c Q cc nL X D z0 cal th q) : ∀ b' ∈ b :: bs, ∀ q ∈ b', ab_tv p l e R s m args below meth c Q cc nL X D z0 cal th q := fun b' hb => (List.mem_cons.mp hb).elim (fun e => e ▸ h) (k b')
end
end
