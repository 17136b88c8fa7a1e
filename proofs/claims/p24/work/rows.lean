section
-- ===== PART A: goes FIRST, ahead of the names: the tables' words, and 'selects' of the private methods out of them =====
/-- a private method of a class that the tables say can be made, by its rows of tables_1 -/
def lw_okq (q : MethodName × Nat) : Prop := (q.1.cls ≠ "java/lang/invoke/MethodHandle" ∧ q.1.cls ≠ "java/lang/invoke/VarHandle") ∧ Cond.instantiable q.1.cls q.2 ∈ tables_1 ∧ Cond.privateMethod q.1 ∈ tables_1 ∧ Cond.instanceMethod q.1 ∈ tables_1
theorem lw_p0 : lw_okq (⟨"StoneThatShakes$Reader", "readLine", "(LStoneThatShakes$Ring;LStoneThatShakes$Speeds;LStoneThatShakes$Cogs;)Z"⟩, 8) := ⟨⟨by decide +kernel, by decide +kernel⟩, List.mem_of_getElem? (i := 46) (by decide +kernel), List.mem_of_getElem? (i := 451) (by decide +kernel), List.mem_of_getElem? (i := 452) (by decide +kernel)⟩
theorem lw_p1 : lw_okq (⟨"StoneThatShakes$Reader", "readHole", "(LStoneThatShakes$Ring;)Z"⟩, 8) := ⟨⟨by decide +kernel, by decide +kernel⟩, List.mem_of_getElem? (i := 46) (by decide +kernel), List.mem_of_getElem? (i := 455) (by decide +kernel), List.mem_of_getElem? (i := 456) (by decide +kernel)⟩
theorem lw_p2 : lw_okq (⟨"StoneThatShakes$Reader", "readNumber", "(II)Z"⟩, 8) := ⟨⟨by decide +kernel, by decide +kernel⟩, List.mem_of_getElem? (i := 46) (by decide +kernel), List.mem_of_getElem? (i := 459) (by decide +kernel), List.mem_of_getElem? (i := 460) (by decide +kernel)⟩
theorem lw_p3 : lw_okq (⟨"StoneThatShakes$Reader", "isDigitHere", "()Z"⟩, 8) := ⟨⟨by decide +kernel, by decide +kernel⟩, List.mem_of_getElem? (i := 46) (by decide +kernel), List.mem_of_getElem? (i := 463) (by decide +kernel), List.mem_of_getElem? (i := 464) (by decide +kernel)⟩
theorem lw_p4 : lw_okq (⟨"StoneThatShakes$Reader", "readSign", "(I)Z"⟩, 8) := ⟨⟨by decide +kernel, by decide +kernel⟩, List.mem_of_getElem? (i := 46) (by decide +kernel), List.mem_of_getElem? (i := 467) (by decide +kernel), List.mem_of_getElem? (i := 468) (by decide +kernel)⟩
theorem lw_p5 : lw_okq (⟨"StoneThatShakes$Reader", "readSigned", "()Z"⟩, 8) := ⟨⟨by decide +kernel, by decide +kernel⟩, List.mem_of_getElem? (i := 46) (by decide +kernel), List.mem_of_getElem? (i := 471) (by decide +kernel), List.mem_of_getElem? (i := 472) (by decide +kernel)⟩
theorem lw_p6 : lw_okq (⟨"StoneThatShakes$Reader", "readSpeed", "(LStoneThatShakes$Speeds;)Z"⟩, 8) := ⟨⟨by decide +kernel, by decide +kernel⟩, List.mem_of_getElem? (i := 46) (by decide +kernel), List.mem_of_getElem? (i := 475) (by decide +kernel), List.mem_of_getElem? (i := 476) (by decide +kernel)⟩
theorem lw_p7 : lw_okq (⟨"StoneThatShakes$Reader", "readCog", "(LStoneThatShakes$Cogs;)Z"⟩, 8) := ⟨⟨by decide +kernel, by decide +kernel⟩, List.mem_of_getElem? (i := 46) (by decide +kernel), List.mem_of_getElem? (i := 479) (by decide +kernel), List.mem_of_getElem? (i := 480) (by decide +kernel)⟩
theorem lw_p8 : lw_okq (⟨"StoneThatShakes", "feltTruly", "(III)I"⟩, 16) := ⟨⟨by decide +kernel, by decide +kernel⟩, List.mem_of_getElem? (i := 22) (by decide +kernel), List.mem_of_getElem? (i := 547) (by decide +kernel), List.mem_of_getElem? (i := 548) (by decide +kernel)⟩
theorem lw_p9 : lw_okq (⟨"StoneThatShakes", "besides", "([III)I"⟩, 16) := ⟨⟨by decide +kernel, by decide +kernel⟩, List.mem_of_getElem? (i := 22) (by decide +kernel), List.mem_of_getElem? (i := 560) (by decide +kernel), List.mem_of_getElem? (i := 561) (by decide +kernel)⟩
theorem lw_p10 : lw_okq (⟨"StoneThatShakes$Trials", "addTrial", "(IIILStoneThatShakes$Ring;)I"⟩, 10) := ⟨⟨by decide +kernel, by decide +kernel⟩, List.mem_of_getElem? (i := 203) (by decide +kernel), List.mem_of_getElem? (i := 588) (by decide +kernel), List.mem_of_getElem? (i := 589) (by decide +kernel)⟩
theorem lw_p11 : lw_okq (⟨"StoneThatShakes", "gatherSpan", "()V"⟩, 16) := ⟨⟨by decide +kernel, by decide +kernel⟩, List.mem_of_getElem? (i := 22) (by decide +kernel), List.mem_of_getElem? (i := 610) (by decide +kernel), List.mem_of_getElem? (i := 611) (by decide +kernel)⟩
theorem lw_p12 : lw_okq (⟨"StoneThatShakes", "prepareTrials", "()V"⟩, 16) := ⟨⟨by decide +kernel, by decide +kernel⟩, List.mem_of_getElem? (i := 22) (by decide +kernel), List.mem_of_getElem? (i := 614) (by decide +kernel), List.mem_of_getElem? (i := 615) (by decide +kernel)⟩
theorem lw_p13 : lw_okq (⟨"StoneThatShakes", "feltBarePull", "(IIII)I"⟩, 16) := ⟨⟨by decide +kernel, by decide +kernel⟩, List.mem_of_getElem? (i := 22) (by decide +kernel), List.mem_of_getElem? (i := 618) (by decide +kernel), List.mem_of_getElem? (i := 619) (by decide +kernel)⟩
theorem lw_p14 : lw_okq (⟨"StoneThatShakes$Trials", "agrees", "(III)Z"⟩, 10) := ⟨⟨by decide +kernel, by decide +kernel⟩, List.mem_of_getElem? (i := 203) (by decide +kernel), List.mem_of_getElem? (i := 630) (by decide +kernel), List.mem_of_getElem? (i := 631) (by decide +kernel)⟩
theorem lw_p15 : lw_okq (⟨"StoneThatShakes", "gatherPulls", "()LStoneThatShakes$Pulls;"⟩, 16) := ⟨⟨by decide +kernel, by decide +kernel⟩, List.mem_of_getElem? (i := 22) (by decide +kernel), List.mem_of_getElem? (i := 681) (by decide +kernel), List.mem_of_getElem? (i := 682) (by decide +kernel)⟩
def lw_privs_1 : List (MethodName × Nat) := [(⟨"StoneThatShakes$Reader", "readLine", "(LStoneThatShakes$Ring;LStoneThatShakes$Speeds;LStoneThatShakes$Cogs;)Z"⟩, 8), (⟨"StoneThatShakes$Reader", "readHole", "(LStoneThatShakes$Ring;)Z"⟩, 8), (⟨"StoneThatShakes$Reader", "readNumber", "(II)Z"⟩, 8), (⟨"StoneThatShakes$Reader", "isDigitHere", "()Z"⟩, 8), (⟨"StoneThatShakes$Reader", "readSign", "(I)Z"⟩, 8), (⟨"StoneThatShakes$Reader", "readSigned", "()Z"⟩, 8), (⟨"StoneThatShakes$Reader", "readSpeed", "(LStoneThatShakes$Speeds;)Z"⟩, 8), (⟨"StoneThatShakes$Reader", "readCog", "(LStoneThatShakes$Cogs;)Z"⟩, 8), (⟨"StoneThatShakes", "feltTruly", "(III)I"⟩, 16), (⟨"StoneThatShakes", "besides", "([III)I"⟩, 16), (⟨"StoneThatShakes$Trials", "addTrial", "(IIILStoneThatShakes$Ring;)I"⟩, 10), (⟨"StoneThatShakes", "gatherSpan", "()V"⟩, 16), (⟨"StoneThatShakes", "prepareTrials", "()V"⟩, 16), (⟨"StoneThatShakes", "feltBarePull", "(IIII)I"⟩, 16), (⟨"StoneThatShakes$Trials", "agrees", "(III)Z"⟩, 10), (⟨"StoneThatShakes", "gatherPulls", "()LStoneThatShakes$Pulls;"⟩, 16)]
theorem lw_r1 : ∀ q ∈ lw_privs_1, lw_okq q := List.forall_mem_cons.mpr ⟨lw_p0, List.forall_mem_cons.mpr ⟨lw_p1, List.forall_mem_cons.mpr ⟨lw_p2, List.forall_mem_cons.mpr ⟨lw_p3, List.forall_mem_cons.mpr ⟨lw_p4, List.forall_mem_cons.mpr ⟨lw_p5, List.forall_mem_cons.mpr ⟨lw_p6, List.forall_mem_cons.mpr ⟨lw_p7, List.forall_mem_cons.mpr ⟨lw_p8, List.forall_mem_cons.mpr ⟨lw_p9, List.forall_mem_cons.mpr ⟨lw_p10, List.forall_mem_cons.mpr ⟨lw_p11, List.forall_mem_cons.mpr ⟨lw_p12, List.forall_mem_cons.mpr ⟨lw_p13, List.forall_mem_cons.mpr ⟨lw_p14, List.forall_mem_cons.mpr ⟨lw_p15, fun _ h => absurd h List.not_mem_nil⟩⟩⟩⟩⟩⟩⟩⟩⟩⟩⟩⟩⟩⟩⟩⟩
theorem lw_p16 : lw_okq (⟨"StoneThatShakes", "findNarrowest", "(LStoneThatShakes$Pulls;II)I"⟩, 16) := ⟨⟨by decide +kernel, by decide +kernel⟩, List.mem_of_getElem? (i := 22) (by decide +kernel), List.mem_of_getElem? (i := 727) (by decide +kernel), List.mem_of_getElem? (i := 728) (by decide +kernel)⟩
theorem lw_p17 : lw_okq (⟨"StoneThatShakes", "feelWithHung", "(LStoneThatShakes$Pulls;III)V"⟩, 16) := ⟨⟨by decide +kernel, by decide +kernel⟩, List.mem_of_getElem? (i := 22) (by decide +kernel), List.mem_of_getElem? (i := 731) (by decide +kernel), List.mem_of_getElem? (i := 732) (by decide +kernel)⟩
theorem lw_p18 : lw_okq (⟨"StoneThatShakes$Pulls", "sizeMade", "(I)J"⟩, 9) := ⟨⟨by decide +kernel, by decide +kernel⟩, List.mem_of_getElem? (i := 685) (by decide +kernel), List.mem_of_getElem? (i := 744) (by decide +kernel), List.mem_of_getElem? (i := 745) (by decide +kernel)⟩
theorem lw_p19 : lw_okq (⟨"StoneThatShakes$Pulls", "tallied", "(JI)I"⟩, 9) := ⟨⟨by decide +kernel, by decide +kernel⟩, List.mem_of_getElem? (i := 685) (by decide +kernel), List.mem_of_getElem? (i := 748) (by decide +kernel), List.mem_of_getElem? (i := 749) (by decide +kernel)⟩
theorem lw_p20 : lw_okq (⟨"StoneThatShakes", "feltByMan", "(II)J"⟩, 16) := ⟨⟨by decide +kernel, by decide +kernel⟩, List.mem_of_getElem? (i := 22) (by decide +kernel), List.mem_of_getElem? (i := 773) (by decide +kernel), List.mem_of_getElem? (i := 774) (by decide +kernel)⟩
theorem lw_p21 : lw_okq (⟨"StoneThatShakes", "unmended", "(II)I"⟩, 16) := ⟨⟨by decide +kernel, by decide +kernel⟩, List.mem_of_getElem? (i := 22) (by decide +kernel), List.mem_of_getElem? (i := 796) (by decide +kernel), List.mem_of_getElem? (i := 797) (by decide +kernel)⟩
theorem lw_p22 : lw_okq (⟨"StoneThatShakes", "searchPutting", "(II)J"⟩, 16) := ⟨⟨by decide +kernel, by decide +kernel⟩, List.mem_of_getElem? (i := 22) (by decide +kernel), List.mem_of_getElem? (i := 804) (by decide +kernel), List.mem_of_getElem? (i := 805) (by decide +kernel)⟩
theorem lw_p23 : lw_okq (⟨"StoneThatShakes", "startRestSearch", "(I)V"⟩, 16) := ⟨⟨by decide +kernel, by decide +kernel⟩, List.mem_of_getElem? (i := 22) (by decide +kernel), List.mem_of_getElem? (i := 808) (by decide +kernel), List.mem_of_getElem? (i := 809) (by decide +kernel)⟩
theorem lw_p24 : lw_okq (⟨"StoneThatShakes$Search", "costNow", "()J"⟩, 15) := ⟨⟨by decide +kernel, by decide +kernel⟩, List.mem_of_getElem? (i := 287) (by decide +kernel), List.mem_of_getElem? (i := 840) (by decide +kernel), List.mem_of_getElem? (i := 841) (by decide +kernel)⟩
theorem lw_p25 : lw_okq (⟨"StoneThatShakes$Search", "dig", "(II)V"⟩, 15) := ⟨⟨by decide +kernel, by decide +kernel⟩, List.mem_of_getElem? (i := 287) (by decide +kernel), List.mem_of_getElem? (i := 845) (by decide +kernel), List.mem_of_getElem? (i := 846) (by decide +kernel)⟩
theorem lw_p26 : lw_okq (⟨"StoneThatShakes$Search", "digLast", "(I)V"⟩, 15) := ⟨⟨by decide +kernel, by decide +kernel⟩, List.mem_of_getElem? (i := 287) (by decide +kernel), List.mem_of_getElem? (i := 849) (by decide +kernel), List.mem_of_getElem? (i := 850) (by decide +kernel)⟩
theorem lw_p27 : lw_okq (⟨"StoneThatShakes$Search", "slopeOf", "(I)J"⟩, 15) := ⟨⟨by decide +kernel, by decide +kernel⟩, List.mem_of_getElem? (i := 287) (by decide +kernel), List.mem_of_getElem? (i := 853) (by decide +kernel), List.mem_of_getElem? (i := 854) (by decide +kernel)⟩
theorem lw_p28 : lw_okq (⟨"StoneThatShakes$Search", "footOf", "(JI)J"⟩, 15) := ⟨⟨by decide +kernel, by decide +kernel⟩, List.mem_of_getElem? (i := 287) (by decide +kernel), List.mem_of_getElem? (i := 857) (by decide +kernel), List.mem_of_getElem? (i := 858) (by decide +kernel)⟩
theorem lw_p29 : lw_okq (⟨"StoneThatShakes$Search", "offer", "(J)V"⟩, 15) := ⟨⟨by decide +kernel, by decide +kernel⟩, List.mem_of_getElem? (i := 287) (by decide +kernel), List.mem_of_getElem? (i := 874) (by decide +kernel), List.mem_of_getElem? (i := 875) (by decide +kernel)⟩
theorem lw_p30 : lw_okq (⟨"StoneThatShakes$Search", "isPreferred", "()Z"⟩, 15) := ⟨⟨by decide +kernel, by decide +kernel⟩, List.mem_of_getElem? (i := 287) (by decide +kernel), List.mem_of_getElem? (i := 878) (by decide +kernel), List.mem_of_getElem? (i := 879) (by decide +kernel)⟩
theorem lw_p31 : lw_okq (⟨"StoneThatShakes$Search", "lay", "(II)V"⟩, 15) := ⟨⟨by decide +kernel, by decide +kernel⟩, List.mem_of_getElem? (i := 287) (by decide +kernel), List.mem_of_getElem? (i := 882) (by decide +kernel), List.mem_of_getElem? (i := 883) (by decide +kernel)⟩
def lw_privs_2 : List (MethodName × Nat) := [(⟨"StoneThatShakes", "findNarrowest", "(LStoneThatShakes$Pulls;II)I"⟩, 16), (⟨"StoneThatShakes", "feelWithHung", "(LStoneThatShakes$Pulls;III)V"⟩, 16), (⟨"StoneThatShakes$Pulls", "sizeMade", "(I)J"⟩, 9), (⟨"StoneThatShakes$Pulls", "tallied", "(JI)I"⟩, 9), (⟨"StoneThatShakes", "feltByMan", "(II)J"⟩, 16), (⟨"StoneThatShakes", "unmended", "(II)I"⟩, 16), (⟨"StoneThatShakes", "searchPutting", "(II)J"⟩, 16), (⟨"StoneThatShakes", "startRestSearch", "(I)V"⟩, 16), (⟨"StoneThatShakes$Search", "costNow", "()J"⟩, 15), (⟨"StoneThatShakes$Search", "dig", "(II)V"⟩, 15), (⟨"StoneThatShakes$Search", "digLast", "(I)V"⟩, 15), (⟨"StoneThatShakes$Search", "slopeOf", "(I)J"⟩, 15), (⟨"StoneThatShakes$Search", "footOf", "(JI)J"⟩, 15), (⟨"StoneThatShakes$Search", "offer", "(J)V"⟩, 15), (⟨"StoneThatShakes$Search", "isPreferred", "()Z"⟩, 15), (⟨"StoneThatShakes$Search", "lay", "(II)V"⟩, 15)]
theorem lw_r2 : ∀ q ∈ lw_privs_2, lw_okq q := List.forall_mem_cons.mpr ⟨lw_p16, List.forall_mem_cons.mpr ⟨lw_p17, List.forall_mem_cons.mpr ⟨lw_p18, List.forall_mem_cons.mpr ⟨lw_p19, List.forall_mem_cons.mpr ⟨lw_p20, List.forall_mem_cons.mpr ⟨lw_p21, List.forall_mem_cons.mpr ⟨lw_p22, List.forall_mem_cons.mpr ⟨lw_p23, List.forall_mem_cons.mpr ⟨lw_p24, List.forall_mem_cons.mpr ⟨lw_p25, List.forall_mem_cons.mpr ⟨lw_p26, List.forall_mem_cons.mpr ⟨lw_p27, List.forall_mem_cons.mpr ⟨lw_p28, List.forall_mem_cons.mpr ⟨lw_p29, List.forall_mem_cons.mpr ⟨lw_p30, List.forall_mem_cons.mpr ⟨lw_p31, fun _ h => absurd h List.not_mem_nil⟩⟩⟩⟩⟩⟩⟩⟩⟩⟩⟩⟩⟩⟩⟩⟩
theorem lw_p32 : lw_okq (⟨"StoneThatShakes", "tellSearched", "()V"⟩, 16) := ⟨⟨by decide +kernel, by decide +kernel⟩, List.mem_of_getElem? (i := 22) (by decide +kernel), List.mem_of_getElem? (i := 886) (by decide +kernel), List.mem_of_getElem? (i := 887) (by decide +kernel)⟩
theorem lw_p33 : lw_okq (⟨"StoneThatShakes", "gatherFitting", "(II)I"⟩, 16) := ⟨⟨by decide +kernel, by decide +kernel⟩, List.mem_of_getElem? (i := 22) (by decide +kernel), List.mem_of_getElem? (i := 906) (by decide +kernel), List.mem_of_getElem? (i := 907) (by decide +kernel)⟩
theorem lw_p34 : lw_okq (⟨"StoneThatShakes", "bestOunce", "(II)I"⟩, 16) := ⟨⟨by decide +kernel, by decide +kernel⟩, List.mem_of_getElem? (i := 22) (by decide +kernel), List.mem_of_getElem? (i := 917) (by decide +kernel), List.mem_of_getElem? (i := 918) (by decide +kernel)⟩
theorem lw_p35 : lw_okq (⟨"StoneThatShakes", "changeByOunce", "(II)J"⟩, 16) := ⟨⟨by decide +kernel, by decide +kernel⟩, List.mem_of_getElem? (i := 22) (by decide +kernel), List.mem_of_getElem? (i := 921) (by decide +kernel), List.mem_of_getElem? (i := 922) (by decide +kernel)⟩
theorem lw_p36 : lw_okq (⟨"StoneThatShakes", "settleOunce", "(I)Z"⟩, 16) := ⟨⟨by decide +kernel, by decide +kernel⟩, List.mem_of_getElem? (i := 22) (by decide +kernel), List.mem_of_getElem? (i := 929) (by decide +kernel), List.mem_of_getElem? (i := 930) (by decide +kernel)⟩
theorem lw_p37 : lw_okq (⟨"StoneThatShakes", "partingOfCrosses", "()I"⟩, 16) := ⟨⟨by decide +kernel, by decide +kernel⟩, List.mem_of_getElem? (i := 22) (by decide +kernel), List.mem_of_getElem? (i := 937) (by decide +kernel), List.mem_of_getElem? (i := 938) (by decide +kernel)⟩
theorem lw_p38 : lw_okq (⟨"StoneThatShakes", "tellPull", "(IIIII)V"⟩, 16) := ⟨⟨by decide +kernel, by decide +kernel⟩, List.mem_of_getElem? (i := 22) (by decide +kernel), List.mem_of_getElem? (i := 941) (by decide +kernel), List.mem_of_getElem? (i := 942) (by decide +kernel)⟩
theorem lw_p39 : lw_okq (⟨"StoneThatShakes", "feltThought", "(III)I"⟩, 16) := ⟨⟨by decide +kernel, by decide +kernel⟩, List.mem_of_getElem? (i := 22) (by decide +kernel), List.mem_of_getElem? (i := 958) (by decide +kernel), List.mem_of_getElem? (i := 959) (by decide +kernel)⟩
theorem lw_p40 : lw_okq (⟨"StoneThatShakes", "partingOfSpeeds", "(III)J"⟩, 16) := ⟨⟨by decide +kernel, by decide +kernel⟩, List.mem_of_getElem? (i := 22) (by decide +kernel), List.mem_of_getElem? (i := 988) (by decide +kernel), List.mem_of_getElem? (i := 989) (by decide +kernel)⟩
theorem lw_p41 : lw_okq (⟨"StoneThatShakes", "tellThree", "(IIIJJJ)V"⟩, 16) := ⟨⟨by decide +kernel, by decide +kernel⟩, List.mem_of_getElem? (i := 22) (by decide +kernel), List.mem_of_getElem? (i := 992) (by decide +kernel), List.mem_of_getElem? (i := 993) (by decide +kernel)⟩
theorem lw_p42 : lw_okq (⟨"StoneThatShakes", "cogsHavePlaces", "()Z"⟩, 16) := ⟨⟨by decide +kernel, by decide +kernel⟩, List.mem_of_getElem? (i := 22) (by decide +kernel), List.mem_of_getElem? (i := 1012) (by decide +kernel), List.mem_of_getElem? (i := 1013) (by decide +kernel)⟩
theorem lw_p43 : lw_okq (⟨"StoneThatShakes$Cogs", "seatFrom", "(LStoneThatShakes$Ring;IIII)V"⟩, 7) := ⟨⟨by decide +kernel, by decide +kernel⟩, List.mem_of_getElem? (i := 167) (by decide +kernel), List.mem_of_getElem? (i := 1029) (by decide +kernel), List.mem_of_getElem? (i := 1030) (by decide +kernel)⟩
theorem lw_p44 : lw_okq (⟨"StoneThatShakes$Cogs", "moved", "(II[I)I"⟩, 7) := ⟨⟨by decide +kernel, by decide +kernel⟩, List.mem_of_getElem? (i := 167) (by decide +kernel), List.mem_of_getElem? (i := 1046) (by decide +kernel), List.mem_of_getElem? (i := 1047) (by decide +kernel)⟩
theorem lw_p45 : lw_okq (⟨"java/lang/Throwable", "fillInStackTrace", "(I)Ljava/lang/Throwable;"⟩, 6) := ⟨⟨by decide +kernel, by decide +kernel⟩, List.mem_of_getElem? (i := 1125) (by decide +kernel), List.mem_of_getElem? (i := 1123) (by decide +kernel), List.mem_of_getElem? (i := 1124) (by decide +kernel)⟩
theorem lw_p46 : lw_okq (⟨"StoneThatShakesModel", "readsLine", "()Z"⟩, 75) := ⟨⟨by decide +kernel, by decide +kernel⟩, List.mem_of_getElem? (i := 1182) (by decide +kernel), List.mem_of_getElem? (i := 1180) (by decide +kernel), List.mem_of_getElem? (i := 1181) (by decide +kernel)⟩
theorem lw_p47 : lw_okq (⟨"StoneThatShakesModel", "number", "(II)I"⟩, 75) := ⟨⟨by decide +kernel, by decide +kernel⟩, List.mem_of_getElem? (i := 1182) (by decide +kernel), List.mem_of_getElem? (i := 1185) (by decide +kernel), List.mem_of_getElem? (i := 1186) (by decide +kernel)⟩
def lw_privs_3 : List (MethodName × Nat) := [(⟨"StoneThatShakes", "tellSearched", "()V"⟩, 16), (⟨"StoneThatShakes", "gatherFitting", "(II)I"⟩, 16), (⟨"StoneThatShakes", "bestOunce", "(II)I"⟩, 16), (⟨"StoneThatShakes", "changeByOunce", "(II)J"⟩, 16), (⟨"StoneThatShakes", "settleOunce", "(I)Z"⟩, 16), (⟨"StoneThatShakes", "partingOfCrosses", "()I"⟩, 16), (⟨"StoneThatShakes", "tellPull", "(IIIII)V"⟩, 16), (⟨"StoneThatShakes", "feltThought", "(III)I"⟩, 16), (⟨"StoneThatShakes", "partingOfSpeeds", "(III)J"⟩, 16), (⟨"StoneThatShakes", "tellThree", "(IIIJJJ)V"⟩, 16), (⟨"StoneThatShakes", "cogsHavePlaces", "()Z"⟩, 16), (⟨"StoneThatShakes$Cogs", "seatFrom", "(LStoneThatShakes$Ring;IIII)V"⟩, 7), (⟨"StoneThatShakes$Cogs", "moved", "(II[I)I"⟩, 7), (⟨"java/lang/Throwable", "fillInStackTrace", "(I)Ljava/lang/Throwable;"⟩, 6), (⟨"StoneThatShakesModel", "readsLine", "()Z"⟩, 75), (⟨"StoneThatShakesModel", "number", "(II)I"⟩, 75)]
theorem lw_r3 : ∀ q ∈ lw_privs_3, lw_okq q := List.forall_mem_cons.mpr ⟨lw_p32, List.forall_mem_cons.mpr ⟨lw_p33, List.forall_mem_cons.mpr ⟨lw_p34, List.forall_mem_cons.mpr ⟨lw_p35, List.forall_mem_cons.mpr ⟨lw_p36, List.forall_mem_cons.mpr ⟨lw_p37, List.forall_mem_cons.mpr ⟨lw_p38, List.forall_mem_cons.mpr ⟨lw_p39, List.forall_mem_cons.mpr ⟨lw_p40, List.forall_mem_cons.mpr ⟨lw_p41, List.forall_mem_cons.mpr ⟨lw_p42, List.forall_mem_cons.mpr ⟨lw_p43, List.forall_mem_cons.mpr ⟨lw_p44, List.forall_mem_cons.mpr ⟨lw_p45, List.forall_mem_cons.mpr ⟨lw_p46, List.forall_mem_cons.mpr ⟨lw_p47, fun _ h => absurd h List.not_mem_nil⟩⟩⟩⟩⟩⟩⟩⟩⟩⟩⟩⟩⟩⟩⟩⟩
theorem lw_p48 : lw_okq (⟨"StoneThatShakesModel", "isDigit", "()Z"⟩, 75) := ⟨⟨by decide +kernel, by decide +kernel⟩, List.mem_of_getElem? (i := 1182) (by decide +kernel), List.mem_of_getElem? (i := 1189) (by decide +kernel), List.mem_of_getElem? (i := 1190) (by decide +kernel)⟩
theorem lw_p49 : lw_okq (⟨"StoneThatShakesModel", "takes", "(I)Z"⟩, 75) := ⟨⟨by decide +kernel, by decide +kernel⟩, List.mem_of_getElem? (i := 1182) (by decide +kernel), List.mem_of_getElem? (i := 1195) (by decide +kernel), List.mem_of_getElem? (i := 1196) (by decide +kernel)⟩
theorem lw_p50 : lw_okq (⟨"StoneThatShakesModel", "signed", "()I"⟩, 75) := ⟨⟨by decide +kernel, by decide +kernel⟩, List.mem_of_getElem? (i := 1182) (by decide +kernel), List.mem_of_getElem? (i := 1202) (by decide +kernel), List.mem_of_getElem? (i := 1203) (by decide +kernel)⟩
theorem lw_p51 : lw_okq (⟨"StoneThatShakesModel", "isHole", "(I)Z"⟩, 75) := ⟨⟨by decide +kernel, by decide +kernel⟩, List.mem_of_getElem? (i := 1182) (by decide +kernel), List.mem_of_getElem? (i := 1210) (by decide +kernel), List.mem_of_getElem? (i := 1211) (by decide +kernel)⟩
theorem lw_p52 : lw_okq (⟨"StoneThatShakesModel", "ouncesAll", "()I"⟩, 75) := ⟨⟨by decide +kernel, by decide +kernel⟩, List.mem_of_getElem? (i := 1182) (by decide +kernel), List.mem_of_getElem? (i := 1230) (by decide +kernel), List.mem_of_getElem? (i := 1231) (by decide +kernel)⟩
theorem lw_p53 : lw_okq (⟨"StoneThatShakesModel", "isSpeed", "(I)Z"⟩, 75) := ⟨⟨by decide +kernel, by decide +kernel⟩, List.mem_of_getElem? (i := 1182) (by decide +kernel), List.mem_of_getElem? (i := 1264) (by decide +kernel), List.mem_of_getElem? (i := 1265) (by decide +kernel)⟩
theorem lw_p54 : lw_okq (⟨"StoneThatShakesModel", "leadsNow", "()V"⟩, 75) := ⟨⟨by decide +kernel, by decide +kernel⟩, List.mem_of_getElem? (i := 1182) (by decide +kernel), List.mem_of_getElem? (i := 1268) (by decide +kernel), List.mem_of_getElem? (i := 1269) (by decide +kernel)⟩
theorem lw_p55 : lw_okq (⟨"StoneThatShakesModel", "leads", "(II)V"⟩, 75) := ⟨⟨by decide +kernel, by decide +kernel⟩, List.mem_of_getElem? (i := 1182) (by decide +kernel), List.mem_of_getElem? (i := 1272) (by decide +kernel), List.mem_of_getElem? (i := 1273) (by decide +kernel)⟩
theorem lw_p56 : lw_okq (⟨"StoneThatShakesModel", "felt", "(II[II)J"⟩, 75) := ⟨⟨by decide +kernel, by decide +kernel⟩, List.mem_of_getElem? (i := 1182) (by decide +kernel), List.mem_of_getElem? (i := 1276) (by decide +kernel), List.mem_of_getElem? (i := 1277) (by decide +kernel)⟩
theorem lw_p57 : lw_okq (⟨"StoneThatShakesModel", "enters", "(J)V"⟩, 75) := ⟨⟨by decide +kernel, by decide +kernel⟩, List.mem_of_getElem? (i := 1182) (by decide +kernel), List.mem_of_getElem? (i := 1280) (by decide +kernel), List.mem_of_getElem? (i := 1281) (by decide +kernel)⟩
theorem lw_p58 : lw_okq (⟨"StoneThatShakesModel", "lays", "(IZIII)I"⟩, 75) := ⟨⟨by decide +kernel, by decide +kernel⟩, List.mem_of_getElem? (i := 1182) (by decide +kernel), List.mem_of_getElem? (i := 1301) (by decide +kernel), List.mem_of_getElem? (i := 1302) (by decide +kernel)⟩
theorem lw_p59 : lw_okq (⟨"StoneThatShakesModel", "finds", "()V"⟩, 75) := ⟨⟨by decide +kernel, by decide +kernel⟩, List.mem_of_getElem? (i := 1182) (by decide +kernel), List.mem_of_getElem? (i := 1318) (by decide +kernel), List.mem_of_getElem? (i := 1319) (by decide +kernel)⟩
theorem lw_p60 : lw_okq (⟨"StoneThatShakesModel", "prepares", "()V"⟩, 75) := ⟨⟨by decide +kernel, by decide +kernel⟩, List.mem_of_getElem? (i := 1182) (by decide +kernel), List.mem_of_getElem? (i := 1322) (by decide +kernel), List.mem_of_getElem? (i := 1323) (by decide +kernel)⟩
theorem lw_p61 : lw_okq (⟨"StoneThatShakesModel", "bases", "(I)V"⟩, 75) := ⟨⟨by decide +kernel, by decide +kernel⟩, List.mem_of_getElem? (i := 1182) (by decide +kernel), List.mem_of_getElem? (i := 1326) (by decide +kernel), List.mem_of_getElem? (i := 1327) (by decide +kernel)⟩
theorem lw_p62 : lw_okq (⟨"StoneThatShakesModel", "agreesAll", "(III)Z"⟩, 75) := ⟨⟨by decide +kernel, by decide +kernel⟩, List.mem_of_getElem? (i := 1182) (by decide +kernel), List.mem_of_getElem? (i := 1336) (by decide +kernel), List.mem_of_getElem? (i := 1337) (by decide +kernel)⟩
theorem lw_p63 : lw_okq (⟨"StoneThatShakesModel", "agrees", "(III)Z"⟩, 75) := ⟨⟨by decide +kernel, by decide +kernel⟩, List.mem_of_getElem? (i := 1182) (by decide +kernel), List.mem_of_getElem? (i := 1343) (by decide +kernel), List.mem_of_getElem? (i := 1344) (by decide +kernel)⟩
def lw_privs_4 : List (MethodName × Nat) := [(⟨"StoneThatShakesModel", "isDigit", "()Z"⟩, 75), (⟨"StoneThatShakesModel", "takes", "(I)Z"⟩, 75), (⟨"StoneThatShakesModel", "signed", "()I"⟩, 75), (⟨"StoneThatShakesModel", "isHole", "(I)Z"⟩, 75), (⟨"StoneThatShakesModel", "ouncesAll", "()I"⟩, 75), (⟨"StoneThatShakesModel", "isSpeed", "(I)Z"⟩, 75), (⟨"StoneThatShakesModel", "leadsNow", "()V"⟩, 75), (⟨"StoneThatShakesModel", "leads", "(II)V"⟩, 75), (⟨"StoneThatShakesModel", "felt", "(II[II)J"⟩, 75), (⟨"StoneThatShakesModel", "enters", "(J)V"⟩, 75), (⟨"StoneThatShakesModel", "lays", "(IZIII)I"⟩, 75), (⟨"StoneThatShakesModel", "finds", "()V"⟩, 75), (⟨"StoneThatShakesModel", "prepares", "()V"⟩, 75), (⟨"StoneThatShakesModel", "bases", "(I)V"⟩, 75), (⟨"StoneThatShakesModel", "agreesAll", "(III)Z"⟩, 75), (⟨"StoneThatShakesModel", "agrees", "(III)Z"⟩, 75)]
theorem lw_r4 : ∀ q ∈ lw_privs_4, lw_okq q := List.forall_mem_cons.mpr ⟨lw_p48, List.forall_mem_cons.mpr ⟨lw_p49, List.forall_mem_cons.mpr ⟨lw_p50, List.forall_mem_cons.mpr ⟨lw_p51, List.forall_mem_cons.mpr ⟨lw_p52, List.forall_mem_cons.mpr ⟨lw_p53, List.forall_mem_cons.mpr ⟨lw_p54, List.forall_mem_cons.mpr ⟨lw_p55, List.forall_mem_cons.mpr ⟨lw_p56, List.forall_mem_cons.mpr ⟨lw_p57, List.forall_mem_cons.mpr ⟨lw_p58, List.forall_mem_cons.mpr ⟨lw_p59, List.forall_mem_cons.mpr ⟨lw_p60, List.forall_mem_cons.mpr ⟨lw_p61, List.forall_mem_cons.mpr ⟨lw_p62, List.forall_mem_cons.mpr ⟨lw_p63, fun _ h => absurd h List.not_mem_nil⟩⟩⟩⟩⟩⟩⟩⟩⟩⟩⟩⟩⟩⟩⟩⟩
theorem lw_p64 : lw_okq (⟨"StoneThatShakesModel", "some", "(I)Z"⟩, 75) := ⟨⟨by decide +kernel, by decide +kernel⟩, List.mem_of_getElem? (i := 1182) (by decide +kernel), List.mem_of_getElem? (i := 1368) (by decide +kernel), List.mem_of_getElem? (i := 1369) (by decide +kernel)⟩
theorem lw_p65 : lw_okq (⟨"StoneThatShakesModel", "narrows", "(II)I"⟩, 75) := ⟨⟨by decide +kernel, by decide +kernel⟩, List.mem_of_getElem? (i := 1182) (by decide +kernel), List.mem_of_getElem? (i := 1377) (by decide +kernel), List.mem_of_getElem? (i := 1378) (by decide +kernel)⟩
theorem lw_p66 : lw_okq (⟨"StoneThatShakesModel", "leaves", "(III)I"⟩, 75) := ⟨⟨by decide +kernel, by decide +kernel⟩, List.mem_of_getElem? (i := 1182) (by decide +kernel), List.mem_of_getElem? (i := 1381) (by decide +kernel), List.mem_of_getElem? (i := 1382) (by decide +kernel)⟩
theorem lw_p67 : lw_okq (⟨"StoneThatShakesModel", "sizeOf", "(I)J"⟩, 75) := ⟨⟨by decide +kernel, by decide +kernel⟩, List.mem_of_getElem? (i := 1182) (by decide +kernel), List.mem_of_getElem? (i := 1385) (by decide +kernel), List.mem_of_getElem? (i := 1386) (by decide +kernel)⟩
theorem lw_p68 : lw_okq (⟨"StoneThatShakesModel", "sorts", "(II)V"⟩, 75) := ⟨⟨by decide +kernel, by decide +kernel⟩, List.mem_of_getElem? (i := 1182) (by decide +kernel), List.mem_of_getElem? (i := 1389) (by decide +kernel), List.mem_of_getElem? (i := 1390) (by decide +kernel)⟩
theorem lw_p69 : lw_okq (⟨"StoneThatShakesModel", "isMended", "(I)Z"⟩, 75) := ⟨⟨by decide +kernel, by decide +kernel⟩, List.mem_of_getElem? (i := 1182) (by decide +kernel), List.mem_of_getElem? (i := 1397) (by decide +kernel), List.mem_of_getElem? (i := 1398) (by decide +kernel)⟩
theorem lw_p70 : lw_okq (⟨"StoneThatShakesModel", "keepsLike", "(II)V"⟩, 75) := ⟨⟨by decide +kernel, by decide +kernel⟩, List.mem_of_getElem? (i := 1182) (by decide +kernel), List.mem_of_getElem? (i := 1401) (by decide +kernel), List.mem_of_getElem? (i := 1402) (by decide +kernel)⟩
theorem lw_p71 : lw_okq (⟨"StoneThatShakesModel", "told", "(III)J"⟩, 75) := ⟨⟨by decide +kernel, by decide +kernel⟩, List.mem_of_getElem? (i := 1182) (by decide +kernel), List.mem_of_getElem? (i := 1418) (by decide +kernel), List.mem_of_getElem? (i := 1419) (by decide +kernel)⟩
theorem lw_p72 : lw_okq (⟨"StoneThatShakesModel", "restOf", "(I)J"⟩, 75) := ⟨⟨by decide +kernel, by decide +kernel⟩, List.mem_of_getElem? (i := 1182) (by decide +kernel), List.mem_of_getElem? (i := 1430) (by decide +kernel), List.mem_of_getElem? (i := 1431) (by decide +kernel)⟩
theorem lw_p73 : lw_okq (⟨"StoneThatShakesModel", "mended", "(IIZZ)J"⟩, 75) := ⟨⟨by decide +kernel, by decide +kernel⟩, List.mem_of_getElem? (i := 1182) (by decide +kernel), List.mem_of_getElem? (i := 1438) (by decide +kernel), List.mem_of_getElem? (i := 1439) (by decide +kernel)⟩
theorem lw_p74 : lw_okq (⟨"StoneThatShakesModel", "mends", "(IIZZ)V"⟩, 75) := ⟨⟨by decide +kernel, by decide +kernel⟩, List.mem_of_getElem? (i := 1182) (by decide +kernel), List.mem_of_getElem? (i := 1442) (by decide +kernel), List.mem_of_getElem? (i := 1443) (by decide +kernel)⟩
theorem lw_p75 : lw_okq (⟨"StoneThatShakesModel", "goes", "(III)V"⟩, 75) := ⟨⟨by decide +kernel, by decide +kernel⟩, List.mem_of_getElem? (i := 1182) (by decide +kernel), List.mem_of_getElem? (i := 1446) (by decide +kernel), List.mem_of_getElem? (i := 1447) (by decide +kernel)⟩
theorem lw_p76 : lw_okq (⟨"StoneThatShakesModel", "asks", "()J"⟩, 75) := ⟨⟨by decide +kernel, by decide +kernel⟩, List.mem_of_getElem? (i := 1182) (by decide +kernel), List.mem_of_getElem? (i := 1450) (by decide +kernel), List.mem_of_getElem? (i := 1451) (by decide +kernel)⟩
theorem lw_p77 : lw_okq (⟨"StoneThatShakesModel", "bothBearings", "(I)J"⟩, 75) := ⟨⟨by decide +kernel, by decide +kernel⟩, List.mem_of_getElem? (i := 1182) (by decide +kernel), List.mem_of_getElem? (i := 1454) (by decide +kernel), List.mem_of_getElem? (i := 1455) (by decide +kernel)⟩
theorem lw_p78 : lw_okq (⟨"StoneThatShakesModel", "entersFound", "()V"⟩, 75) := ⟨⟨by decide +kernel, by decide +kernel⟩, List.mem_of_getElem? (i := 1182) (by decide +kernel), List.mem_of_getElem? (i := 1459) (by decide +kernel), List.mem_of_getElem? (i := 1460) (by decide +kernel)⟩
theorem lw_p79 : lw_okq (⟨"StoneThatShakesModel", "ounceOf", "(II)I"⟩, 75) := ⟨⟨by decide +kernel, by decide +kernel⟩, List.mem_of_getElem? (i := 1182) (by decide +kernel), List.mem_of_getElem? (i := 1483) (by decide +kernel), List.mem_of_getElem? (i := 1484) (by decide +kernel)⟩
def lw_privs_5 : List (MethodName × Nat) := [(⟨"StoneThatShakesModel", "some", "(I)Z"⟩, 75), (⟨"StoneThatShakesModel", "narrows", "(II)I"⟩, 75), (⟨"StoneThatShakesModel", "leaves", "(III)I"⟩, 75), (⟨"StoneThatShakesModel", "sizeOf", "(I)J"⟩, 75), (⟨"StoneThatShakesModel", "sorts", "(II)V"⟩, 75), (⟨"StoneThatShakesModel", "isMended", "(I)Z"⟩, 75), (⟨"StoneThatShakesModel", "keepsLike", "(II)V"⟩, 75), (⟨"StoneThatShakesModel", "told", "(III)J"⟩, 75), (⟨"StoneThatShakesModel", "restOf", "(I)J"⟩, 75), (⟨"StoneThatShakesModel", "mended", "(IIZZ)J"⟩, 75), (⟨"StoneThatShakesModel", "mends", "(IIZZ)V"⟩, 75), (⟨"StoneThatShakesModel", "goes", "(III)V"⟩, 75), (⟨"StoneThatShakesModel", "asks", "()J"⟩, 75), (⟨"StoneThatShakesModel", "bothBearings", "(I)J"⟩, 75), (⟨"StoneThatShakesModel", "entersFound", "()V"⟩, 75), (⟨"StoneThatShakesModel", "ounceOf", "(II)I"⟩, 75)]
theorem lw_r5 : ∀ q ∈ lw_privs_5, lw_okq q := List.forall_mem_cons.mpr ⟨lw_p64, List.forall_mem_cons.mpr ⟨lw_p65, List.forall_mem_cons.mpr ⟨lw_p66, List.forall_mem_cons.mpr ⟨lw_p67, List.forall_mem_cons.mpr ⟨lw_p68, List.forall_mem_cons.mpr ⟨lw_p69, List.forall_mem_cons.mpr ⟨lw_p70, List.forall_mem_cons.mpr ⟨lw_p71, List.forall_mem_cons.mpr ⟨lw_p72, List.forall_mem_cons.mpr ⟨lw_p73, List.forall_mem_cons.mpr ⟨lw_p74, List.forall_mem_cons.mpr ⟨lw_p75, List.forall_mem_cons.mpr ⟨lw_p76, List.forall_mem_cons.mpr ⟨lw_p77, List.forall_mem_cons.mpr ⟨lw_p78, List.forall_mem_cons.mpr ⟨lw_p79, fun _ h => absurd h List.not_mem_nil⟩⟩⟩⟩⟩⟩⟩⟩⟩⟩⟩⟩⟩⟩⟩⟩
theorem lw_p80 : lw_okq (⟨"StoneThatShakesModel", "entersFraction", "(JJ)V"⟩, 75) := ⟨⟨by decide +kernel, by decide +kernel⟩, List.mem_of_getElem? (i := 1182) (by decide +kernel), List.mem_of_getElem? (i := 1495) (by decide +kernel), List.mem_of_getElem? (i := 1496) (by decide +kernel)⟩
theorem lw_p81 : lw_okq (⟨"StoneThatShakesModel", "laysOut", "(IIIIJJJ)V"⟩, 75) := ⟨⟨by decide +kernel, by decide +kernel⟩, List.mem_of_getElem? (i := 1182) (by decide +kernel), List.mem_of_getElem? (i := 1531) (by decide +kernel), List.mem_of_getElem? (i := 1532) (by decide +kernel)⟩
theorem lw_p82 : lw_okq (⟨"StoneThatShakesModel", "areCogs", "()Z"⟩, 75) := ⟨⟨by decide +kernel, by decide +kernel⟩, List.mem_of_getElem? (i := 1182) (by decide +kernel), List.mem_of_getElem? (i := 1550) (by decide +kernel), List.mem_of_getElem? (i := 1551) (by decide +kernel)⟩
theorem lw_p83 : lw_okq (⟨"StoneThatShakesModel", "asTold", "()V"⟩, 75) := ⟨⟨by decide +kernel, by decide +kernel⟩, List.mem_of_getElem? (i := 1182) (by decide +kernel), List.mem_of_getElem? (i := 1554) (by decide +kernel), List.mem_of_getElem? (i := 1555) (by decide +kernel)⟩
theorem lw_p84 : lw_okq (⟨"StoneThatShakesModel", "cogSize", "()J"⟩, 75) := ⟨⟨by decide +kernel, by decide +kernel⟩, List.mem_of_getElem? (i := 1182) (by decide +kernel), List.mem_of_getElem? (i := 1558) (by decide +kernel), List.mem_of_getElem? (i := 1559) (by decide +kernel)⟩
theorem lw_p85 : lw_okq (⟨"StoneThatShakesModel", "orders", "(II)V"⟩, 75) := ⟨⟨by decide +kernel, by decide +kernel⟩, List.mem_of_getElem? (i := 1182) (by decide +kernel), List.mem_of_getElem? (i := 1566) (by decide +kernel), List.mem_of_getElem? (i := 1567) (by decide +kernel)⟩
theorem lw_p86 : lw_okq (⟨"StoneThatShakesModel", "exchanges", "(II)V"⟩, 75) := ⟨⟨by decide +kernel, by decide +kernel⟩, List.mem_of_getElem? (i := 1182) (by decide +kernel), List.mem_of_getElem? (i := 1574) (by decide +kernel), List.mem_of_getElem? (i := 1575) (by decide +kernel)⟩
theorem lw_p87 : lw_okq (⟨"StoneThatShakesModel", "lays", "(I)V"⟩, 75) := ⟨⟨by decide +kernel, by decide +kernel⟩, List.mem_of_getElem? (i := 1182) (by decide +kernel), List.mem_of_getElem? (i := 1582) (by decide +kernel), List.mem_of_getElem? (i := 1583) (by decide +kernel)⟩
theorem lw_p88 : lw_okq (⟨"StoneThatShakesModel", "takesKept", "()I"⟩, 75) := ⟨⟨by decide +kernel, by decide +kernel⟩, List.mem_of_getElem? (i := 1182) (by decide +kernel), List.mem_of_getElem? (i := 1590) (by decide +kernel), List.mem_of_getElem? (i := 1591) (by decide +kernel)⟩
def lw_privs_6 : List (MethodName × Nat) := [(⟨"StoneThatShakesModel", "entersFraction", "(JJ)V"⟩, 75), (⟨"StoneThatShakesModel", "laysOut", "(IIIIJJJ)V"⟩, 75), (⟨"StoneThatShakesModel", "areCogs", "()Z"⟩, 75), (⟨"StoneThatShakesModel", "asTold", "()V"⟩, 75), (⟨"StoneThatShakesModel", "cogSize", "()J"⟩, 75), (⟨"StoneThatShakesModel", "orders", "(II)V"⟩, 75), (⟨"StoneThatShakesModel", "exchanges", "(II)V"⟩, 75), (⟨"StoneThatShakesModel", "lays", "(I)V"⟩, 75), (⟨"StoneThatShakesModel", "takesKept", "()I"⟩, 75)]
theorem lw_r6 : ∀ q ∈ lw_privs_6, lw_okq q := List.forall_mem_cons.mpr ⟨lw_p80, List.forall_mem_cons.mpr ⟨lw_p81, List.forall_mem_cons.mpr ⟨lw_p82, List.forall_mem_cons.mpr ⟨lw_p83, List.forall_mem_cons.mpr ⟨lw_p84, List.forall_mem_cons.mpr ⟨lw_p85, List.forall_mem_cons.mpr ⟨lw_p86, List.forall_mem_cons.mpr ⟨lw_p87, List.forall_mem_cons.mpr ⟨lw_p88, fun _ h => absurd h List.not_mem_nil⟩⟩⟩⟩⟩⟩⟩⟩⟩
def lw_privs : List (MethodName × Nat) := lw_privs_1 ++ (lw_privs_2 ++ (lw_privs_3 ++ (lw_privs_4 ++ (lw_privs_5 ++ (lw_privs_6)))))
def lw_tbl : List Cond := k2_sels lw_privs ++ tables_1
theorem lw_privs_ok : ∀ q ∈ lw_privs, lw_okq q := by
  show ∀ q ∈ lw_privs_1 ++ (lw_privs_2 ++ (lw_privs_3 ++ (lw_privs_4 ++ (lw_privs_5 ++ (lw_privs_6))))), lw_okq q
  exact List.forall_mem_append.mpr ⟨lw_r1, List.forall_mem_append.mpr ⟨lw_r2, List.forall_mem_append.mpr ⟨lw_r3, List.forall_mem_append.mpr ⟨lw_r4, List.forall_mem_append.mpr ⟨lw_r5, lw_r6⟩⟩⟩⟩⟩
end
section
def RX0 : String := "StoneThatShakes$Cogs"
def TX0 : u_T := fun k => match k with
  | 0 => ("StoneThatShakes$Cogs", "count", "I", false)
  | 1 => ("StoneThatShakes$Cogs", "weight", "[I", true)
  | 2 => ("StoneThatShakes$Cogs", "seat", "[I", true)
  | 3 => ("StoneThatShakes$Cogs", "best", "[I", true)
  | 4 => ("StoneThatShakes$Cogs", "x", "I", false)
  | 5 => ("StoneThatShakes$Cogs", "y", "I", false)
  | _ => ("StoneThatShakes$Cogs", "leastSize", "J", false)
def tyX0 : Nat → FieldType := fun k => match k with
  | 0 => .int
  | 1 => .array .int
  | 2 => .array .int
  | 3 => .array .int
  | 4 => .int
  | 5 => .int
  | _ => .long
theorem nmX0 : ∀ a, a < 7 → ∀ b, b < 7 → a ≠ b → (TX0 a).2.1 ≠ (TX0 b).2.1 := by decide +kernel
theorem tyX0_ok : ∀ k, k < 7 → parseFieldDescriptor (TX0 k).2.2.1 = some (tyX0 k) := by decide +kernel
abbrev cX0_init : ByteArray := prog_2_method_1_code
def yX0_init : MethodName := ⟨RX0, "<init>", "()V"⟩
abbrev cX0_seatAsTold : ByteArray := prog_2_method_2_code
def yX0_seatAsTold : MethodName := ⟨RX0, "seatAsTold", "(LStoneThatShakes$Ring;)V"⟩
abbrev cX0_findLeast : ByteArray := prog_2_method_3_code
def yX0_findLeast : MethodName := ⟨RX0, "findLeast", "(LStoneThatShakes$Ring;)V"⟩
abbrev cX0_seatFrom : ByteArray := prog_2_method_4_code
def yX0_seatFrom : MethodName := ⟨RX0, "seatFrom", "(LStoneThatShakes$Ring;IIII)V"⟩
abbrev cX0_exchangeBest : ByteArray := prog_2_method_5_code
def yX0_exchangeBest : MethodName := ⟨RX0, "exchangeBest", "(LStoneThatShakes$Ring;)Z"⟩
abbrev cX0_moved : ByteArray := prog_2_method_6_code
def yX0_moved : MethodName := ⟨RX0, "moved", "(II[I)I"⟩
def RX1 : String := "StoneThatShakes$Ends"
def TX1 : u_T := fun k => match k with
  | 0 => ("StoneThatShakes$Ends", "count", "I", false)
  | 1 => ("StoneThatShakes$Ends", "firstX", "I", false)
  | 2 => ("StoneThatShakes$Ends", "firstY", "I", false)
  | 3 => ("StoneThatShakes$Ends", "lastX", "I", false)
  | 4 => ("StoneThatShakes$Ends", "lastY", "I", false)
  | 5 => ("StoneThatShakes$Ends", "leastY", "I", false)
  | 6 => ("StoneThatShakes$Ends", "greatestY", "I", false)
  | 7 => ("StoneThatShakes$Ends", "fewX", "[I", true)
  | _ => ("StoneThatShakes$Ends", "fewY", "[I", true)
def tyX1 : Nat → FieldType := fun k => match k with
  | 0 => .int
  | 1 => .int
  | 2 => .int
  | 3 => .int
  | 4 => .int
  | 5 => .int
  | 6 => .int
  | 7 => .array .int
  | _ => .array .int
theorem nmX1 : ∀ a, a < 9 → ∀ b, b < 9 → a ≠ b → (TX1 a).2.1 ≠ (TX1 b).2.1 := by decide +kernel
theorem tyX1_ok : ∀ k, k < 9 → parseFieldDescriptor (TX1 k).2.2.1 = some (tyX1 k) := by decide +kernel
abbrev cX1_init : ByteArray := prog_3_method_1_code
def yX1_init : MethodName := ⟨RX1, "<init>", "()V"⟩
abbrev cX1_start : ByteArray := prog_3_method_2_code
def yX1_start : MethodName := ⟨RX1, "start", "()V"⟩
abbrev cX1_take : ByteArray := prog_3_method_3_code
def yX1_take : MethodName := ⟨RX1, "take", "(II)V"⟩
abbrev cX1_widest : ByteArray := prog_3_method_4_code
def yX1_widest : MethodName := ⟨RX1, "widest", "()J"⟩
def RX2 : String := "StoneThatShakes$Kept"
def TX2 : u_T := fun k => match k with
  | 0 => ("StoneThatShakes$Kept", "filled", "Z", false)
  | 1 => ("StoneThatShakes$Kept", "has", "[I", true)
  | 2 => ("StoneThatShakes$Kept", "thoughts", "[I", true)
  | 3 => ("StoneThatShakes$Kept", "apart", "LStoneThatShakes$Speeds;", true)
  | 4 => ("StoneThatShakes$Kept", "trials", "LStoneThatShakes$Trials;", true)
  | 5 => ("StoneThatShakes$Kept", "poundHole", "I", false)
  | _ => ("StoneThatShakes$Kept", "poundOunces", "I", false)
def tyX2 : Nat → FieldType := fun k => match k with
  | 0 => .boolean
  | 1 => .array .int
  | 2 => .array .int
  | 3 => .object "StoneThatShakes$Speeds"
  | 4 => .object "StoneThatShakes$Trials"
  | 5 => .int
  | _ => .int
theorem nmX2 : ∀ a, a < 7 → ∀ b, b < 7 → a ≠ b → (TX2 a).2.1 ≠ (TX2 b).2.1 := by decide +kernel
theorem tyX2_ok : ∀ k, k < 7 → parseFieldDescriptor (TX2 k).2.2.1 = some (tyX2 k) := by decide +kernel
abbrev cX2_init : ByteArray := prog_4_method_1_code
def yX2_init : MethodName := ⟨RX2, "<init>", "()V"⟩
abbrev cX2_store : ByteArray := prog_4_method_2_code
def yX2_store : MethodName := ⟨RX2, "store", "(LStoneThatShakes$Ring;LStoneThatShakes$Speeds;LStoneThatShakes$Trials;[I)V"⟩
abbrev cX2_bringBack : ByteArray := prog_4_method_3_code
def yX2_bringBack : MethodName := ⟨RX2, "bringBack", "(LStoneThatShakes$Ring;LStoneThatShakes$Speeds;LStoneThatShakes$Trials;[I)V"⟩
def RX3 : String := "StoneThatShakes$Pulls"
def TX3 : u_T := fun k => match k with
  | 0 => ("StoneThatShakes$Pulls", "count", "I", false)
  | 1 => ("StoneThatShakes$Pulls", "bestHole", "I", false)
  | 2 => ("StoneThatShakes$Pulls", "bestOunces", "I", false)
  | 3 => ("StoneThatShakes$Pulls", "behind", "[I", true)
  | 4 => ("StoneThatShakes$Pulls", "codes", "[I", true)
  | 5 => ("StoneThatShakes$Pulls", "squareX", "[J", true)
  | 6 => ("StoneThatShakes$Pulls", "squareY", "[J", true)
  | 7 => ("StoneThatShakes$Pulls", "sizes", "[J", true)
  | _ => ("StoneThatShakes$Pulls", "tally", "[I", true)
def tyX3 : Nat → FieldType := fun k => match k with
  | 0 => .int
  | 1 => .int
  | 2 => .int
  | 3 => .array .int
  | 4 => .array .int
  | 5 => .array .long
  | 6 => .array .long
  | 7 => .array .long
  | _ => .array .int
theorem nmX3 : ∀ a, a < 9 → ∀ b, b < 9 → a ≠ b → (TX3 a).2.1 ≠ (TX3 b).2.1 := by decide +kernel
theorem tyX3_ok : ∀ k, k < 9 → parseFieldDescriptor (TX3 k).2.2.1 = some (tyX3 k) := by decide +kernel
abbrev cX3_init : ByteArray := prog_5_method_1_code
def yX3_init : MethodName := ⟨RX3, "<init>", "()V"⟩
abbrev cX3_gather : ByteArray := prog_5_method_2_code
def yX3_gather : MethodName := ⟨RX3, "gather", "(LStoneThatShakes$Trials;)V"⟩
abbrev cX3_setSizes : ByteArray := prog_5_method_3_code
def yX3_setSizes : MethodName := ⟨RX3, "setSizes", "(III)V"⟩
abbrev cX3_sizeMade : ByteArray := prog_5_method_4_code
def yX3_sizeMade : MethodName := ⟨RX3, "sizeMade", "(I)J"⟩
abbrev cX3_mostAlike : ByteArray := prog_5_method_5_code
def yX3_mostAlike : MethodName := ⟨RX3, "mostAlike", "(I)I"⟩
abbrev cX3_tallied : ByteArray := prog_5_method_6_code
def yX3_tallied : MethodName := ⟨RX3, "tallied", "(JI)I"⟩
abbrev cX3_keepAlike : ByteArray := prog_5_method_7_code
def yX3_keepAlike : MethodName := ⟨RX3, "keepAlike", "(II)V"⟩
def RX4 : String := "StoneThatShakes$Reader"
def TX4 : u_T := fun k => match k with
  | 0 => ("StoneThatShakes$Reader", "signs", "[I", true)
  | 1 => ("StoneThatShakes$Reader", "length", "I", false)
  | 2 => ("StoneThatShakes$Reader", "limit", "I", false)
  | 3 => ("StoneThatShakes$Reader", "place", "I", false)
  | 4 => ("StoneThatShakes$Reader", "number", "I", false)
  | 5 => ("StoneThatShakes$Reader", "moreHoles", "I", false)
  | 6 => ("StoneThatShakes$Reader", "moreSpeeds", "I", false)
  | _ => ("StoneThatShakes$Reader", "moreCogs", "I", false)
def tyX4 : Nat → FieldType := fun k => match k with
  | 0 => .array .int
  | 1 => .int
  | 2 => .int
  | 3 => .int
  | 4 => .int
  | 5 => .int
  | 6 => .int
  | _ => .int
theorem nmX4 : ∀ a, a < 8 → ∀ b, b < 8 → a ≠ b → (TX4 a).2.1 ≠ (TX4 b).2.1 := by decide +kernel
theorem tyX4_ok : ∀ k, k < 8 → parseFieldDescriptor (TX4 k).2.2.1 = some (tyX4 k) := by decide +kernel
abbrev cX4_init : ByteArray := prog_6_method_1_code
def yX4_init : MethodName := ⟨RX4, "<init>", "()V"⟩
abbrev cX4_append : ByteArray := prog_6_method_2_code
def yX4_append : MethodName := ⟨RX4, "append", "(I)I"⟩
abbrev cX4_cutTo : ByteArray := prog_6_method_3_code
def yX4_cutTo : MethodName := ⟨RX4, "cutTo", "(I)Z"⟩
abbrev cX4_empty : ByteArray := prog_6_method_4_code
def yX4_empty : MethodName := ⟨RX4, "empty", "()V"⟩
abbrev cX4_readLines : ByteArray := prog_6_method_5_code
def yX4_readLines : MethodName := ⟨RX4, "readLines", "(LStoneThatShakes$Ring;LStoneThatShakes$Speeds;LStoneThatShakes$Cogs;)I"⟩
abbrev cX4_readLine : ByteArray := prog_6_method_6_code
def yX4_readLine : MethodName := ⟨RX4, "readLine", "(LStoneThatShakes$Ring;LStoneThatShakes$Speeds;LStoneThatShakes$Cogs;)Z"⟩
abbrev cX4_readHole : ByteArray := prog_6_method_7_code
def yX4_readHole : MethodName := ⟨RX4, "readHole", "(LStoneThatShakes$Ring;)Z"⟩
abbrev cX4_readSpeed : ByteArray := prog_6_method_8_code
def yX4_readSpeed : MethodName := ⟨RX4, "readSpeed", "(LStoneThatShakes$Speeds;)Z"⟩
abbrev cX4_readCog : ByteArray := prog_6_method_9_code
def yX4_readCog : MethodName := ⟨RX4, "readCog", "(LStoneThatShakes$Cogs;)Z"⟩
abbrev cX4_readSign : ByteArray := prog_6_method_10_code
def yX4_readSign : MethodName := ⟨RX4, "readSign", "(I)Z"⟩
abbrev cX4_readSigned : ByteArray := prog_6_method_11_code
def yX4_readSigned : MethodName := ⟨RX4, "readSigned", "()Z"⟩
abbrev cX4_readNumber : ByteArray := prog_6_method_12_code
def yX4_readNumber : MethodName := ⟨RX4, "readNumber", "(II)Z"⟩
abbrev cX4_isDigitHere : ByteArray := prog_6_method_13_code
def yX4_isDigitHere : MethodName := ⟨RX4, "isDigitHere", "()Z"⟩
def RX5 : String := "StoneThatShakes$Ring"
def TX5 : u_T := fun k => match k with
  | 0 => ("StoneThatShakes$Ring", "count", "I", false)
  | 1 => ("StoneThatShakes$Ring", "plane", "[I", true)
  | 2 => ("StoneThatShakes$Ring", "x", "[I", true)
  | 3 => ("StoneThatShakes$Ring", "y", "[I", true)
  | 4 => ("StoneThatShakes$Ring", "room", "[I", true)
  | 5 => ("StoneThatShakes$Ring", "has", "[I", true)
  | 6 => ("StoneThatShakes$Ring", "deep", "[I", true)
  | 7 => ("StoneThatShakes$Ring", "poundHole", "I", false)
  | _ => ("StoneThatShakes$Ring", "poundOunces", "I", false)
def tyX5 : Nat → FieldType := fun k => match k with
  | 0 => .int
  | 1 => .array .int
  | 2 => .array .int
  | 3 => .array .int
  | 4 => .array .int
  | 5 => .array .int
  | 6 => .array .int
  | 7 => .int
  | _ => .int
theorem nmX5 : ∀ a, a < 9 → ∀ b, b < 9 → a ≠ b → (TX5 a).2.1 ≠ (TX5 b).2.1 := by decide +kernel
theorem tyX5_ok : ∀ k, k < 9 → parseFieldDescriptor (TX5 k).2.2.1 = some (tyX5 k) := by decide +kernel
abbrev cX5_init : ByteArray := prog_7_method_1_code
def yX5_init : MethodName := ⟨RX5, "<init>", "()V"⟩
abbrev cX5_isHole : ByteArray := prog_7_method_2_code
def yX5_isHole : MethodName := ⟨RX5, "isHole", "(I)Z"⟩
abbrev cX5_hasHoleOf : ByteArray := prog_7_method_3_code
def yX5_hasHoleOf : MethodName := ⟨RX5, "hasHoleOf", "(I)Z"⟩
abbrev cX5_roomLeft : ByteArray := prog_7_method_4_code
def yX5_roomLeft : MethodName := ⟨RX5, "roomLeft", "(I)I"⟩
abbrev cX5_ouncesInAll : ByteArray := prog_7_method_5_code
def yX5_ouncesInAll : MethodName := ⟨RX5, "ouncesInAll", "()I"⟩
abbrev cX5_leadOfHoles : ByteArray := prog_7_method_6_code
def yX5_leadOfHoles : MethodName := ⟨RX5, "leadOfHoles", "(II)I"⟩
abbrev cX5_leadWithPound : ByteArray := prog_7_method_7_code
def yX5_leadWithPound : MethodName := ⟨RX5, "leadWithPound", "(II)I"⟩
def RX6 : String := "StoneThatShakes$Search"
def TX6 : u_T := fun k => match k with
  | 0 => ("StoneThatShakes$Search", "holes", "I", false)
  | 1 => ("StoneThatShakes$Search", "points", "I", false)
  | 2 => ("StoneThatShakes$Search", "byGreatest", "Z", false)
  | 3 => ("StoneThatShakes$Search", "from", "[I", true)
  | 4 => ("StoneThatShakes$Search", "upTo", "[I", true)
  | 5 => ("StoneThatShakes$Search", "x", "[J", true)
  | 6 => ("StoneThatShakes$Search", "y", "[J", true)
  | 7 => ("StoneThatShakes$Search", "stepX", "[J", true)
  | 8 => ("StoneThatShakes$Search", "stepY", "[J", true)
  | 9 => ("StoneThatShakes$Search", "stepSize", "[J", true)
  | 10 => ("StoneThatShakes$Search", "put", "[I", true)
  | 11 => ("StoneThatShakes$Search", "best", "[I", true)
  | 12 => ("StoneThatShakes$Search", "ounces", "I", false)
  | 13 => ("StoneThatShakes$Search", "fewestOunces", "I", false)
  | _ => ("StoneThatShakes$Search", "leastCost", "J", false)
def tyX6 : Nat → FieldType := fun k => match k with
  | 0 => .int
  | 1 => .int
  | 2 => .boolean
  | 3 => .array .int
  | 4 => .array .int
  | 5 => .array .long
  | 6 => .array .long
  | 7 => .array .long
  | 8 => .array .long
  | 9 => .array .long
  | 10 => .array .int
  | 11 => .array .int
  | 12 => .int
  | 13 => .int
  | _ => .long
theorem nmX6 : ∀ a, a < 15 → ∀ b, b < 15 → a ≠ b → (TX6 a).2.1 ≠ (TX6 b).2.1 := by decide +kernel
theorem tyX6_ok : ∀ k, k < 15 → parseFieldDescriptor (TX6 k).2.2.1 = some (tyX6 k) := by decide +kernel
abbrev cX6_init : ByteArray := prog_8_method_1_code
def yX6_init : MethodName := ⟨RX6, "<init>", "()V"⟩
abbrev cX6_start : ByteArray := prog_8_method_2_code
def yX6_start : MethodName := ⟨RX6, "start", "(Z)V"⟩
abbrev cX6_addPoint : ByteArray := prog_8_method_3_code
def yX6_addPoint : MethodName := ⟨RX6, "addPoint", "(II)V"⟩
abbrev cX6_addHole : ByteArray := prog_8_method_4_code
def yX6_addHole : MethodName := ⟨RX6, "addHole", "(II)V"⟩
abbrev cX6_addStep : ByteArray := prog_8_method_5_code
def yX6_addStep : MethodName := ⟨RX6, "addStep", "(III)V"⟩
abbrev cX6_stepAt : ByteArray := prog_8_method_6_code
def yX6_stepAt : MethodName := ⟨RX6, "stepAt", "(II)I"⟩
abbrev cX6_leastOf : ByteArray := prog_8_method_7_code
def yX6_leastOf : MethodName := ⟨RX6, "leastOf", "(I)J"⟩
abbrev cX6_dig : ByteArray := prog_8_method_8_code
def yX6_dig : MethodName := ⟨RX6, "dig", "(II)V"⟩
abbrev cX6_digLast : ByteArray := prog_8_method_9_code
def yX6_digLast : MethodName := ⟨RX6, "digLast", "(I)V"⟩
abbrev cX6_slopeOf : ByteArray := prog_8_method_10_code
def yX6_slopeOf : MethodName := ⟨RX6, "slopeOf", "(I)J"⟩
abbrev cX6_footOf : ByteArray := prog_8_method_11_code
def yX6_footOf : MethodName := ⟨RX6, "footOf", "(JI)J"⟩
abbrev cX6_lay : ByteArray := prog_8_method_12_code
def yX6_lay : MethodName := ⟨RX6, "lay", "(II)V"⟩
abbrev cX6_costNow : ByteArray := prog_8_method_13_code
def yX6_costNow : MethodName := ⟨RX6, "costNow", "()J"⟩
abbrev cX6_offer : ByteArray := prog_8_method_14_code
def yX6_offer : MethodName := ⟨RX6, "offer", "(J)V"⟩
abbrev cX6_isPreferred : ByteArray := prog_8_method_15_code
def yX6_isPreferred : MethodName := ⟨RX6, "isPreferred", "()Z"⟩
def RX7 : String := "StoneThatShakes$Speeds"
def TX7 : u_T := fun k => match k with
  | 0 => ("StoneThatShakes$Speeds", "count", "I", false)
  | 1 => ("StoneThatShakes$Speeds", "factor", "[I", true)
  | 2 => ("StoneThatShakes$Speeds", "other", "[I", true)
  | 3 => ("StoneThatShakes$Speeds", "apart", "[Z", true)
  | 4 => ("StoneThatShakes$Speeds", "apartX", "[I", true)
  | _ => ("StoneThatShakes$Speeds", "apartY", "[I", true)
def tyX7 : Nat → FieldType := fun k => match k with
  | 0 => .int
  | 1 => .array .int
  | 2 => .array .int
  | 3 => .array .boolean
  | 4 => .array .int
  | _ => .array .int
theorem nmX7 : ∀ a, a < 6 → ∀ b, b < 6 → a ≠ b → (TX7 a).2.1 ≠ (TX7 b).2.1 := by decide +kernel
theorem tyX7_ok : ∀ k, k < 6 → parseFieldDescriptor (TX7 k).2.2.1 = some (tyX7 k) := by decide +kernel
abbrev cX7_init : ByteArray := prog_9_method_1_code
def yX7_init : MethodName := ⟨RX7, "<init>", "()V"⟩
abbrev cX7_isSpeed : ByteArray := prog_9_method_2_code
def yX7_isSpeed : MethodName := ⟨RX7, "isSpeed", "(I)Z"⟩
abbrev cX7_copyApart : ByteArray := prog_9_method_3_code
def yX7_copyApart : MethodName := ⟨RX7, "copyApart", "(LStoneThatShakes$Speeds;)V"⟩
def RX8 : String := "StoneThatShakes$Told"
def TX8 : u_T := fun k => match k with
  | 0 => ("StoneThatShakes$Told", "numbers", "[J", true)
  | _ => ("StoneThatShakes$Told", "length", "I", false)
def tyX8 : Nat → FieldType := fun k => match k with
  | 0 => .array .long
  | _ => .int
theorem nmX8 : ∀ a, a < 2 → ∀ b, b < 2 → a ≠ b → (TX8 a).2.1 ≠ (TX8 b).2.1 := by decide +kernel
theorem tyX8_ok : ∀ k, k < 2 → parseFieldDescriptor (TX8 k).2.2.1 = some (tyX8 k) := by decide +kernel
abbrev cX8_init : ByteArray := prog_10_method_1_code
def yX8_init : MethodName := ⟨RX8, "<init>", "()V"⟩
abbrev cX8_start : ByteArray := prog_10_method_2_code
def yX8_start : MethodName := ⟨RX8, "start", "()V"⟩
abbrev cX8_add : ByteArray := prog_10_method_3_code
def yX8_add : MethodName := ⟨RX8, "add", "(J)V"⟩
abbrev cX8_addFraction : ByteArray := prog_10_method_4_code
def yX8_addFraction : MethodName := ⟨RX8, "addFraction", "(JJ)V"⟩
abbrev cX8_greatestDivisor : ByteArray := prog_10_method_5_code
def yX8_greatestDivisor : MethodName := ⟨RX8, "greatestDivisor", "(JJ)J"⟩
abbrev cX8_placeOfGreatest : ByteArray := prog_10_method_6_code
def yX8_placeOfGreatest : MethodName := ⟨RX8, "placeOfGreatest", "()I"⟩
def RX9 : String := "StoneThatShakes$Trials"
def TX9 : u_T := fun k => match k with
  | 0 => ("StoneThatShakes$Trials", "count", "I", false)
  | 1 => ("StoneThatShakes$Trials", "speed", "[I", true)
  | 2 => ("StoneThatShakes$Trials", "isWhole", "[Z", true)
  | 3 => ("StoneThatShakes$Trials", "first", "[I", true)
  | 4 => ("StoneThatShakes$Trials", "second", "[I", true)
  | 5 => ("StoneThatShakes$Trials", "give", "[I", true)
  | 6 => ("StoneThatShakes$Trials", "lead", "[I", true)
  | 7 => ("StoneThatShakes$Trials", "scale", "[I", true)
  | 8 => ("StoneThatShakes$Trials", "baseX", "[I", true)
  | _ => ("StoneThatShakes$Trials", "baseY", "[I", true)
def tyX9 : Nat → FieldType := fun k => match k with
  | 0 => .int
  | 1 => .array .int
  | 2 => .array .boolean
  | 3 => .array .int
  | 4 => .array .int
  | 5 => .array .int
  | 6 => .array .int
  | 7 => .array .int
  | 8 => .array .int
  | _ => .array .int
theorem nmX9 : ∀ a, a < 10 → ∀ b, b < 10 → a ≠ b → (TX9 a).2.1 ≠ (TX9 b).2.1 := by decide +kernel
theorem tyX9_ok : ∀ k, k < 10 → parseFieldDescriptor (TX9 k).2.2.1 = some (tyX9 k) := by decide +kernel
abbrev cX9_init : ByteArray := prog_11_method_1_code
def yX9_init : MethodName := ⟨RX9, "<init>", "()V"⟩
abbrev cX9_addWhole : ByteArray := prog_11_method_2_code
def yX9_addWhole : MethodName := ⟨RX9, "addWhole", "(IIIILStoneThatShakes$Ring;)I"⟩
abbrev cX9_addMuch : ByteArray := prog_11_method_3_code
def yX9_addMuch : MethodName := ⟨RX9, "addMuch", "(IIILStoneThatShakes$Ring;)I"⟩
abbrev cX9_addTrial : ByteArray := prog_11_method_4_code
def yX9_addTrial : MethodName := ⟨RX9, "addTrial", "(IIILStoneThatShakes$Ring;)I"⟩
abbrev cX9_agrees : ByteArray := prog_11_method_5_code
def yX9_agrees : MethodName := ⟨RX9, "agrees", "(III)Z"⟩
abbrev cX9_firstAgainst : ByteArray := prog_11_method_6_code
def yX9_firstAgainst : MethodName := ⟨RX9, "firstAgainst", "(II)I"⟩
abbrev cX9_allAgainst : ByteArray := prog_11_method_7_code
def yX9_allAgainst : MethodName := ⟨RX9, "allAgainst", "(III)I"⟩
abbrev cX9_copyTrials : ByteArray := prog_11_method_8_code
def yX9_copyTrials : MethodName := ⟨RX9, "copyTrials", "(LStoneThatShakes$Trials;)V"⟩
def RX10 : String := "StoneThatShakes"
def TX10 : u_T := fun k => match k with
  | 0 => ("StoneThatShakes", "told", "LStoneThatShakes$Told;", true)
  | 1 => ("StoneThatShakes", "reader", "LStoneThatShakes$Reader;", true)
  | 2 => ("StoneThatShakes", "ring", "LStoneThatShakes$Ring;", true)
  | 3 => ("StoneThatShakes", "speeds", "LStoneThatShakes$Speeds;", true)
  | 4 => ("StoneThatShakes", "wheel", "LStoneThatShakes$Cogs;", true)
  | 5 => ("StoneThatShakes", "trials", "LStoneThatShakes$Trials;", true)
  | 6 => ("StoneThatShakes", "span", "LStoneThatShakes$Ends;", true)
  | 7 => ("StoneThatShakes", "search", "LStoneThatShakes$Search;", true)
  | 8 => ("StoneThatShakes", "kept", "[LStoneThatShakes$Kept;", true)
  | 9 => ("StoneThatShakes", "crosses", "[I", true)
  | 10 => ("StoneThatShakes", "trueMasses", "[I", true)
  | 11 => ("StoneThatShakes", "thought", "[I", true)
  | 12 => ("StoneThatShakes", "up", "[I", true)
  | 13 => ("StoneThatShakes", "low", "[I", true)
  | 14 => ("StoneThatShakes", "fits", "[I", true)
  | _ => ("StoneThatShakes", "pulls", "LStoneThatShakes$Pulls;", false)
def tyX10 : Nat → FieldType := fun k => match k with
  | 0 => .object "StoneThatShakes$Told"
  | 1 => .object "StoneThatShakes$Reader"
  | 2 => .object "StoneThatShakes$Ring"
  | 3 => .object "StoneThatShakes$Speeds"
  | 4 => .object "StoneThatShakes$Cogs"
  | 5 => .object "StoneThatShakes$Trials"
  | 6 => .object "StoneThatShakes$Ends"
  | 7 => .object "StoneThatShakes$Search"
  | 8 => .array (.object "StoneThatShakes$Kept")
  | 9 => .array .int
  | 10 => .array .int
  | 11 => .array .int
  | 12 => .array .int
  | 13 => .array .int
  | 14 => .array .int
  | _ => .object "StoneThatShakes$Pulls"
theorem nmX10 : ∀ a, a < 16 → ∀ b, b < 16 → a ≠ b → (TX10 a).2.1 ≠ (TX10 b).2.1 := by decide +kernel
theorem tyX10_ok : ∀ k, k < 16 → parseFieldDescriptor (TX10 k).2.2.1 = some (tyX10 k) := by decide +kernel
abbrev cX10_init : ByteArray := prog_1_method_1_code
def yX10_init : MethodName := ⟨RX10, "<init>", "()V"⟩
abbrev cX10_sign : ByteArray := prog_1_method_2_code
def yX10_sign : MethodName := ⟨RX10, "sign", "(I)I"⟩
abbrev cX10_end : ByteArray := prog_1_method_3_code
def yX10_end : MethodName := ⟨RX10, "end", "(I)Z"⟩
abbrev cX10_mill : ByteArray := prog_1_method_4_code
def yX10_mill : MethodName := ⟨RX10, "mill", "()I"⟩
abbrev cX10_hole : ByteArray := prog_1_method_5_code
def yX10_hole : MethodName := ⟨RX10, "hole", "(II)I"⟩
abbrev cX10_lead : ByteArray := prog_1_method_6_code
def yX10_lead : MethodName := ⟨RX10, "lead", "(II)I"⟩
abbrev cX10_deep : ByteArray := prog_1_method_7_code
def yX10_deep : MethodName := ⟨RX10, "deep", "(II)I"⟩
abbrev cX10_sheet : ByteArray := prog_1_method_8_code
def yX10_sheet : MethodName := ⟨RX10, "sheet", "(IIII)I"⟩
abbrev cX10_entryOf : ByteArray := prog_1_method_9_code
def yX10_entryOf : MethodName := ⟨RX10, "entryOf", "(II)I"⟩
abbrev cX10_cross : ByteArray := prog_1_method_10_code
def yX10_cross : MethodName := ⟨RX10, "cross", "(III)I"⟩
abbrev cX10_truly : ByteArray := prog_1_method_11_code
def yX10_truly : MethodName := ⟨RX10, "truly", "(III)Z"⟩
abbrev cX10_think : ByteArray := prog_1_method_12_code
def yX10_think : MethodName := ⟨RX10, "think", "(III)Z"⟩
abbrev cX10_setMass : ByteArray := prog_1_method_13_code
def yX10_setMass : MethodName := ⟨RX10, "setMass", "([IIII)Z"⟩
abbrev cX10_pound : ByteArray := prog_1_method_14_code
def yX10_pound : MethodName := ⟨RX10, "pound", "(II)Z"⟩
abbrev cX10_feel : ByteArray := prog_1_method_15_code
def yX10_feel : MethodName := ⟨RX10, "feel", "(II)I"⟩
abbrev cX10_hums : ByteArray := prog_1_method_16_code
def yX10_hums : MethodName := ⟨RX10, "hums", "(II)I"⟩
abbrev cX10_feltTruly : ByteArray := prog_1_method_17_code
def yX10_feltTruly : MethodName := ⟨RX10, "feltTruly", "(III)I"⟩
abbrev cX10_besides : ByteArray := prog_1_method_18_code
def yX10_besides : MethodName := ⟨RX10, "besides", "([III)I"⟩
abbrev cX10_whole : ByteArray := prog_1_method_19_code
def yX10_whole : MethodName := ⟨RX10, "whole", "(IIII)I"⟩
abbrev cX10_much : ByteArray := prog_1_method_20_code
def yX10_much : MethodName := ⟨RX10, "much", "(III)I"⟩
abbrev cX10_drop : ByteArray := prog_1_method_21_code
def yX10_drop : MethodName := ⟨RX10, "drop", "()I"⟩
abbrev cX10_which : ByteArray := prog_1_method_22_code
def yX10_which : MethodName := ⟨RX10, "which", "()I"⟩
abbrev cX10_ends : ByteArray := prog_1_method_23_code
def yX10_ends : MethodName := ⟨RX10, "ends", "()I"⟩
abbrev cX10_gatherSpan : ByteArray := prog_1_method_24_code
def yX10_gatherSpan : MethodName := ⟨RX10, "gatherSpan", "()V"⟩
abbrev cX10_judge : ByteArray := prog_1_method_25_code
def yX10_judge : MethodName := ⟨RX10, "judge", "(II)I"⟩
abbrev cX10_bars : ByteArray := prog_1_method_26_code
def yX10_bars : MethodName := ⟨RX10, "bars", "()I"⟩
abbrev cX10_next : ByteArray := prog_1_method_27_code
def yX10_next : MethodName := ⟨RX10, "next", "(II)I"⟩
abbrev cX10_enough : ByteArray := prog_1_method_28_code
def yX10_enough : MethodName := ⟨RX10, "enough", "(III)I"⟩
abbrev cX10_gatherPulls : ByteArray := prog_1_method_29_code
def yX10_gatherPulls : MethodName := ⟨RX10, "gatherPulls", "()LStoneThatShakes$Pulls;"⟩
abbrev cX10_findNarrowest : ByteArray := prog_1_method_30_code
def yX10_findNarrowest : MethodName := ⟨RX10, "findNarrowest", "(LStoneThatShakes$Pulls;II)I"⟩
abbrev cX10_feelWithHung : ByteArray := prog_1_method_31_code
def yX10_feelWithHung : MethodName := ⟨RX10, "feelWithHung", "(LStoneThatShakes$Pulls;III)V"⟩
abbrev cX10_prepareTrials : ByteArray := prog_1_method_32_code
def yX10_prepareTrials : MethodName := ⟨RX10, "prepareTrials", "()V"⟩
abbrev cX10_feltBarePull : ByteArray := prog_1_method_33_code
def yX10_feltBarePull : MethodName := ⟨RX10, "feltBarePull", "(IIII)I"⟩
abbrev cX10_man : ByteArray := prog_1_method_34_code
def yX10_man : MethodName := ⟨RX10, "man", "(III)Z"⟩
abbrev cX10_tells : ByteArray := prog_1_method_35_code
def yX10_tells : MethodName := ⟨RX10, "tells", "(II)I"⟩
abbrev cX10_men : ByteArray := prog_1_method_36_code
def yX10_men : MethodName := ⟨RX10, "men", "(IIII)I"⟩
abbrev cX10_feltByMan : ByteArray := prog_1_method_37_code
def yX10_feltByMan : MethodName := ⟨RX10, "feltByMan", "(II)J"⟩
abbrev cX10_isMan : ByteArray := prog_1_method_38_code
def yX10_isMan : MethodName := ⟨RX10, "isMan", "(I)Z"⟩
abbrev cX10_rest : ByteArray := prog_1_method_39_code
def yX10_rest : MethodName := ⟨RX10, "rest", "(I)J"⟩
abbrev cX10_unmended : ByteArray := prog_1_method_40_code
def yX10_unmended : MethodName := ⟨RX10, "unmended", "(II)I"⟩
abbrev cX10_best : ByteArray := prog_1_method_41_code
def yX10_best : MethodName := ⟨RX10, "best", "(II)J"⟩
abbrev cX10_off : ByteArray := prog_1_method_42_code
def yX10_off : MethodName := ⟨RX10, "off", "(II)J"⟩
abbrev cX10_instead : ByteArray := prog_1_method_43_code
def yX10_instead : MethodName := ⟨RX10, "instead", "(II)J"⟩
abbrev cX10_fewest : ByteArray := prog_1_method_44_code
def yX10_fewest : MethodName := ⟨RX10, "fewest", "(IJ)I"⟩
abbrev cX10_searchPutting : ByteArray := prog_1_method_45_code
def yX10_searchPutting : MethodName := ⟨RX10, "searchPutting", "(II)J"⟩
abbrev cX10_startRestSearch : ByteArray := prog_1_method_46_code
def yX10_startRestSearch : MethodName := ⟨RX10, "startRestSearch", "(I)V"⟩
abbrev cX10_tellSearched : ByteArray := prog_1_method_47_code
def yX10_tellSearched : MethodName := ⟨RX10, "tellSearched", "()V"⟩
abbrev cX10_all : ByteArray := prog_1_method_48_code
def yX10_all : MethodName := ⟨RX10, "all", "(II)J"⟩
abbrev cX10_gatherFitting : ByteArray := prog_1_method_49_code
def yX10_gatherFitting : MethodName := ⟨RX10, "gatherFitting", "(II)I"⟩
abbrev cX10_isFewer : ByteArray := prog_1_method_50_code
def yX10_isFewer : MethodName := ⟨RX10, "isFewer", "(II)Z"⟩
abbrev cX10_ounce : ByteArray := prog_1_method_51_code
def yX10_ounce : MethodName := ⟨RX10, "ounce", "(II)I"⟩
abbrev cX10_settle : ByteArray := prog_1_method_52_code
def yX10_settle : MethodName := ⟨RX10, "settle", "(I)I"⟩
abbrev cX10_settleOunce : ByteArray := prog_1_method_53_code
def yX10_settleOunce : MethodName := ⟨RX10, "settleOunce", "(I)Z"⟩
abbrev cX10_bestOunce : ByteArray := prog_1_method_54_code
def yX10_bestOunce : MethodName := ⟨RX10, "bestOunce", "(II)I"⟩
abbrev cX10_changeByOunce : ByteArray := prog_1_method_55_code
def yX10_changeByOunce : MethodName := ⟨RX10, "changeByOunce", "(II)J"⟩
abbrev cX10_both : ByteArray := prog_1_method_56_code
def yX10_both : MethodName := ⟨RX10, "both", "(IIIII)I"⟩
abbrev cX10_partingOfCrosses : ByteArray := prog_1_method_57_code
def yX10_partingOfCrosses : MethodName := ⟨RX10, "partingOfCrosses", "()I"⟩
abbrev cX10_tellPull : ByteArray := prog_1_method_58_code
def yX10_tellPull : MethodName := ⟨RX10, "tellPull", "(IIIII)V"⟩
abbrev cX10_two : ByteArray := prog_1_method_59_code
def yX10_two : MethodName := ⟨RX10, "two", "(I)J"⟩
abbrev cX10_feltThought : ByteArray := prog_1_method_60_code
def yX10_feltThought : MethodName := ⟨RX10, "feltThought", "(III)I"⟩
abbrev cX10_at : ByteArray := prog_1_method_61_code
def yX10_at : MethodName := ⟨RX10, "at", "(III)Z"⟩
abbrev cX10_worst : ByteArray := prog_1_method_62_code
def yX10_worst : MethodName := ⟨RX10, "worst", "()J"⟩
abbrev cX10_floor : ByteArray := prog_1_method_63_code
def yX10_floor : MethodName := ⟨RX10, "floor", "(IJIJ)I"⟩
abbrev cX10_whose : ByteArray := prog_1_method_64_code
def yX10_whose : MethodName := ⟨RX10, "whose", "(IIIJJJ)I"⟩
abbrev cX10_partingOfSpeeds : ByteArray := prog_1_method_65_code
def yX10_partingOfSpeeds : MethodName := ⟨RX10, "partingOfSpeeds", "(III)J"⟩
abbrev cX10_tellThree : ByteArray := prog_1_method_66_code
def yX10_tellThree : MethodName := ⟨RX10, "tellThree", "(IIIJJJ)V"⟩
abbrev cX10_isCode : ByteArray := prog_1_method_67_code
def yX10_isCode : MethodName := ⟨RX10, "isCode", "(J)Z"⟩
abbrev cX10_decoded : ByteArray := prog_1_method_68_code
def yX10_decoded : MethodName := ⟨RX10, "decoded", "(JI)J"⟩
abbrev cX10_part : ByteArray := prog_1_method_69_code
def yX10_part : MethodName := ⟨RX10, "part", "(I)I"⟩
abbrev cX10_buckets : ByteArray := prog_1_method_70_code
def yX10_buckets : MethodName := ⟨RX10, "buckets", "(IJ)I"⟩
abbrev cX10_cogs : ByteArray := prog_1_method_71_code
def yX10_cogs : MethodName := ⟨RX10, "cogs", "()J"⟩
abbrev cX10_order : ByteArray := prog_1_method_72_code
def yX10_order : MethodName := ⟨RX10, "order", "()J"⟩
abbrev cX10_round : ByteArray := prog_1_method_73_code
def yX10_round : MethodName := ⟨RX10, "round", "()I"⟩
abbrev cX10_cogsHavePlaces : ByteArray := prog_1_method_74_code
def yX10_cogsHavePlaces : MethodName := ⟨RX10, "cogsHavePlaces", "()Z"⟩
abbrev cX10_keep : ByteArray := prog_1_method_75_code
def yX10_keep : MethodName := ⟨RX10, "keep", "(I)Z"⟩
abbrev cX10_again : ByteArray := prog_1_method_76_code
def yX10_again : MethodName := ⟨RX10, "again", "(I)Z"⟩
abbrev cX10_count : ByteArray := prog_1_method_77_code
def yX10_count : MethodName := ⟨RX10, "count", "(I)I"⟩
abbrev cX10_row : ByteArray := prog_1_method_78_code
def yX10_row : MethodName := ⟨RX10, "row", "(I)J"⟩
abbrev cX10_isOneOfTwo : ByteArray := prog_1_method_79_code
def yX10_isOneOfTwo : MethodName := ⟨RX10, "isOneOfTwo", "(I)Z"⟩
abbrev cX10_isWithin : ByteArray := prog_1_method_80_code
def yX10_isWithin : MethodName := ⟨RX10, "isWithin", "(II)Z"⟩
abbrev cX10_sizeOf : ByteArray := prog_1_method_81_code
def yX10_sizeOf : MethodName := ⟨RX10, "sizeOf", "(JJ)J"⟩
abbrev cX10_copy : ByteArray := prog_1_method_82_code
def yX10_copy : MethodName := ⟨RX10, "copy", "([I[I)V"⟩
def RX11 : String := "StoneThatShakesModel"
def TX11 : u_T := fun k => match k with
  | 0 => ("StoneThatShakesModel", "thrown", "I", false)
  | 1 => ("StoneThatShakesModel", "rows", "I", false)
  | 2 => ("StoneThatShakesModel", "row", "[J", true)
  | 3 => ("StoneThatShakesModel", "holes", "I", false)
  | 4 => ("StoneThatShakesModel", "planeOf", "[I", true)
  | 5 => ("StoneThatShakesModel", "holeX", "[I", true)
  | 6 => ("StoneThatShakesModel", "holeY", "[I", true)
  | 7 => ("StoneThatShakesModel", "room", "[I", true)
  | 8 => ("StoneThatShakesModel", "ounces", "[I", true)
  | 9 => ("StoneThatShakesModel", "deepOf", "[I", true)
  | 10 => ("StoneThatShakesModel", "speeds", "I", false)
  | 11 => ("StoneThatShakesModel", "factor", "[I", true)
  | 12 => ("StoneThatShakesModel", "otherOf", "[I", true)
  | 13 => ("StoneThatShakesModel", "isApart", "[Z", true)
  | 14 => ("StoneThatShakesModel", "apartX", "[I", true)
  | 15 => ("StoneThatShakesModel", "apartY", "[I", true)
  | 16 => ("StoneThatShakesModel", "cogMany", "I", false)
  | 17 => ("StoneThatShakesModel", "weight", "[I", true)
  | 18 => ("StoneThatShakesModel", "tape", "[I", true)
  | 19 => ("StoneThatShakesModel", "taped", "I", false)
  | 20 => ("StoneThatShakesModel", "at", "I", false)
  | 21 => ("StoneThatShakesModel", "to", "I", false)
  | 22 => ("StoneThatShakesModel", "isFine", "Z", false)
  | 23 => ("StoneThatShakesModel", "crossOf", "[I", true)
  | 24 => ("StoneThatShakesModel", "trueX", "[I", true)
  | 25 => ("StoneThatShakesModel", "trueY", "[I", true)
  | 26 => ("StoneThatShakesModel", "thoughtX", "[I", true)
  | 27 => ("StoneThatShakesModel", "thoughtY", "[I", true)
  | 28 => ("StoneThatShakesModel", "poundHole", "I", false)
  | 29 => ("StoneThatShakesModel", "poundOunces", "I", false)
  | 30 => ("StoneThatShakesModel", "lead", "[I", true)
  | 31 => ("StoneThatShakesModel", "trials", "I", false)
  | 32 => ("StoneThatShakesModel", "trialSpeed", "[I", true)
  | 33 => ("StoneThatShakesModel", "isWhole", "[Z", true)
  | 34 => ("StoneThatShakesModel", "trialX", "[I", true)
  | 35 => ("StoneThatShakesModel", "trialY", "[I", true)
  | 36 => ("StoneThatShakesModel", "trialGive", "[I", true)
  | 37 => ("StoneThatShakesModel", "trialLead", "[I", true)
  | 38 => ("StoneThatShakesModel", "baseX", "J", false)
  | 39 => ("StoneThatShakesModel", "baseY", "J", false)
  | 40 => ("StoneThatShakesModel", "timesPull", "J", false)
  | 41 => ("StoneThatShakesModel", "trialBaseX", "[J", true)
  | 42 => ("StoneThatShakesModel", "trialBaseY", "[J", true)
  | 43 => ("StoneThatShakesModel", "trialTimes", "[J", true)
  | 44 => ("StoneThatShakesModel", "pulls", "[I", true)
  | 45 => ("StoneThatShakesModel", "pullMany", "I", false)
  | 46 => ("StoneThatShakesModel", "sizes", "[J", true)
  | 47 => ("StoneThatShakesModel", "merged", "[J", true)
  | 48 => ("StoneThatShakesModel", "nextHole", "I", false)
  | 49 => ("StoneThatShakesModel", "nextOunces", "I", false)
  | 50 => ("StoneThatShakesModel", "leftBehind", "[I", true)
  | 51 => ("StoneThatShakesModel", "manUp", "[I", true)
  | 52 => ("StoneThatShakesModel", "manLow", "[I", true)
  | 53 => ("StoneThatShakesModel", "asked", "[I", true)
  | 54 => ("StoneThatShakesModel", "lowOf", "[I", true)
  | 55 => ("StoneThatShakesModel", "highOf", "[I", true)
  | 56 => ("StoneThatShakesModel", "tried", "[I", true)
  | 57 => ("StoneThatShakesModel", "found", "[I", true)
  | 58 => ("StoneThatShakesModel", "askedMany", "I", false)
  | 59 => ("StoneThatShakesModel", "mostHoles", "I", false)
  | 60 => ("StoneThatShakesModel", "isFound", "Z", false)
  | 61 => ("StoneThatShakesModel", "foundRest", "J", false)
  | 62 => ("StoneThatShakesModel", "foundOunces", "I", false)
  | 63 => ("StoneThatShakesModel", "question", "I", false)
  | 64 => ("StoneThatShakesModel", "questionSpeed", "I", false)
  | 65 => ("StoneThatShakesModel", "ounceRest", "J", false)
  | 66 => ("StoneThatShakesModel", "parts", "[J", true)
  | 67 => ("StoneThatShakesModel", "filled", "[I", true)
  | 68 => ("StoneThatShakesModel", "cogAt", "[I", true)
  | 69 => ("StoneThatShakesModel", "cogBest", "[I", true)
  | 70 => ("StoneThatShakesModel", "isOrdered", "Z", false)
  | 71 => ("StoneThatShakesModel", "orderSize", "J", false)
  | 72 => ("StoneThatShakesModel", "isKept", "[Z", true)
  | 73 => ("StoneThatShakesModel", "kept", "[I", true)
  | _ => ("StoneThatShakesModel", "keptAt", "I", false)
def tyX11 : Nat → FieldType := fun k => match k with
  | 0 => .int
  | 1 => .int
  | 2 => .array .long
  | 3 => .int
  | 4 => .array .int
  | 5 => .array .int
  | 6 => .array .int
  | 7 => .array .int
  | 8 => .array .int
  | 9 => .array .int
  | 10 => .int
  | 11 => .array .int
  | 12 => .array .int
  | 13 => .array .boolean
  | 14 => .array .int
  | 15 => .array .int
  | 16 => .int
  | 17 => .array .int
  | 18 => .array .int
  | 19 => .int
  | 20 => .int
  | 21 => .int
  | 22 => .boolean
  | 23 => .array .int
  | 24 => .array .int
  | 25 => .array .int
  | 26 => .array .int
  | 27 => .array .int
  | 28 => .int
  | 29 => .int
  | 30 => .array .int
  | 31 => .int
  | 32 => .array .int
  | 33 => .array .boolean
  | 34 => .array .int
  | 35 => .array .int
  | 36 => .array .int
  | 37 => .array .int
  | 38 => .long
  | 39 => .long
  | 40 => .long
  | 41 => .array .long
  | 42 => .array .long
  | 43 => .array .long
  | 44 => .array .int
  | 45 => .int
  | 46 => .array .long
  | 47 => .array .long
  | 48 => .int
  | 49 => .int
  | 50 => .array .int
  | 51 => .array .int
  | 52 => .array .int
  | 53 => .array .int
  | 54 => .array .int
  | 55 => .array .int
  | 56 => .array .int
  | 57 => .array .int
  | 58 => .int
  | 59 => .int
  | 60 => .boolean
  | 61 => .long
  | 62 => .int
  | 63 => .int
  | 64 => .int
  | 65 => .long
  | 66 => .array .long
  | 67 => .array .int
  | 68 => .array .int
  | 69 => .array .int
  | 70 => .boolean
  | 71 => .long
  | 72 => .array .boolean
  | 73 => .array .int
  | _ => .int
theorem nmX11 : ∀ a, a < 75 → ∀ b, b < 75 → a ≠ b → (TX11 a).2.1 ≠ (TX11 b).2.1 := by decide +kernel
theorem tyX11_ok : ∀ k, k < 75 → parseFieldDescriptor (TX11 k).2.2.1 = some (tyX11 k) := by decide +kernel
abbrev cX11_in : ByteArray := prog_13_method_2_code
def yX11_in : MethodName := ⟨RX11, "in", "(JJJ)Z"⟩
abbrev cX11_has : ByteArray := prog_13_method_3_code
def yX11_has : MethodName := ⟨RX11, "has", "(II)Z"⟩
abbrev cX11_flag : ByteArray := prog_13_method_4_code
def yX11_flag : MethodName := ⟨RX11, "flag", "(Z)I"⟩
abbrev cX11_size : ByteArray := prog_13_method_5_code
def yX11_size : MethodName := ⟨RX11, "size", "(JJ)J"⟩
abbrev cX11_enters : ByteArray := prog_13_method_6_code
def yX11_enters : MethodName := ⟨RX11, "enters", "(J)V"⟩
abbrev cX11_common : ByteArray := prog_13_method_7_code
def yX11_common : MethodName := ⟨RX11, "common", "(JJ)J"⟩
abbrev cX11_entersFraction : ByteArray := prog_13_method_8_code
def yX11_entersFraction : MethodName := ⟨RX11, "entersFraction", "(JJ)V"⟩
abbrev cX11_sign : ByteArray := prog_13_method_9_code
def yX11_sign : MethodName := ⟨RX11, "sign", "(I)I"⟩
abbrev cX11_end : ByteArray := prog_13_method_10_code
def yX11_end : MethodName := ⟨RX11, "end", "(I)Z"⟩
abbrev cX11_takes : ByteArray := prog_13_method_11_code
def yX11_takes : MethodName := ⟨RX11, "takes", "(I)Z"⟩
abbrev cX11_isDigit : ByteArray := prog_13_method_12_code
def yX11_isDigit : MethodName := ⟨RX11, "isDigit", "()Z"⟩
abbrev cX11_number : ByteArray := prog_13_method_13_code
def yX11_number : MethodName := ⟨RX11, "number", "(II)I"⟩
abbrev cX11_signed : ByteArray := prog_13_method_14_code
def yX11_signed : MethodName := ⟨RX11, "signed", "()I"⟩
abbrev cX11_readsLine : ByteArray := prog_13_method_15_code
def yX11_readsLine : MethodName := ⟨RX11, "readsLine", "()Z"⟩
abbrev cX11_mill : ByteArray := prog_13_method_16_code
def yX11_mill : MethodName := ⟨RX11, "mill", "()I"⟩
abbrev cX11_isHole : ByteArray := prog_13_method_17_code
def yX11_isHole : MethodName := ⟨RX11, "isHole", "(I)Z"⟩
abbrev cX11_isSpeed : ByteArray := prog_13_method_18_code
def yX11_isSpeed : MethodName := ⟨RX11, "isSpeed", "(I)Z"⟩
abbrev cX11_isPlane : ByteArray := prog_13_method_19_code
def yX11_isPlane : MethodName := ⟨RX11, "isPlane", "(I)Z"⟩
abbrev cX11_hole : ByteArray := prog_13_method_20_code
def yX11_hole : MethodName := ⟨RX11, "hole", "(II)I"⟩
abbrev cX11_lead : ByteArray := prog_13_method_21_code
def yX11_lead : MethodName := ⟨RX11, "lead", "(II)I"⟩
abbrev cX11_deep : ByteArray := prog_13_method_22_code
def yX11_deep : MethodName := ⟨RX11, "deep", "(II)I"⟩
abbrev cX11_ouncesAll : ByteArray := prog_13_method_23_code
def yX11_ouncesAll : MethodName := ⟨RX11, "ouncesAll", "()I"⟩
abbrev cX11_sheet : ByteArray := prog_13_method_24_code
def yX11_sheet : MethodName := ⟨RX11, "sheet", "(IIII)I"⟩
abbrev cX11_cross : ByteArray := prog_13_method_25_code
def yX11_cross : MethodName := ⟨RX11, "cross", "(III)I"⟩
abbrev cX11_isMass : ByteArray := prog_13_method_26_code
def yX11_isMass : MethodName := ⟨RX11, "isMass", "(III)Z"⟩
abbrev cX11_truly : ByteArray := prog_13_method_27_code
def yX11_truly : MethodName := ⟨RX11, "truly", "(III)Z"⟩
abbrev cX11_think : ByteArray := prog_13_method_28_code
def yX11_think : MethodName := ⟨RX11, "think", "(III)Z"⟩
abbrev cX11_pound : ByteArray := prog_13_method_29_code
def yX11_pound : MethodName := ⟨RX11, "pound", "(II)Z"⟩
abbrev cX11_leads : ByteArray := prog_13_method_30_code
def yX11_leads : MethodName := ⟨RX11, "leads", "(II)V"⟩
abbrev cX11_leadsNow : ByteArray := prog_13_method_31_code
def yX11_leadsNow : MethodName := ⟨RX11, "leadsNow", "()V"⟩
abbrev cX11_felt : ByteArray := prog_13_method_32_code
def yX11_felt : MethodName := ⟨RX11, "felt", "(II[II)J"⟩
abbrev cX11_feel : ByteArray := prog_13_method_33_code
def yX11_feel : MethodName := ⟨RX11, "feel", "(II)I"⟩
abbrev cX11_hums : ByteArray := prog_13_method_34_code
def yX11_hums : MethodName := ⟨RX11, "hums", "(II)I"⟩
abbrev cX11_lays : ByteArray := prog_13_method_35_code
def yX11_lays : MethodName := ⟨RX11, "lays", "(IZIII)I"⟩
abbrev cX11_isFar : ByteArray := prog_13_method_36_code
def yX11_isFar : MethodName := ⟨RX11, "isFar", "(I)Z"⟩
abbrev cX11_whole : ByteArray := prog_13_method_37_code
def yX11_whole : MethodName := ⟨RX11, "whole", "(IIII)I"⟩
abbrev cX11_much : ByteArray := prog_13_method_38_code
def yX11_much : MethodName := ⟨RX11, "much", "(III)I"⟩
abbrev cX11_drop : ByteArray := prog_13_method_39_code
def yX11_drop : MethodName := ⟨RX11, "drop", "()I"⟩
abbrev cX11_bases : ByteArray := prog_13_method_40_code
def yX11_bases : MethodName := ⟨RX11, "bases", "(I)V"⟩
abbrev cX11_prepares : ByteArray := prog_13_method_41_code
def yX11_prepares : MethodName := ⟨RX11, "prepares", "()V"⟩
abbrev cX11_agrees : ByteArray := prog_13_method_42_code
def yX11_agrees : MethodName := ⟨RX11, "agrees", "(III)Z"⟩
abbrev cX11_xAt : ByteArray := prog_13_method_43_code
def yX11_xAt : MethodName := ⟨RX11, "xAt", "(I)I"⟩
abbrev cX11_yAt : ByteArray := prog_13_method_44_code
def yX11_yAt : MethodName := ⟨RX11, "yAt", "(I)I"⟩
abbrev cX11_agreesAll : ByteArray := prog_13_method_45_code
def yX11_agreesAll : MethodName := ⟨RX11, "agreesAll", "(III)Z"⟩
abbrev cX11_finds : ByteArray := prog_13_method_46_code
def yX11_finds : MethodName := ⟨RX11, "finds", "()V"⟩
abbrev cX11_which : ByteArray := prog_13_method_47_code
def yX11_which : MethodName := ⟨RX11, "which", "()I"⟩
abbrev cX11_ends : ByteArray := prog_13_method_48_code
def yX11_ends : MethodName := ⟨RX11, "ends", "()I"⟩
abbrev cX11_isPull : ByteArray := prog_13_method_49_code
def yX11_isPull : MethodName := ⟨RX11, "isPull", "(II)Z"⟩
abbrev cX11_judge : ByteArray := prog_13_method_50_code
def yX11_judge : MethodName := ⟨RX11, "judge", "(II)I"⟩
abbrev cX11_some : ByteArray := prog_13_method_51_code
def yX11_some : MethodName := ⟨RX11, "some", "(I)Z"⟩
abbrev cX11_bars : ByteArray := prog_13_method_52_code
def yX11_bars : MethodName := ⟨RX11, "bars", "()I"⟩
abbrev cX11_sorts : ByteArray := prog_13_method_53_code
def yX11_sorts : MethodName := ⟨RX11, "sorts", "(II)V"⟩
abbrev cX11_sizeOf : ByteArray := prog_13_method_54_code
def yX11_sizeOf : MethodName := ⟨RX11, "sizeOf", "(I)J"⟩
abbrev cX11_leaves : ByteArray := prog_13_method_55_code
def yX11_leaves : MethodName := ⟨RX11, "leaves", "(III)I"⟩
abbrev cX11_narrows : ByteArray := prog_13_method_56_code
def yX11_narrows : MethodName := ⟨RX11, "narrows", "(II)I"⟩
abbrev cX11_next : ByteArray := prog_13_method_57_code
def yX11_next : MethodName := ⟨RX11, "next", "(II)I"⟩
abbrev cX11_isMended : ByteArray := prog_13_method_58_code
def yX11_isMended : MethodName := ⟨RX11, "isMended", "(I)Z"⟩
abbrev cX11_keepsLike : ByteArray := prog_13_method_59_code
def yX11_keepsLike : MethodName := ⟨RX11, "keepsLike", "(II)V"⟩
abbrev cX11_enough : ByteArray := prog_13_method_60_code
def yX11_enough : MethodName := ⟨RX11, "enough", "(III)I"⟩
abbrev cX11_isMan : ByteArray := prog_13_method_61_code
def yX11_isMan : MethodName := ⟨RX11, "isMan", "(I)Z"⟩
abbrev cX11_man : ByteArray := prog_13_method_62_code
def yX11_man : MethodName := ⟨RX11, "man", "(III)Z"⟩
abbrev cX11_told : ByteArray := prog_13_method_63_code
def yX11_told : MethodName := ⟨RX11, "told", "(III)J"⟩
abbrev cX11_tells : ByteArray := prog_13_method_64_code
def yX11_tells : MethodName := ⟨RX11, "tells", "(II)I"⟩
abbrev cX11_men : ByteArray := prog_13_method_65_code
def yX11_men : MethodName := ⟨RX11, "men", "(IIII)I"⟩
abbrev cX11_restOf : ByteArray := prog_13_method_66_code
def yX11_restOf : MethodName := ⟨RX11, "restOf", "(I)J"⟩
abbrev cX11_asks : ByteArray := prog_13_method_67_code
def yX11_asks : MethodName := ⟨RX11, "asks", "()J"⟩
abbrev cX11_bothBearings : ByteArray := prog_13_method_68_code
def yX11_bothBearings : MethodName := ⟨RX11, "bothBearings", "(I)J"⟩
abbrev cX11_goes : ByteArray := prog_13_method_69_code
def yX11_goes : MethodName := ⟨RX11, "goes", "(III)V"⟩
abbrev cX11_mends : ByteArray := prog_13_method_70_code
def yX11_mends : MethodName := ⟨RX11, "mends", "(IIZZ)V"⟩
abbrev cX11_entersFound : ByteArray := prog_13_method_71_code
def yX11_entersFound : MethodName := ⟨RX11, "entersFound", "()V"⟩
abbrev cX11_rest : ByteArray := prog_13_method_72_code
def yX11_rest : MethodName := ⟨RX11, "rest", "(I)J"⟩
abbrev cX11_mended : ByteArray := prog_13_method_73_code
def yX11_mended : MethodName := ⟨RX11, "mended", "(IIZZ)J"⟩
abbrev cX11_best : ByteArray := prog_13_method_74_code
def yX11_best : MethodName := ⟨RX11, "best", "(II)J"⟩
abbrev cX11_off : ByteArray := prog_13_method_75_code
def yX11_off : MethodName := ⟨RX11, "off", "(II)J"⟩
abbrev cX11_instead : ByteArray := prog_13_method_76_code
def yX11_instead : MethodName := ⟨RX11, "instead", "(II)J"⟩
abbrev cX11_fewest : ByteArray := prog_13_method_77_code
def yX11_fewest : MethodName := ⟨RX11, "fewest", "(IJ)I"⟩
abbrev cX11_all : ByteArray := prog_13_method_78_code
def yX11_all : MethodName := ⟨RX11, "all", "(II)J"⟩
abbrev cX11_ounceOf : ByteArray := prog_13_method_79_code
def yX11_ounceOf : MethodName := ⟨RX11, "ounceOf", "(II)I"⟩
abbrev cX11_ounce : ByteArray := prog_13_method_80_code
def yX11_ounce : MethodName := ⟨RX11, "ounce", "(II)I"⟩
abbrev cX11_settle : ByteArray := prog_13_method_81_code
def yX11_settle : MethodName := ⟨RX11, "settle", "(I)I"⟩
abbrev cX11_both : ByteArray := prog_13_method_82_code
def yX11_both : MethodName := ⟨RX11, "both", "(IIIII)I"⟩
abbrev cX11_two : ByteArray := prog_13_method_83_code
def yX11_two : MethodName := ⟨RX11, "two", "(I)J"⟩
abbrev cX11_at : ByteArray := prog_13_method_84_code
def yX11_at : MethodName := ⟨RX11, "at", "(III)Z"⟩
abbrev cX11_worst : ByteArray := prog_13_method_85_code
def yX11_worst : MethodName := ⟨RX11, "worst", "()J"⟩
abbrev cX11_isPoint : ByteArray := prog_13_method_86_code
def yX11_isPoint : MethodName := ⟨RX11, "isPoint", "(J)Z"⟩
abbrev cX11_pointAt : ByteArray := prog_13_method_87_code
def yX11_pointAt : MethodName := ⟨RX11, "pointAt", "(JI)J"⟩
abbrev cX11_floor : ByteArray := prog_13_method_88_code
def yX11_floor : MethodName := ⟨RX11, "floor", "(IJIJ)I"⟩
abbrev cX11_three : ByteArray := prog_13_method_89_code
def yX11_three : MethodName := ⟨RX11, "three", "([J)J"⟩
abbrev cX11_laysOut : ByteArray := prog_13_method_90_code
def yX11_laysOut : MethodName := ⟨RX11, "laysOut", "(IIIIJJJ)V"⟩
abbrev cX11_whose : ByteArray := prog_13_method_91_code
def yX11_whose : MethodName := ⟨RX11, "whose", "(IIIJJJ)I"⟩
abbrev cX11_part : ByteArray := prog_13_method_92_code
def yX11_part : MethodName := ⟨RX11, "part", "(I)I"⟩
abbrev cX11_buckets : ByteArray := prog_13_method_93_code
def yX11_buckets : MethodName := ⟨RX11, "buckets", "(IJ)I"⟩
abbrev cX11_areCogs : ByteArray := prog_13_method_94_code
def yX11_areCogs : MethodName := ⟨RX11, "areCogs", "()Z"⟩
abbrev cX11_cogSize : ByteArray := prog_13_method_95_code
def yX11_cogSize : MethodName := ⟨RX11, "cogSize", "()J"⟩
abbrev cX11_asTold : ByteArray := prog_13_method_96_code
def yX11_asTold : MethodName := ⟨RX11, "asTold", "()V"⟩
abbrev cX11_cogs : ByteArray := prog_13_method_97_code
def yX11_cogs : MethodName := ⟨RX11, "cogs", "()J"⟩
abbrev cX11_orders : ByteArray := prog_13_method_98_code
def yX11_orders : MethodName := ⟨RX11, "orders", "(II)V"⟩
abbrev cX11_order : ByteArray := prog_13_method_99_code
def yX11_order : MethodName := ⟨RX11, "order", "()J"⟩
abbrev cX11_exchanges : ByteArray := prog_13_method_100_code
def yX11_exchanges : MethodName := ⟨RX11, "exchanges", "(II)V"⟩
abbrev cX11_round : ByteArray := prog_13_method_101_code
def yX11_round : MethodName := ⟨RX11, "round", "()I"⟩
abbrev cX11_lays_ : ByteArray := prog_13_method_102_code
def yX11_lays_ : MethodName := ⟨RX11, "lays", "(I)V"⟩
abbrev cX11_takesKept : ByteArray := prog_13_method_103_code
def yX11_takesKept : MethodName := ⟨RX11, "takesKept", "()I"⟩
abbrev cX11_keep : ByteArray := prog_13_method_104_code
def yX11_keep : MethodName := ⟨RX11, "keep", "(I)Z"⟩
abbrev cX11_again : ByteArray := prog_13_method_105_code
def yX11_again : MethodName := ⟨RX11, "again", "(I)Z"⟩
abbrev cX11_count : ByteArray := prog_13_method_106_code
def yX11_count : MethodName := ⟨RX11, "count", "(I)I"⟩
abbrev cX11_init : ByteArray := prog_13_method_107_code
def yX11_init : MethodName := ⟨RX11, "<init>", "()V"⟩
abbrev cX11_row : ByteArray := prog_13_method_108_code
def yX11_row : MethodName := ⟨RX11, "row", "(I)J"⟩
def RJx145de : String := "java/io/Serializable"
def RJxb160c : String := "java/lang/Comparable"
def RJ6 : String := "java/lang/Integer"
abbrev cJ6_bitCount_0f7a4 : ByteArray := prog_17_method_49_code
def yJ6_bitCount_0f7a4 : MethodName := ⟨RJ6, "bitCount", "(I)I"⟩
def RJ13 : String := "java/lang/Long"
abbrev cJ13_compare_74951 : ByteArray := prog_18_method_42_code
def yJ13_compare_74951 : MethodName := ⟨RJ13, "compare", "(JJ)I"⟩
abbrev cJ13_compareUnsigned_74951 : ByteArray := prog_18_method_43_code
def yJ13_compareUnsigned_74951 : MethodName := ⟨RJ13, "compareUnsigned", "(JJ)I"⟩
def RJ9 : String := "java/lang/Math"
abbrev cJ9_floorDiv_f86c9 : ByteArray := prog_19_method_49_code
def yJ9_floorDiv_f86c9 : MethodName := ⟨RJ9, "floorDiv", "(JJ)J"⟩
abbrev cJ9_floorMod_f86c9 : ByteArray := prog_19_method_52_code
def yJ9_floorMod_f86c9 : MethodName := ⟨RJ9, "floorMod", "(JJ)J"⟩
abbrev cJ9_abs_0f7a4 : ByteArray := prog_19_method_59_code
def yJ9_abs_0f7a4 : MethodName := ⟨RJ9, "abs", "(I)I"⟩
abbrev cJ9_abs_067f4 : ByteArray := prog_19_method_61_code
def yJ9_abs_067f4 : MethodName := ⟨RJ9, "abs", "(J)J"⟩
abbrev cJ9_max_7cf53 : ByteArray := prog_19_method_65_code
def yJ9_max_7cf53 : MethodName := ⟨RJ9, "max", "(II)I"⟩
abbrev cJ9_max_f86c9 : ByteArray := prog_19_method_66_code
def yJ9_max_f86c9 : MethodName := ⟨RJ9, "max", "(JJ)J"⟩
abbrev cJ9_min_7cf53 : ByteArray := prog_19_method_69_code
def yJ9_min_7cf53 : MethodName := ⟨RJ9, "min", "(II)I"⟩
abbrev cJ9_min_f86c9 : ByteArray := prog_19_method_70_code
def yJ9_min_f86c9 : MethodName := ⟨RJ9, "min", "(JJ)J"⟩
def RJxd2413 : String := "java/lang/Number"
def RJ0 : String := "java/lang/String"
def RJxfd54e : String := "java/lang/constant/Constable"
def RJx3cf43 : String := "java/lang/constant/ConstantDesc"
abbrev vwCl : List vw_C := [(RX0, TX0, 7), (RX1, TX1, 9), (RX2, TX2, 7), (RX3, TX3, 9), (RX4, TX4, 8), (RX5, TX5, 9), (RX6, TX6, 15), (RX7, TX7, 6), (RX8, TX8, 2), (RX9, TX9, 10), (RX10, TX10, 16), (RX11, TX11, 75)]
end
section
/-! MY OWN LAYER over the kit's rows: one judgement Z whose state is data (place, locals, stack, world), a runner of straight blocks, and contracts Ct. -/
abbrev KG : Type := va_G × (ClassId × ClassId × ClassId × ClassId)
abbrev cyI (G : KG) : ClassId := G.2.1
abbrev cyJ (G : KG) : ClassId := G.2.2.1
abbrev cyZ (G : KG) : ClassId := G.2.2.2.1
abbrev cyO (G : KG) : ClassId := G.2.2.2.2
abbrev TYS (G : KG) : List (ClassId × FieldType) := [(cyI G, .int), (cyJ G, .long), (cyZ G, .boolean), (cyO G, .object "StoneThatShakes$Kept")]
abbrev aI (G : KG) (n : Nat) (f : Nat → Int32) : va_E := .inl (cyI G, n, .inl f)
abbrev aJ (G : KG) (n : Nat) (f : Nat → Int64) : va_E := .inl (cyJ G, n, .inr (.inl f))
abbrev aZ (G : KG) (n : Nat) (f : Nat → Int32) : va_E := .inl (cyZ G, n, .inl f)
abbrev aO (G : KG) (n : Nat) (f : Nat → Option Nat) : va_E := .inl (cyO G, n, .inr (.inr (.inr (.inr f))))
abbrev ob (ci : Nat) (fs : List Value) : va_E := .inr (ci, fs)
def BIG : List Cond := lw_tbl.filter goodWord
theorem big_in {w : Cond} (i : Nat) (h : lw_tbl[i]? = some w) (g : goodWord w = true) : w ∈ BIG := List.mem_filter.mpr ⟨List.mem_of_getElem? h, g⟩
theorem big_tbl {w : Cond} (h : w ∈ BIG) : w ∈ lw_tbl := (List.mem_filter.mp h).1
theorem big_good {w : Cond} (h : w ∈ BIG) : (w.onTables && w.keeps) = true ∨ ∃ ty, w = .arrayClass ty := good_of_word (List.mem_filter.mp h).2
def wsOf (y : MethodName) (cc : ByteArray) (n : Nat) (r : Option FieldType) : List Cond := Cond.code y cc n r :: BIG
theorem goodIn_wsOf {y : MethodName} {cc : ByteArray} {n : Nat} {r : Option FieldType} (h : Cond.code y cc n r ∈ BIG) : GoodIn BIG (wsOf y cc n r) := by
  intro w hw
  rcases List.mem_cons.mp hw with e | e
  · rw [e]
    exact ⟨h, big_good h⟩
  · exact ⟨e, big_good e⟩
def isNest : Cond → Bool
  | .fieldLinkNest .. => true
  | .methodLinkNest .. => true
  | _ => false
def NW : List Cond := lw_tbl.filter isNest
abbrev AOW : Cond := .arrayOver (.object "StoneThatShakes$Kept")
def NWs (U : State) : Prop := (∀ w ∈ NW, va_Nw w U) ∧ va_AO "StoneThatShakes$Kept" U
theorem nest_in {w : Cond} (i : Nat) (h : lw_tbl[i]? = some w) (g : isNest w = true) : w ∈ NW := List.mem_filter.mpr ⟨List.mem_of_getElem? h, g⟩
theorem nest_tab {w : Cond} (h : isNest w = true) : w.onTables = true := by
  cases w <;> first | rfl | cases h
theorem NWs.warm {s U : State} (hW : s.WarmedH U.vm) (h : NWs s) : NWs U := by
  refine ⟨?_, va_AO.moved hW.alike h.2⟩
  intro w hw
  have h0 := h.1 w hw
  have h1 : isNest w = true := (List.mem_filter.mp hw).2
  cases w <;> first | cases h1; done | exact va_Nw.warmF hW h0 | exact va_Nw.warmM hW h0
theorem NWs.same {u U : State} (e : u.vm = U.vm) (h : NWs u) : NWs U := ⟨fun w hw => va_Nw.same (nest_tab (List.mem_filter.mp hw).2) e (h.1 w hw), va_AO.moved (by rw [← e]; exact Vm.Alike.refl u.vm) h.2⟩
theorem NWs.of {A : Array Value} {U : State} (h : ∀ w ∈ lw_tbl, w.before A U = true) (hA : AOW ∈ lw_tbl) : NWs U := ⟨fun w hw => va_Nw.of (nest_tab (List.mem_filter.mp hw).2) (h w (List.mem_filter.mp hw).1), va_AO.of (h _ hA)⟩
theorem NWs.use {A : Array Value} {U : State} (h : NWs U) {w : Cond} (hw : w ∈ NW) : w.before A U = true := va_Nw.use (nest_tab (List.mem_filter.mp hw).2) (h.1 w hw)
def KK (G : KG) (U : State) : Prop := va_K G.1 vwCl (TYS G) U ∧ NWs U
theorem KK.warm {G : KG} {s U : State} (hW : s.WarmedH U.vm) (h : KK G s) : KK G U := ⟨va_K.moved hW.alike h.1, h.2.warm hW⟩
theorem KK.same {G : KG} {u U : State} (e : u.vm = U.vm) (h : KK G u) : KK G U := ⟨va_K.moved (by rw [← e]; exact Vm.Alike.refl u.vm) h.1, h.2.same e⟩
def Pcx (G : KG) (av : List Value) (w0 : va_W) (sz : Nat) : Array Value → State → Prop := va_Pc av (fun U => U.heap.size = sz ∧ va_P G.1 vwCl w0 U.heap ∧ KK G U ∧ va_D (fun _ => True) w0)
theorem Pcx.blind {G : KG} {av : List Value} {w0 : va_W} {sz : Nat} : FrameBlind (Pcx G av w0 sz) := by
  intro a U g mk q
  obtain ⟨q0, q1, qP, qK, qD⟩ := q
  exact ⟨q0, q1, qP, KK.same (u := U) (U := U.calling g mk a) rfl qK, qD⟩
def Qcx (G : KG) (w0 : va_W) (sz : Nat) (post : Option Value → va_W → Prop) : Array Value → State → Outcome → State → Prop := fun _ st oc t => (∃ (r : Option Value) (w1 : va_W), oc = .returned r ∧ post r w1 ∧ va_P G.1 vwCl w1 t.heap ∧ va_D (va_A w0 sz) w1) ∧ va_F (va_A w0 sz) st t
abbrev QQ (G : KG) (A : Nat → Prop) (post : Option Value → va_W → Prop) : Array Value → State → Outcome → State → Prop := fun _ st oc t => (∃ (r : Option Value) (w1 : va_W), oc = .returned r ∧ post r w1 ∧ va_P G.1 vwCl w1 t.heap ∧ va_D A w1) ∧ va_F A st t
/-- a contract: from the world w0 the method returns, and 'post answer world' -/
def Ct (l : Launch) (G : KG) (y : MethodName) (cc : ByteArray) (maxL : Nat) (ret : Option FieldType) (rm : Room) (av : List Value) (w0 : va_W) (post : Option Value → va_W → Prop) : Prop := ∀ sz : Nat, Met l y (wsOf y cc maxL ret) rm (Pcx G av w0 sz) (Qcx G w0 sz post) rm.cells rm.slots (va_A w0 sz)
abbrev ZC (p : Program) (s : State) (m : MethodId) (args : Array Value) (meth : Method) (c : Code) (cc : ByteArray) (nL : Nat) (own : String) (G : KG) (A : Nat → Prop) (ret : Option FieldType) (nm : String) : Prop :=
  p.tables.exec = Jvm.exec ∧ c.code = cc ∧ c.maxLocals = nL ∧ s.vm.findClass own = some m.cls ∧ (∀ w ∈ BIG, w.before args s = true) ∧ KK G s ∧ (∀ q : Nat, s.heap.size ≤ q → A q) ∧ meth.locks = false ∧ meth.sig.returnType = ret ∧ meth.name = nm
def Z (p : Program) (l : Launch) (e : Env) (R : Room) (s : State) (m : MethodId) (args : Array Value) (below : List Frame) (meth : Method) (c : Code) (nL : Nat) (G : KG) (A : Nat → Prop) (Q : State → Prop) (pc : Nat) (lv : List (Nat × Value)) (st : List Value) (ws : va_W) (kc ks : Nat) : Prop :=
  ∀ (H : Heap) (locs : List Loc) (ls : Array Slot), va_P G.1 vwCl ws H → va_D A ws → va_S A s.heap H locs → lv_has ls nL lv → W p l e R s m args below meth c H locs kc ks Q (F0 m pc ls st)
set_option maxHeartbeats 4000000 in
theorem ct_of {l : Launch} {G : KG} {y : MethodName} {cc : ByteArray} {maxL : Nat} {ret : Option FieldType} {rm : Room} {av : List Value} {w0 : va_W} {post : Option Value → va_W → Prop} (lv : List (Nat × Value)) (hy : plainName y.cls = true) (hlen : (lg_sl av).length ≤ maxL) (hlv : lv_args 0 av = lv)
    (body : ∀ (p : Program) (e : Env) (s : State) (m : MethodId) (args : Array Value) (below : List Frame) (meth : Method) (c : Code) (A : Nat → Prop), ZC p s m args meth c cc maxL y.cls G A ret y.name →
      Z p l e rm s m args below meth c maxL G A (MQ below (QQ G A post) args s rm.cells rm.slots A) 0 lv [] w0 0 0) : Ct l G y cc maxL ret rm av w0 post := by
  intro sz
  refine Met.ofW (cc := cc) (maxL := maxL) (ret := ret) hy rfl ?_
  intro p e s m args below meth c s₁ B hml hv
  obtain ⟨rfl, hsz, hP, hK, hD0⟩ := hv
  have hts := atoms_spec (ws := wsOf y cc maxL ret) B.pre
  have hown : s.vm.findClass y.cls = some m.cls := findClass_of_methodNamed B.named
  subst hsz
  have hD := hD0.self (sz := s.heap.size)
  have hA : ∀ q : Nat, s.heap.size ≤ q → va_A w0 s.heap.size q := fun q h => Or.inr h
  have hl := lv_entry av (n := maxL) hlen
  rw [lg_entry_eq]
  rw [hlv] at hl
  have hn : meth.name = y.name := (name_of_methodNamed B.named B.method).1
  exact body p e s m av.toArray below meth c (va_A w0 s.heap.size) ⟨B.exec, B.bytes, hml, hown, fun w hw => hts w (List.mem_cons_of_mem _ hw), hK, hA, B.notSynchronized, B.returns, hn⟩ s.heap [] _ hP hD va_S.rf hl
section ZROWS
variable {p : Program} {l : Launch} {e : Env} {R : Room} {s : State} {m : MethodId} {args : Array Value} {below : List Frame} {meth : Method} {c : Code} {nL : Nat} {G : KG} {A : Nat → Prop} {Q : State → Prop} {cc : ByteArray} {own : String} {ret : Option FieldType} {nm : String}
variable {pc : Nat} {rest st : List Value} {ws : va_W} {kc ks : Nat}
theorem z_iconst (X : ZC p s m args meth c cc nL own G A ret nm) {lv : List (Nat × Value)} {n : Int} {v : Int32} (hdg : decode cc pc = .ok (.iconst n, 1)) (hv : Int32.ofInt n = v) (kz : Z p l e R s m args below meth c nL G A Q (pc + 1) lv (.int v :: rest) ws kc ks) : Z p l e R s m args below meth c nL G A Q pc lv (rest) ws kc ks := fun H locs ls hP hD hS hl => lv_iconst X.1 X.2.1 hdg hv (kz H locs ls hP hD hS hl)
theorem z_bipush (X : ZC p s m args meth c cc nL own G A ret nm) {lv : List (Nat × Value)} {n : Int} {v : Int32} (hdg : decode cc pc = .ok (.bipush n, 2)) (hv : (Int8.ofInt n).toInt32 = v) (kz : Z p l e R s m args below meth c nL G A Q (pc + 2) lv (.int v :: rest) ws kc ks) : Z p l e R s m args below meth c nL G A Q pc lv (rest) ws kc ks := fun H locs ls hP hD hS hl => lv_bipush X.1 X.2.1 hdg hv (kz H locs ls hP hD hS hl)
theorem z_sipush (X : ZC p s m args meth c cc nL own G A ret nm) {lv : List (Nat × Value)} {n : Int} {v : Int32} (hdg : decode cc pc = .ok (.sipush n, 3)) (hv : (Int16.ofInt n).toInt32 = v) (kz : Z p l e R s m args below meth c nL G A Q (pc + 3) lv (.int v :: rest) ws kc ks) : Z p l e R s m args below meth c nL G A Q pc lv (rest) ws kc ks := fun H locs ls hP hD hS hl => lv_sipush X.1 X.2.1 hdg hv (kz H locs ls hP hD hS hl)
theorem z_lconst (X : ZC p s m args meth c cc nL own G A ret nm) {lv : List (Nat × Value)} {n : Fin 2} {v : Int64} (hdg : decode cc pc = .ok (.lconst n, 1)) (hv : Int64.ofNat (n : Nat) = v) (kz : Z p l e R s m args below meth c nL G A Q (pc + 1) lv (.long v :: rest) ws kc ks) : Z p l e R s m args below meth c nL G A Q pc lv (rest) ws kc ks := fun H locs ls hP hD hS hl => lv_lconst X.1 X.2.1 hdg hv (kz H locs ls hP hD hS hl)
theorem z_iload_n (X : ZC p s m args meth c cc nL own G A ret nm) {lv : List (Nat × Value)} {k : Fin 4} {i : Nat} {x : Int32} (hdg : decode cc pc = .ok (.iload_n k, 1)) (hi : (k : Nat) = i) (q : Nat) (hq : lv[q]? = some (i, .int x)) (kz : Z p l e R s m args below meth c nL G A Q (pc + 1) lv (.int x :: rest) ws kc ks) : Z p l e R s m args below meth c nL G A Q pc lv (rest) ws kc ks := fun H locs ls hP hD hS hl => lv_iload_n X.1 X.2.1 hdg hi (lv_at hl q hq) (kz H locs ls hP hD hS hl)
theorem z_iload (X : ZC p s m args meth c cc nL own G A ret nm) {lv : List (Nat × Value)} {i : Nat} {x : Int32} (hdg : decode cc pc = .ok (.iload i, 2)) (q : Nat) (hq : lv[q]? = some (i, .int x)) (kz : Z p l e R s m args below meth c nL G A Q (pc + 2) lv (.int x :: rest) ws kc ks) : Z p l e R s m args below meth c nL G A Q pc lv (rest) ws kc ks := fun H locs ls hP hD hS hl => lv_iload X.1 X.2.1 hdg (lv_at hl q hq) (kz H locs ls hP hD hS hl)
theorem z_lload_n (X : ZC p s m args meth c cc nL own G A ret nm) {lv : List (Nat × Value)} {k : Fin 4} {i : Nat} {x : Int64} (hdg : decode cc pc = .ok (.lload_n k, 1)) (hi : (k : Nat) = i) (q : Nat) (hq : lv[q]? = some (i, .long x)) (kz : Z p l e R s m args below meth c nL G A Q (pc + 1) lv (.long x :: rest) ws kc ks) : Z p l e R s m args below meth c nL G A Q pc lv (rest) ws kc ks := fun H locs ls hP hD hS hl => lv_lload_n X.1 X.2.1 hdg hi (lv_at hl q hq) (kz H locs ls hP hD hS hl)
theorem z_lload (X : ZC p s m args meth c cc nL own G A ret nm) {lv : List (Nat × Value)} {i : Nat} {x : Int64} (hdg : decode cc pc = .ok (.lload i, 2)) (q : Nat) (hq : lv[q]? = some (i, .long x)) (kz : Z p l e R s m args below meth c nL G A Q (pc + 2) lv (.long x :: rest) ws kc ks) : Z p l e R s m args below meth c nL G A Q pc lv (rest) ws kc ks := fun H locs ls hP hD hS hl => lv_lload X.1 X.2.1 hdg (lv_at hl q hq) (kz H locs ls hP hD hS hl)
theorem z_aload_n (X : ZC p s m args meth c cc nL own G A ret nm) {lv : List (Nat × Value)} {k : Fin 4} {i : Nat} {x : Nat} (hdg : decode cc pc = .ok (.aload_n k, 1)) (hi : (k : Nat) = i) (q : Nat) (hq : lv[q]? = some (i, .ref x)) (kz : Z p l e R s m args below meth c nL G A Q (pc + 1) lv (.ref x :: rest) ws kc ks) : Z p l e R s m args below meth c nL G A Q pc lv (rest) ws kc ks := fun H locs ls hP hD hS hl => lv_aload_n X.1 X.2.1 hdg hi (lv_at hl q hq) (kz H locs ls hP hD hS hl)
theorem z_aload (X : ZC p s m args meth c cc nL own G A ret nm) {lv : List (Nat × Value)} {i : Nat} {x : Nat} (hdg : decode cc pc = .ok (.aload i, 2)) (q : Nat) (hq : lv[q]? = some (i, .ref x)) (kz : Z p l e R s m args below meth c nL G A Q (pc + 2) lv (.ref x :: rest) ws kc ks) : Z p l e R s m args below meth c nL G A Q pc lv (rest) ws kc ks := fun H locs ls hP hD hS hl => lv_aload X.1 X.2.1 hdg (lv_at hl q hq) (kz H locs ls hP hD hS hl)
theorem z_istore_n (X : ZC p s m args meth c cc nL own G A ret nm) {lv lv' : List (Nat × Value)} {k : Fin 4} {i : Nat} {x : Int32} (hdg : decode cc pc = .ok (.istore_n k, 1)) (hi : (k : Nat) = i) (hn : i < nL) (he : (i, Value.int x) :: lv.filter (fun q => !(q.1 == i) && !(q.1 + 1 == i && q.2.category == 2)) = lv') (kk : Z p l e R s m args below meth c nL G A Q (pc + 1) lv' rest ws kc ks) : Z p l e R s m args below meth c nL G A Q pc lv (.int x :: rest) ws kc ks := fun H locs ls hP hD hS hl => lv_istore_n X.1 X.2.1 hdg hi hl hn he (fun ls' hl' => kk H locs ls' hP hD hS hl')
theorem z_istore (X : ZC p s m args meth c cc nL own G A ret nm) {lv lv' : List (Nat × Value)} {i : Nat} {x : Int32} (hdg : decode cc pc = .ok (.istore i, 2)) (hn : i < nL) (he : (i, Value.int x) :: lv.filter (fun q => !(q.1 == i) && !(q.1 + 1 == i && q.2.category == 2)) = lv') (kk : Z p l e R s m args below meth c nL G A Q (pc + 2) lv' rest ws kc ks) : Z p l e R s m args below meth c nL G A Q pc lv (.int x :: rest) ws kc ks := fun H locs ls hP hD hS hl => lv_istore X.1 X.2.1 hdg hl hn he (fun ls' hl' => kk H locs ls' hP hD hS hl')
theorem z_lstore_n (X : ZC p s m args meth c cc nL own G A ret nm) {lv lv' : List (Nat × Value)} {k : Fin 4} {i : Nat} {x : Int64} (hdg : decode cc pc = .ok (.lstore_n k, 1)) (hi : (k : Nat) = i) (hn : i + 1 < nL) (he : (i, Value.long x) :: lv.filter (fun q => !(q.1 == i) && (!(q.1 == i + 1) && !(q.1 + 1 == i && q.2.category == 2))) = lv') (kk : Z p l e R s m args below meth c nL G A Q (pc + 1) lv' rest ws kc ks) : Z p l e R s m args below meth c nL G A Q pc lv (.long x :: rest) ws kc ks := fun H locs ls hP hD hS hl => lv_lstore_n X.1 X.2.1 hdg hi hl hn he (fun ls' hl' => kk H locs ls' hP hD hS hl')
theorem z_lstore (X : ZC p s m args meth c cc nL own G A ret nm) {lv lv' : List (Nat × Value)} {i : Nat} {x : Int64} (hdg : decode cc pc = .ok (.lstore i, 2)) (hn : i + 1 < nL) (he : (i, Value.long x) :: lv.filter (fun q => !(q.1 == i) && (!(q.1 == i + 1) && !(q.1 + 1 == i && q.2.category == 2))) = lv') (kk : Z p l e R s m args below meth c nL G A Q (pc + 2) lv' rest ws kc ks) : Z p l e R s m args below meth c nL G A Q pc lv (.long x :: rest) ws kc ks := fun H locs ls hP hD hS hl => lv_lstore X.1 X.2.1 hdg hl hn he (fun ls' hl' => kk H locs ls' hP hD hS hl')
theorem z_astore_n (X : ZC p s m args meth c cc nL own G A ret nm) {lv lv' : List (Nat × Value)} {k : Fin 4} {i : Nat} {x : Nat} (hdg : decode cc pc = .ok (.astore_n k, 1)) (hi : (k : Nat) = i) (hn : i < nL) (he : (i, Value.ref x) :: lv.filter (fun q => !(q.1 == i) && !(q.1 + 1 == i && q.2.category == 2)) = lv') (kk : Z p l e R s m args below meth c nL G A Q (pc + 1) lv' rest ws kc ks) : Z p l e R s m args below meth c nL G A Q pc lv (.ref x :: rest) ws kc ks := fun H locs ls hP hD hS hl => lv_astore_n X.1 X.2.1 hdg hi hl hn he (fun ls' hl' => kk H locs ls' hP hD hS hl')
theorem z_astore (X : ZC p s m args meth c cc nL own G A ret nm) {lv lv' : List (Nat × Value)} {i : Nat} {x : Nat} (hdg : decode cc pc = .ok (.astore i, 2)) (hn : i < nL) (he : (i, Value.ref x) :: lv.filter (fun q => !(q.1 == i) && !(q.1 + 1 == i && q.2.category == 2)) = lv') (kk : Z p l e R s m args below meth c nL G A Q (pc + 2) lv' rest ws kc ks) : Z p l e R s m args below meth c nL G A Q pc lv (.ref x :: rest) ws kc ks := fun H locs ls hP hD hS hl => lv_astore X.1 X.2.1 hdg hl hn he (fun ls' hl' => kk H locs ls' hP hD hS hl')
theorem z_iinc (X : ZC p s m args meth c cc nL own G A ret nm) {lv lv' : List (Nat × Value)} {i k : Nat} {n : Int} {x v : Int32} (hdg : decode cc pc = .ok (.iinc i n, 3)) (hk : lv[k]? = some (i, .int x)) (hv : x + Int32.ofInt n = v) (hn : i < nL) (he : (i, Value.int v) :: lv.filter (fun q => !(q.1 == i) && !(q.1 + 1 == i && q.2.category == 2)) = lv') (kk : Z p l e R s m args below meth c nL G A Q (pc + 3) lv' rest ws kc ks) : Z p l e R s m args below meth c nL G A Q pc lv rest ws kc ks := fun H locs ls hP hD hS hl => lv_iinc X.1 X.2.1 hdg hl hk hv hn he (fun ls' hl' => kk H locs ls' hP hD hS hl')
theorem z_iadd (X : ZC p s m args meth c cc nL own G A ret nm) {lv : List (Nat × Value)} {x y : Int32} (hdg : decode cc pc = .ok (.iadd, 1)) (kz : Z p l e R s m args below meth c nL G A Q (pc + 1) lv (.int (x + y) :: rest) ws kc ks) : Z p l e R s m args below meth c nL G A Q pc lv (.int y :: .int x :: rest) ws kc ks := fun H locs ls hP hD hS hl => lv_iadd X.1 X.2.1 hdg (kz H locs ls hP hD hS hl)
theorem z_isub (X : ZC p s m args meth c cc nL own G A ret nm) {lv : List (Nat × Value)} {x y : Int32} (hdg : decode cc pc = .ok (.isub, 1)) (kz : Z p l e R s m args below meth c nL G A Q (pc + 1) lv (.int (x - y) :: rest) ws kc ks) : Z p l e R s m args below meth c nL G A Q pc lv (.int y :: .int x :: rest) ws kc ks := fun H locs ls hP hD hS hl => lv_isub X.1 X.2.1 hdg (kz H locs ls hP hD hS hl)
theorem z_imul (X : ZC p s m args meth c cc nL own G A ret nm) {lv : List (Nat × Value)} {x y : Int32} (hdg : decode cc pc = .ok (.imul, 1)) (kz : Z p l e R s m args below meth c nL G A Q (pc + 1) lv (.int (x * y) :: rest) ws kc ks) : Z p l e R s m args below meth c nL G A Q pc lv (.int y :: .int x :: rest) ws kc ks := fun H locs ls hP hD hS hl => lv_imul X.1 X.2.1 hdg (kz H locs ls hP hD hS hl)
theorem z_iand (X : ZC p s m args meth c cc nL own G A ret nm) {lv : List (Nat × Value)} {x y : Int32} (hdg : decode cc pc = .ok (.iand, 1)) (kz : Z p l e R s m args below meth c nL G A Q (pc + 1) lv (.int (x &&& y) :: rest) ws kc ks) : Z p l e R s m args below meth c nL G A Q pc lv (.int y :: .int x :: rest) ws kc ks := fun H locs ls hP hD hS hl => lv_iand X.1 X.2.1 hdg (kz H locs ls hP hD hS hl)
theorem z_ior (X : ZC p s m args meth c cc nL own G A ret nm) {lv : List (Nat × Value)} {x y : Int32} (hdg : decode cc pc = .ok (.ior, 1)) (kz : Z p l e R s m args below meth c nL G A Q (pc + 1) lv (.int (x ||| y) :: rest) ws kc ks) : Z p l e R s m args below meth c nL G A Q pc lv (.int y :: .int x :: rest) ws kc ks := fun H locs ls hP hD hS hl => lv_ior X.1 X.2.1 hdg (kz H locs ls hP hD hS hl)
theorem z_ixor (X : ZC p s m args meth c cc nL own G A ret nm) {lv : List (Nat × Value)} {x y : Int32} (hdg : decode cc pc = .ok (.ixor, 1)) (kz : Z p l e R s m args below meth c nL G A Q (pc + 1) lv (.int (x ^^^ y) :: rest) ws kc ks) : Z p l e R s m args below meth c nL G A Q pc lv (.int y :: .int x :: rest) ws kc ks := fun H locs ls hP hD hS hl => lv_ixor X.1 X.2.1 hdg (kz H locs ls hP hD hS hl)
theorem z_idiv (X : ZC p s m args meth c cc nL own G A ret nm) {lv : List (Nat × Value)} {x y : Int32} (hdg : decode cc pc = .ok (.idiv, 1)) (hne : ¬ y = 0) (kz : Z p l e R s m args below meth c nL G A Q (pc + 1) lv (.int (x / y) :: rest) ws kc ks) : Z p l e R s m args below meth c nL G A Q pc lv (.int y :: .int x :: rest) ws kc ks := fun H locs ls hP hD hS hl => lv_idiv X.1 X.2.1 hdg hne (kz H locs ls hP hD hS hl)
theorem z_irem (X : ZC p s m args meth c cc nL own G A ret nm) {lv : List (Nat × Value)} {x y : Int32} (hdg : decode cc pc = .ok (.irem, 1)) (hne : ¬ y = 0) (kz : Z p l e R s m args below meth c nL G A Q (pc + 1) lv (.int (x - x / y * y) :: rest) ws kc ks) : Z p l e R s m args below meth c nL G A Q pc lv (.int y :: .int x :: rest) ws kc ks := fun H locs ls hP hD hS hl => lv_irem X.1 X.2.1 hdg hne (kz H locs ls hP hD hS hl)
theorem z_ineg (X : ZC p s m args meth c cc nL own G A ret nm) {lv : List (Nat × Value)} {x : Int32} (hdg : decode cc pc = .ok (.ineg, 1)) (kz : Z p l e R s m args below meth c nL G A Q (pc + 1) lv (.int (-x) :: rest) ws kc ks) : Z p l e R s m args below meth c nL G A Q pc lv (.int x :: rest) ws kc ks := fun H locs ls hP hD hS hl => lv_ineg X.1 X.2.1 hdg (kz H locs ls hP hD hS hl)
theorem z_ladd (X : ZC p s m args meth c cc nL own G A ret nm) {lv : List (Nat × Value)} {x y : Int64} (hdg : decode cc pc = .ok (.ladd, 1)) (kz : Z p l e R s m args below meth c nL G A Q (pc + 1) lv (.long (x + y) :: rest) ws kc ks) : Z p l e R s m args below meth c nL G A Q pc lv (.long y :: .long x :: rest) ws kc ks := fun H locs ls hP hD hS hl => lv_ladd X.1 X.2.1 hdg (kz H locs ls hP hD hS hl)
theorem z_lsub (X : ZC p s m args meth c cc nL own G A ret nm) {lv : List (Nat × Value)} {x y : Int64} (hdg : decode cc pc = .ok (.lsub, 1)) (kz : Z p l e R s m args below meth c nL G A Q (pc + 1) lv (.long (x - y) :: rest) ws kc ks) : Z p l e R s m args below meth c nL G A Q pc lv (.long y :: .long x :: rest) ws kc ks := fun H locs ls hP hD hS hl => lv_lsub X.1 X.2.1 hdg (kz H locs ls hP hD hS hl)
theorem z_lmul (X : ZC p s m args meth c cc nL own G A ret nm) {lv : List (Nat × Value)} {x y : Int64} (hdg : decode cc pc = .ok (.lmul, 1)) (kz : Z p l e R s m args below meth c nL G A Q (pc + 1) lv (.long (x * y) :: rest) ws kc ks) : Z p l e R s m args below meth c nL G A Q pc lv (.long y :: .long x :: rest) ws kc ks := fun H locs ls hP hD hS hl => lv_lmul X.1 X.2.1 hdg (kz H locs ls hP hD hS hl)
theorem z_land (X : ZC p s m args meth c cc nL own G A ret nm) {lv : List (Nat × Value)} {x y : Int64} (hdg : decode cc pc = .ok (.land, 1)) (kz : Z p l e R s m args below meth c nL G A Q (pc + 1) lv (.long (x &&& y) :: rest) ws kc ks) : Z p l e R s m args below meth c nL G A Q pc lv (.long y :: .long x :: rest) ws kc ks := fun H locs ls hP hD hS hl => lv_land X.1 X.2.1 hdg (kz H locs ls hP hD hS hl)
theorem z_lor (X : ZC p s m args meth c cc nL own G A ret nm) {lv : List (Nat × Value)} {x y : Int64} (hdg : decode cc pc = .ok (.lor, 1)) (kz : Z p l e R s m args below meth c nL G A Q (pc + 1) lv (.long (x ||| y) :: rest) ws kc ks) : Z p l e R s m args below meth c nL G A Q pc lv (.long y :: .long x :: rest) ws kc ks := fun H locs ls hP hD hS hl => lv_lor X.1 X.2.1 hdg (kz H locs ls hP hD hS hl)
theorem z_lxor (X : ZC p s m args meth c cc nL own G A ret nm) {lv : List (Nat × Value)} {x y : Int64} (hdg : decode cc pc = .ok (.lxor, 1)) (kz : Z p l e R s m args below meth c nL G A Q (pc + 1) lv (.long (x ^^^ y) :: rest) ws kc ks) : Z p l e R s m args below meth c nL G A Q pc lv (.long y :: .long x :: rest) ws kc ks := fun H locs ls hP hD hS hl => lv_lxor X.1 X.2.1 hdg (kz H locs ls hP hD hS hl)
theorem z_ldiv (X : ZC p s m args meth c cc nL own G A ret nm) {lv : List (Nat × Value)} {x y : Int64} (hdg : decode cc pc = .ok (.ldiv, 1)) (hne : ¬ y = 0) (kz : Z p l e R s m args below meth c nL G A Q (pc + 1) lv (.long (x / y) :: rest) ws kc ks) : Z p l e R s m args below meth c nL G A Q pc lv (.long y :: .long x :: rest) ws kc ks := fun H locs ls hP hD hS hl => lv_ldiv X.1 X.2.1 hdg hne (kz H locs ls hP hD hS hl)
theorem z_lrem (X : ZC p s m args meth c cc nL own G A ret nm) {lv : List (Nat × Value)} {x y : Int64} (hdg : decode cc pc = .ok (.lrem, 1)) (hne : ¬ y = 0) (kz : Z p l e R s m args below meth c nL G A Q (pc + 1) lv (.long (x - x / y * y) :: rest) ws kc ks) : Z p l e R s m args below meth c nL G A Q pc lv (.long y :: .long x :: rest) ws kc ks := fun H locs ls hP hD hS hl => lv_lrem X.1 X.2.1 hdg hne (kz H locs ls hP hD hS hl)
theorem z_lneg (X : ZC p s m args meth c cc nL own G A ret nm) {lv : List (Nat × Value)} {x : Int64} (hdg : decode cc pc = .ok (.lneg, 1)) (kz : Z p l e R s m args below meth c nL G A Q (pc + 1) lv (.long (-x) :: rest) ws kc ks) : Z p l e R s m args below meth c nL G A Q pc lv (.long x :: rest) ws kc ks := fun H locs ls hP hD hS hl => lv_lneg X.1 X.2.1 hdg (kz H locs ls hP hD hS hl)
theorem z_ishl (X : ZC p s m args meth c cc nL own G A ret nm) {lv : List (Nat × Value)} {x y : Int32} (hdg : decode cc pc = .ok (.ishl, 1)) (kz : Z p l e R s m args below meth c nL G A Q (pc + 1) lv (.int (x <<< (y &&& 31)) :: rest) ws kc ks) : Z p l e R s m args below meth c nL G A Q pc lv (.int y :: .int x :: rest) ws kc ks := fun H locs ls hP hD hS hl => lv_ishl X.1 X.2.1 hdg (kz H locs ls hP hD hS hl)
theorem z_ishr (X : ZC p s m args meth c cc nL own G A ret nm) {lv : List (Nat × Value)} {x y : Int32} (hdg : decode cc pc = .ok (.ishr, 1)) (kz : Z p l e R s m args below meth c nL G A Q (pc + 1) lv (.int (x >>> (y &&& 31)) :: rest) ws kc ks) : Z p l e R s m args below meth c nL G A Q pc lv (.int y :: .int x :: rest) ws kc ks := fun H locs ls hP hD hS hl => lv_ishr X.1 X.2.1 hdg (kz H locs ls hP hD hS hl)
theorem z_i2l (X : ZC p s m args meth c cc nL own G A ret nm) {lv : List (Nat × Value)} {x : Int32} {v : Int64} (hdg : decode cc pc = .ok (.i2l, 1)) (hv : x.toInt64 = v) (kz : Z p l e R s m args below meth c nL G A Q (pc + 1) lv (.long v :: rest) ws kc ks) : Z p l e R s m args below meth c nL G A Q pc lv (.int x :: rest) ws kc ks := fun H locs ls hP hD hS hl => lv_i2l X.1 X.2.1 hdg hv (kz H locs ls hP hD hS hl)
theorem z_l2i (X : ZC p s m args meth c cc nL own G A ret nm) {lv : List (Nat × Value)} {x : Int64} {v : Int32} (hdg : decode cc pc = .ok (.l2i, 1)) (hv : x.toInt32 = v) (kz : Z p l e R s m args below meth c nL G A Q (pc + 1) lv (.int v :: rest) ws kc ks) : Z p l e R s m args below meth c nL G A Q pc lv (.long x :: rest) ws kc ks := fun H locs ls hP hD hS hl => lv_l2i X.1 X.2.1 hdg hv (kz H locs ls hP hD hS hl)
theorem z_i2b (X : ZC p s m args meth c cc nL own G A ret nm) {lv : List (Nat × Value)} {x : Int32} {v : Int32} (hdg : decode cc pc = .ok (.i2b, 1)) (hv : x.toInt8.toInt32 = v) (kz : Z p l e R s m args below meth c nL G A Q (pc + 1) lv (.int v :: rest) ws kc ks) : Z p l e R s m args below meth c nL G A Q pc lv (.int x :: rest) ws kc ks := fun H locs ls hP hD hS hl => lv_i2b X.1 X.2.1 hdg hv (kz H locs ls hP hD hS hl)
theorem z_i2s (X : ZC p s m args meth c cc nL own G A ret nm) {lv : List (Nat × Value)} {x : Int32} {v : Int32} (hdg : decode cc pc = .ok (.i2s, 1)) (hv : x.toInt16.toInt32 = v) (kz : Z p l e R s m args below meth c nL G A Q (pc + 1) lv (.int v :: rest) ws kc ks) : Z p l e R s m args below meth c nL G A Q pc lv (.int x :: rest) ws kc ks := fun H locs ls hP hD hS hl => lv_i2s X.1 X.2.1 hdg hv (kz H locs ls hP hD hS hl)
theorem z_iushr (X : ZC p s m args meth c cc nL own G A ret nm) {lv : List (Nat × Value)} {x y v : Int32} (hdg : decode cc pc = .ok (.iushr, 1)) (hv : (x.toUInt32 >>> (y.toUInt32 &&& Int32.toUInt32 31)).toInt32 = v) (kz : Z p l e R s m args below meth c nL G A Q (pc + 1) lv (.int v :: rest) ws kc ks) : Z p l e R s m args below meth c nL G A Q pc lv (.int y :: .int x :: rest) ws kc ks := fun H locs ls hP hD hS hl => lv_iushr X.1 X.2.1 hdg hv (kz H locs ls hP hD hS hl)
theorem z_lushr (X : ZC p s m args meth c cc nL own G A ret nm) {lv : List (Nat × Value)} {x v : Int64} {y : Int32} (hdg : decode cc pc = .ok (.lushr, 1)) (hv : (x.toUInt64 >>> (y.toInt64.toUInt64 &&& Int64.toUInt64 63)).toInt64 = v) (kz : Z p l e R s m args below meth c nL G A Q (pc + 1) lv (.long v :: rest) ws kc ks) : Z p l e R s m args below meth c nL G A Q pc lv (.int y :: .long x :: rest) ws kc ks := fun H locs ls hP hD hS hl => lv_lushr X.1 X.2.1 hdg hv (kz H locs ls hP hD hS hl)
theorem z_lshl (X : ZC p s m args meth c cc nL own G A ret nm) {lv : List (Nat × Value)} {x v : Int64} {y : Int32} (hdg : decode cc pc = .ok (.lshl, 1)) (hv : x <<< (y.toInt64 &&& 63) = v) (kz : Z p l e R s m args below meth c nL G A Q (pc + 1) lv (.long v :: rest) ws kc ks) : Z p l e R s m args below meth c nL G A Q pc lv (.int y :: .long x :: rest) ws kc ks := fun H locs ls hP hD hS hl => lv_lshl X.1 X.2.1 hdg hv (kz H locs ls hP hD hS hl)
theorem z_dup (X : ZC p s m args meth c cc nL own G A ret nm) {lv : List (Nat × Value)} {va : Value} (hdg : decode cc pc = .ok (.dup, 1)) (hva : va.category = 1) (kz : Z p l e R s m args below meth c nL G A Q (pc + 1) lv (va :: va :: rest) ws kc ks) : Z p l e R s m args below meth c nL G A Q pc lv (va :: rest) ws kc ks := fun H locs ls hP hD hS hl => lv_dup X.1 X.2.1 hdg hva (kz H locs ls hP hD hS hl)
theorem z_pop (X : ZC p s m args meth c cc nL own G A ret nm) {lv : List (Nat × Value)} {va : Value} (hdg : decode cc pc = .ok (.pop, 1)) (hva : va.category = 1) (kz : Z p l e R s m args below meth c nL G A Q (pc + 1) lv (rest) ws kc ks) : Z p l e R s m args below meth c nL G A Q pc lv (va :: rest) ws kc ks := fun H locs ls hP hD hS hl => lv_pop X.1 X.2.1 hdg hva (kz H locs ls hP hD hS hl)
theorem z_dup2_11 (X : ZC p s m args meth c cc nL own G A ret nm) {lv : List (Nat × Value)} {va vb : Value} (hdg : decode cc pc = .ok (.dup2, 1)) (hva : va.category = 1) (hvb : vb.category = 1) (kz : Z p l e R s m args below meth c nL G A Q (pc + 1) lv (va :: vb :: va :: vb :: rest) ws kc ks) : Z p l e R s m args below meth c nL G A Q pc lv (va :: vb :: rest) ws kc ks := fun H locs ls hP hD hS hl => lv_dup2_11 X.1 X.2.1 hdg hva hvb (kz H locs ls hP hD hS hl)
theorem z_dup2_2 (X : ZC p s m args meth c cc nL own G A ret nm) {lv : List (Nat × Value)} {va : Value} (hdg : decode cc pc = .ok (.dup2, 1)) (hva : va.category = 2) (kz : Z p l e R s m args below meth c nL G A Q (pc + 1) lv (va :: va :: rest) ws kc ks) : Z p l e R s m args below meth c nL G A Q pc lv (va :: rest) ws kc ks := fun H locs ls hP hD hS hl => lv_dup2_2 X.1 X.2.1 hdg hva (kz H locs ls hP hD hS hl)
theorem z_if_eq (X : ZC p s m args meth c cc nL own G A ret nm) {lv : List (Nat × Value)} {x : Int32} {off : Int} {tgt : Nat} (hdg : decode cc pc = .ok (.ifCond .eq off, 3)) (ht : (pc : Int) + off = (tgt : Int)) (kt : x = 0 → Z p l e R s m args below meth c nL G A Q tgt lv rest ws kc ks) (kf : ¬ x = 0 → Z p l e R s m args below meth c nL G A Q (pc + 3) lv rest ws kc ks) : Z p l e R s m args below meth c nL G A Q pc lv (.int x :: rest) ws kc ks := fun H locs ls hP hD hS hl => lv_if_eq X.1 X.2.1 hdg ht (fun h => kt h H locs ls hP hD hS hl) (fun h => kf h H locs ls hP hD hS hl)
theorem z_icmp_eq (X : ZC p s m args meth c cc nL own G A ret nm) {lv : List (Nat × Value)} {x y : Int32} {off : Int} {tgt : Nat} (hdg : decode cc pc = .ok (.if_icmp .eq off, 3)) (ht : (pc : Int) + off = (tgt : Int)) (kt : x = y → Z p l e R s m args below meth c nL G A Q tgt lv rest ws kc ks) (kf : ¬ x = y → Z p l e R s m args below meth c nL G A Q (pc + 3) lv rest ws kc ks) : Z p l e R s m args below meth c nL G A Q pc lv (.int y :: .int x :: rest) ws kc ks := fun H locs ls hP hD hS hl => lv_icmp_eq X.1 X.2.1 hdg ht (fun h => kt h H locs ls hP hD hS hl) (fun h => kf h H locs ls hP hD hS hl)
theorem z_if_ne (X : ZC p s m args meth c cc nL own G A ret nm) {lv : List (Nat × Value)} {x : Int32} {off : Int} {tgt : Nat} (hdg : decode cc pc = .ok (.ifCond .ne off, 3)) (ht : (pc : Int) + off = (tgt : Int)) (kt : ¬ x = 0 → Z p l e R s m args below meth c nL G A Q tgt lv rest ws kc ks) (kf : x = 0 → Z p l e R s m args below meth c nL G A Q (pc + 3) lv rest ws kc ks) : Z p l e R s m args below meth c nL G A Q pc lv (.int x :: rest) ws kc ks := fun H locs ls hP hD hS hl => lv_if_ne X.1 X.2.1 hdg ht (fun h => kt h H locs ls hP hD hS hl) (fun h => kf h H locs ls hP hD hS hl)
theorem z_icmp_ne (X : ZC p s m args meth c cc nL own G A ret nm) {lv : List (Nat × Value)} {x y : Int32} {off : Int} {tgt : Nat} (hdg : decode cc pc = .ok (.if_icmp .ne off, 3)) (ht : (pc : Int) + off = (tgt : Int)) (kt : ¬ x = y → Z p l e R s m args below meth c nL G A Q tgt lv rest ws kc ks) (kf : x = y → Z p l e R s m args below meth c nL G A Q (pc + 3) lv rest ws kc ks) : Z p l e R s m args below meth c nL G A Q pc lv (.int y :: .int x :: rest) ws kc ks := fun H locs ls hP hD hS hl => lv_icmp_ne X.1 X.2.1 hdg ht (fun h => kt h H locs ls hP hD hS hl) (fun h => kf h H locs ls hP hD hS hl)
theorem z_if_lt (X : ZC p s m args meth c cc nL own G A ret nm) {lv : List (Nat × Value)} {x : Int32} {off : Int} {tgt : Nat} (hdg : decode cc pc = .ok (.ifCond .lt off, 3)) (ht : (pc : Int) + off = (tgt : Int)) (kt : x < 0 → Z p l e R s m args below meth c nL G A Q tgt lv rest ws kc ks) (kf : ¬ x < 0 → Z p l e R s m args below meth c nL G A Q (pc + 3) lv rest ws kc ks) : Z p l e R s m args below meth c nL G A Q pc lv (.int x :: rest) ws kc ks := fun H locs ls hP hD hS hl => lv_if_lt X.1 X.2.1 hdg ht (fun h => kt h H locs ls hP hD hS hl) (fun h => kf h H locs ls hP hD hS hl)
theorem z_icmp_lt (X : ZC p s m args meth c cc nL own G A ret nm) {lv : List (Nat × Value)} {x y : Int32} {off : Int} {tgt : Nat} (hdg : decode cc pc = .ok (.if_icmp .lt off, 3)) (ht : (pc : Int) + off = (tgt : Int)) (kt : x < y → Z p l e R s m args below meth c nL G A Q tgt lv rest ws kc ks) (kf : ¬ x < y → Z p l e R s m args below meth c nL G A Q (pc + 3) lv rest ws kc ks) : Z p l e R s m args below meth c nL G A Q pc lv (.int y :: .int x :: rest) ws kc ks := fun H locs ls hP hD hS hl => lv_icmp_lt X.1 X.2.1 hdg ht (fun h => kt h H locs ls hP hD hS hl) (fun h => kf h H locs ls hP hD hS hl)
theorem z_if_ge (X : ZC p s m args meth c cc nL own G A ret nm) {lv : List (Nat × Value)} {x : Int32} {off : Int} {tgt : Nat} (hdg : decode cc pc = .ok (.ifCond .ge off, 3)) (ht : (pc : Int) + off = (tgt : Int)) (kt : 0 ≤ x → Z p l e R s m args below meth c nL G A Q tgt lv rest ws kc ks) (kf : ¬ 0 ≤ x → Z p l e R s m args below meth c nL G A Q (pc + 3) lv rest ws kc ks) : Z p l e R s m args below meth c nL G A Q pc lv (.int x :: rest) ws kc ks := fun H locs ls hP hD hS hl => lv_if_ge X.1 X.2.1 hdg ht (fun h => kt h H locs ls hP hD hS hl) (fun h => kf h H locs ls hP hD hS hl)
theorem z_icmp_ge (X : ZC p s m args meth c cc nL own G A ret nm) {lv : List (Nat × Value)} {x y : Int32} {off : Int} {tgt : Nat} (hdg : decode cc pc = .ok (.if_icmp .ge off, 3)) (ht : (pc : Int) + off = (tgt : Int)) (kt : y ≤ x → Z p l e R s m args below meth c nL G A Q tgt lv rest ws kc ks) (kf : ¬ y ≤ x → Z p l e R s m args below meth c nL G A Q (pc + 3) lv rest ws kc ks) : Z p l e R s m args below meth c nL G A Q pc lv (.int y :: .int x :: rest) ws kc ks := fun H locs ls hP hD hS hl => lv_icmp_ge X.1 X.2.1 hdg ht (fun h => kt h H locs ls hP hD hS hl) (fun h => kf h H locs ls hP hD hS hl)
theorem z_if_gt (X : ZC p s m args meth c cc nL own G A ret nm) {lv : List (Nat × Value)} {x : Int32} {off : Int} {tgt : Nat} (hdg : decode cc pc = .ok (.ifCond .gt off, 3)) (ht : (pc : Int) + off = (tgt : Int)) (kt : 0 < x → Z p l e R s m args below meth c nL G A Q tgt lv rest ws kc ks) (kf : ¬ 0 < x → Z p l e R s m args below meth c nL G A Q (pc + 3) lv rest ws kc ks) : Z p l e R s m args below meth c nL G A Q pc lv (.int x :: rest) ws kc ks := fun H locs ls hP hD hS hl => lv_if_gt X.1 X.2.1 hdg ht (fun h => kt h H locs ls hP hD hS hl) (fun h => kf h H locs ls hP hD hS hl)
theorem z_icmp_gt (X : ZC p s m args meth c cc nL own G A ret nm) {lv : List (Nat × Value)} {x y : Int32} {off : Int} {tgt : Nat} (hdg : decode cc pc = .ok (.if_icmp .gt off, 3)) (ht : (pc : Int) + off = (tgt : Int)) (kt : y < x → Z p l e R s m args below meth c nL G A Q tgt lv rest ws kc ks) (kf : ¬ y < x → Z p l e R s m args below meth c nL G A Q (pc + 3) lv rest ws kc ks) : Z p l e R s m args below meth c nL G A Q pc lv (.int y :: .int x :: rest) ws kc ks := fun H locs ls hP hD hS hl => lv_icmp_gt X.1 X.2.1 hdg ht (fun h => kt h H locs ls hP hD hS hl) (fun h => kf h H locs ls hP hD hS hl)
theorem z_if_le (X : ZC p s m args meth c cc nL own G A ret nm) {lv : List (Nat × Value)} {x : Int32} {off : Int} {tgt : Nat} (hdg : decode cc pc = .ok (.ifCond .le off, 3)) (ht : (pc : Int) + off = (tgt : Int)) (kt : x ≤ 0 → Z p l e R s m args below meth c nL G A Q tgt lv rest ws kc ks) (kf : ¬ x ≤ 0 → Z p l e R s m args below meth c nL G A Q (pc + 3) lv rest ws kc ks) : Z p l e R s m args below meth c nL G A Q pc lv (.int x :: rest) ws kc ks := fun H locs ls hP hD hS hl => lv_if_le X.1 X.2.1 hdg ht (fun h => kt h H locs ls hP hD hS hl) (fun h => kf h H locs ls hP hD hS hl)
theorem z_icmp_le (X : ZC p s m args meth c cc nL own G A ret nm) {lv : List (Nat × Value)} {x y : Int32} {off : Int} {tgt : Nat} (hdg : decode cc pc = .ok (.if_icmp .le off, 3)) (ht : (pc : Int) + off = (tgt : Int)) (kt : x ≤ y → Z p l e R s m args below meth c nL G A Q tgt lv rest ws kc ks) (kf : ¬ x ≤ y → Z p l e R s m args below meth c nL G A Q (pc + 3) lv rest ws kc ks) : Z p l e R s m args below meth c nL G A Q pc lv (.int y :: .int x :: rest) ws kc ks := fun H locs ls hP hD hS hl => lv_icmp_le X.1 X.2.1 hdg ht (fun h => kt h H locs ls hP hD hS hl) (fun h => kf h H locs ls hP hD hS hl)
theorem z_goto (X : ZC p s m args meth c cc nL own G A ret nm) {lv : List (Nat × Value)} {off : Int} {tgt : Nat} (hdg : decode cc pc = .ok (.goto off, 3)) (ht : (pc : Int) + off = (tgt : Int)) (kz : Z p l e R s m args below meth c nL G A Q tgt lv rest ws kc ks) : Z p l e R s m args below meth c nL G A Q pc lv rest ws kc ks := fun H locs ls hP hD hS hl => lv_goto X.1 X.2.1 hdg ht (kz H locs ls hP hD hS hl)
theorem z_tableOut (X : ZC p s m args meth c cc nL own G A ret nm) {lv : List (Nat × Value)} {dflt lo hi : Int} {offs : Array Int} {len : Nat} {x : Int32} {tgt : Nat} (hdg : decode cc pc = .ok (.tableswitch dflt lo hi offs, len)) (h : x.toInt < lo ∨ hi < x.toInt) (ht : (pc : Int) + dflt = (tgt : Int)) (kz : Z p l e R s m args below meth c nL G A Q tgt lv rest ws kc ks) : Z p l e R s m args below meth c nL G A Q pc lv (.int x :: rest) ws kc ks := fun H locs ls hP hD hS hl => lv_tableOut X.1 X.2.1 hdg h ht (kz H locs ls hP hD hS hl)
theorem z_tableIn (X : ZC p s m args meth c cc nL own G A ret nm) {lv : List (Nat × Value)} {dflt lo hi : Int} {offs : Array Int} {len : Nat} {x : Int32} {off : Int} {tgt : Nat} (hdg : decode cc pc = .ok (.tableswitch dflt lo hi offs, len)) (h1 : ¬ x.toInt < lo) (h2 : ¬ hi < x.toInt) (ho : offs[(x.toInt - lo).toNat]? = some off) (ht : (pc : Int) + off = (tgt : Int)) (kz : Z p l e R s m args below meth c nL G A Q tgt lv rest ws kc ks) : Z p l e R s m args below meth c nL G A Q pc lv (.int x :: rest) ws kc ks := fun H locs ls hP hD hS hl => lv_tableIn X.1 X.2.1 hdg h1 h2 ho ht (kz H locs ls hP hD hS hl)
theorem z_lookup (X : ZC p s m args meth c cc nL own G A ret nm) {lv : List (Nat × Value)} {dflt : Int} {ps : Array (Int × Int)} {len : Nat} {x : Int32} {off : Int} {tgt : Nat} (hdg : decode cc pc = .ok (.lookupswitch dflt ps, len)) (hp : (ps.toList.zip (ps.toList.drop 1)).all (fun (a, next) => a.1 < next.1) = true) (ho : Op.lookupswitch.offset ps.toList dflt x.toInt = off) (ht : (pc : Int) + off = (tgt : Int)) (kz : Z p l e R s m args below meth c nL G A Q tgt lv rest ws kc ks) : Z p l e R s m args below meth c nL G A Q pc lv (.int x :: rest) ws kc ks := fun H locs ls hP hD hS hl => lv_lookup X.1 X.2.1 hdg hp ho ht (kz H locs ls hP hD hS hl)
theorem z_ifnonnull (X : ZC p s m args meth c cc nL own G A ret nm) {lv : List (Nat × Value)} {x : Nat} {off : Int} {tgt : Nat} (hdg : decode cc pc = .ok (.ifnonnull off, 3)) (ht : (pc : Int) + off = (tgt : Int)) (kz : Z p l e R s m args below meth c nL G A Q tgt lv rest ws kc ks) : Z p l e R s m args below meth c nL G A Q pc lv (.ref x :: rest) ws kc ks := fun H locs ls hP hD hS hl => lv_ifnonnull X.1 X.2.1 hdg ht (kz H locs ls hP hD hS hl)
theorem z_ifnull (X : ZC p s m args meth c cc nL own G A ret nm) {lv : List (Nat × Value)} {x : Nat} {off : Int} (hdg : decode cc pc = .ok (.ifnull off, 3)) (kz : Z p l e R s m args below meth c nL G A Q (pc + 3) lv rest ws kc ks) : Z p l e R s m args below meth c nL G A Q pc lv (.ref x :: rest) ws kc ks := fun H locs ls hP hD hS hl => lv_ifnull X.1 X.2.1 hdg (kz H locs ls hP hD hS hl)
theorem z_ifnullN (X : ZC p s m args meth c cc nL own G A ret nm) {lv : List (Nat × Value)} {off : Int} {tgt : Nat} (hdg : decode cc pc = .ok (.ifnull off, 3)) (ht : (pc : Int) + off = (tgt : Int)) (kz : Z p l e R s m args below meth c nL G A Q tgt lv rest ws kc ks) : Z p l e R s m args below meth c nL G A Q pc lv (.null :: rest) ws kc ks := fun H locs ls hP hD hS hl => lv_ifnullN X.1 X.2.1 hdg ht (kz H locs ls hP hD hS hl)
theorem z_ifnonnullN (X : ZC p s m args meth c cc nL own G A ret nm) {lv : List (Nat × Value)} {off : Int} (hdg : decode cc pc = .ok (.ifnonnull off, 3)) (kz : Z p l e R s m args below meth c nL G A Q (pc + 3) lv rest ws kc ks) : Z p l e R s m args below meth c nL G A Q pc lv (.null :: rest) ws kc ks := fun H locs ls hP hD hS hl => lv_ifnonnullN X.1 X.2.1 hdg (kz H locs ls hP hD hS hl)
theorem z_lcmp (X : ZC p s m args meth c cc nL own G A ret nm) {lv : List (Nat × Value)} {x y : Int64} (hdg : decode cc pc = .ok (.lcmp, 1)) (kz : Z p l e R s m args below meth c nL G A Q (pc + 1) lv (.int (lg_cmp x y) :: rest) ws kc ks) : Z p l e R s m args below meth c nL G A Q pc lv (.long y :: .long x :: rest) ws kc ks := fun H locs ls hP hD hS hl => W.lcmp X.1 X.2.1 hdg (kz H locs ls hP hD hS hl)
theorem z_ldc (X : ZC p s m args meth c cc nL own G A ret nm) {lv : List (Nat × Value)} {index : Nat} {v : Int32} (hdg : decode cc pc = .ok (.ldc index, 2)) (hc : Jvm.Cond.constant own index v ∈ BIG) (kz : Z p l e R s m args below meth c nL G A Q (pc + 2) lv (.int v :: rest) ws kc ks) : Z p l e R s m args below meth c nL G A Q pc lv rest ws kc ks := fun H locs ls hP hD hS hl => lv_ldc X.1 X.2.1 X.2.2.2.1 (X.2.2.2.2.1 _ hc) hdg (kz H locs ls hP hD hS hl)
theorem z_ldcw (X : ZC p s m args meth c cc nL own G A ret nm) {lv : List (Nat × Value)} {index : Nat} {v : Int32} (hdg : decode cc pc = .ok (.ldc_w index, 3)) (hc : Jvm.Cond.constant own index v ∈ BIG) (kz : Z p l e R s m args below meth c nL G A Q (pc + 3) lv (.int v :: rest) ws kc ks) : Z p l e R s m args below meth c nL G A Q pc lv rest ws kc ks := fun H locs ls hP hD hS hl => lv_ldcw X.1 X.2.1 X.2.2.2.1 (X.2.2.2.2.1 _ hc) hdg (kz H locs ls hP hD hS hl)
theorem z_ldc2 (X : ZC p s m args meth c cc nL own G A ret nm) {lv : List (Nat × Value)} {index : Nat} {v : Int64} (hdg : decode cc pc = .ok (.ldc2_w index, 3)) (hc : Jvm.Cond.constantLong own index v ∈ BIG) (kz : Z p l e R s m args below meth c nL G A Q (pc + 3) lv (.long v :: rest) ws kc ks) : Z p l e R s m args below meth c nL G A Q pc lv rest ws kc ks := fun H locs ls hP hD hS hl => lv_ldc2 X.1 X.2.1 X.2.2.2.1 (X.2.2.2.2.1 _ hc) hdg (kz H locs ls hP hD hS hl)
/-- the same state, told otherwise -/
theorem Z.cg {lv lv' : List (Nat × Value)} {st st' : List Value} {ws ws' : va_W} (h1 : lv = lv') (h2 : st = st') (h3 : ws = ws') (kz : Z p l e R s m args below meth c nL G A Q pc lv' st' ws' kc ks) : Z p l e R s m args below meth c nL G A Q pc lv st ws kc ks := by subst h1; subst h2; subst h3; exact kz
theorem Z.at {lv : List (Nat × Value)} {pc' : Nat} {st' : List Value} {ws' : va_W} {kc' ks' : Nat} (h0 : pc = pc') (h1 : st = st') (h2 : ws = ws') (h3 : kc = kc') (h4 : ks = ks') (kz : Z p l e R s m args below meth c nL G A Q pc' lv st' ws' kc' ks') : Z p l e R s m args below meth c nL G A Q pc lv st ws kc ks := by subst h0; subst h1; subst h2; subst h3; subst h4; exact kz
/-- fewer locals, fewer cells, in another order -/
theorem Z.sub {lv lv' : List (Nat × Value)} {ws ws' : va_W} (il : List Nat) (hl : lv_pick lv il = lv') (is : List Nat) (hw : is.map (fun i => ws[i]?) = ws'.map some) (hn : va_nd is = true) (kz : Z p l e R s m args below meth c nL G A Q pc lv' st ws' kc ks) : Z p l e R s m args below meth c nL G A Q pc lv st ws kc ks := by
  intro H locs ls hP hD hS hh
  refine kz H locs ls ?_ (hD.sub is hn hw) hS (lv_sub hh il hl)
  intro k q hk
  have h1 : (is.map (fun i => ws[i]?))[k]? = some (some q) := by rw [hw, List.getElem?_map, hk]; rfl
  rw [List.getElem?_map] at h1
  cases hi : is[k]? with
  | none => rw [hi] at h1; cases h1
  | some i => rw [hi] at h1; exact hP i q (Option.some.inj h1)
theorem Z.widen {lv : List (Nat × Value)} {k2 s2 : Nat} (h1 : kc ≤ k2) (h2 : ks ≤ s2) (kz : Z p l e R s m args below meth c nL G A Q pc lv st ws k2 s2) : Z p l e R s m args below meth c nL G A Q pc lv st ws kc ks := fun H locs ls hP hD hS hl => W.widen h1 h2 (kz H locs ls hP hD hS hl)
/-- a field of a class by its place in the constant pool -/
def FL (own : String) (idx ci k : Nat) : Prop := ∃ (C : String) (T : u_T) (N : Nat) (ty0 : Nat → FieldType), vwCl[ci]? = some (C, T, N) ∧ k < N ∧ (∀ w ∈ u_ws C T N, w ∈ BIG) ∧ Cond.fieldLink own idx (T k).1 (T k).2.1 (T k).2.2.1 ∈ BIG ∧ (∀ k, k < N → parseFieldDescriptor (T k).2.2.1 = some (ty0 k)) ∧ (∀ a, a < N → ∀ b, b < N → a ≠ b → (T a).2.1 ≠ (T b).2.1)
def FN (own : String) (idx ci k : Nat) : Prop := ∃ (C : String) (T : u_T) (N : Nat) (ty0 : Nat → FieldType) (host : String), vwCl[ci]? = some (C, T, N) ∧ k < N ∧ (∀ w ∈ u_ws C T N, w ∈ BIG) ∧ Cond.fieldLinkNest own idx (T k).1 (T k).2.1 (T k).2.2.1 host ∈ NW ∧ (∀ k, k < N → parseFieldDescriptor (T k).2.2.1 = some (ty0 k)) ∧ (∀ a, a < N → ∀ b, b < N → a ≠ b → (T a).2.1 ≠ (T b).2.1)
theorem z_get (X : ZC p s m args meth c cc nL own G A ret nm) {lv : List (Nat × Value)} {idx ci k : Nat} {a : Nat} (F : FL own idx ci k) (hdg : decode cc pc = .ok (.getfield idx, 3)) (q0 : Nat) {fs : List Value} (he : ws[q0]? = some (a, .inr (ci, fs))) {v : Value} (hv : fs[k]? = some v) (kz : Z p l e R s m args below meth c nL G A Q (pc + 3) lv (v :: rest) ws kc ks) : Z p l e R s m args below meth c nL G A Q pc lv (.ref a :: rest) ws kc ks := by
  obtain ⟨C, T, N, ty0, hc, hk, hin, hlk, -, -⟩ := F
  intro H locs ls hP hD hS hl
  exact va_get X.1 X.2.1 X.2.2.2.2.1 hin X.2.2.2.1 X.2.2.2.2.2.1.1 hP q0 he hc k hk (X.2.2.2.2.1 _ hlk) (fun _ h9 => h9) hv hdg (kz H locs ls hP hD hS hl)
theorem z_getN (X : ZC p s m args meth c cc nL own G A ret nm) {lv : List (Nat × Value)} {idx ci k : Nat} {a : Nat} (F : FN own idx ci k) (hdg : decode cc pc = .ok (.getfield idx, 3)) (q0 : Nat) {fs : List Value} (he : ws[q0]? = some (a, .inr (ci, fs))) {v : Value} (hv : fs[k]? = some v) (kz : Z p l e R s m args below meth c nL G A Q (pc + 3) lv (v :: rest) ws kc ks) : Z p l e R s m args below meth c nL G A Q pc lv (.ref a :: rest) ws kc ks := by
  obtain ⟨C, T, N, ty0, host, hc, hk, hin, hlk, -, -⟩ := F
  intro H locs ls hP hD hS hl
  exact va_getN X.1 X.2.1 X.2.2.2.2.1 hin X.2.2.2.1 X.2.2.2.2.2.1.1 hP q0 he hc k hk (X.2.2.2.2.2.1.2.use hlk) (fun _ h9 => h9) hv hdg (kz H locs ls hP hD hS hl)
theorem z_put (X : ZC p s m args meth c cc nL own G A ret nm) {lv : List (Nat × Value)} {idx ci k : Nat} {a : Nat} (F : FL own idx ci k) (hdg : decode cc pc = .ok (.putfield idx, 3)) (q0 : Nat) {fs : List Value} (he : ws[q0]? = some (a, .inr (ci, fs))) {ty : FieldType} {v : Value} {C : String} {T : u_T} {N : Nat} (hT : vwCl[ci]? = some (C, T, N)) (hf : (T k).2.2.2 = false ∨ ((T k).2.2.2 = true ∧ nm = "<init>" ∧ (T k).1 = own)) (hd : parseFieldDescriptor (T k).2.2.1 = some ty) (hn : narrow ty v = v) (hfit : fits ty v = true) (hl0 : k < fs.length) {ws' : va_W} (hw : ws.set q0 (a, .inr (ci, fs.set k v)) = ws') (kz : Z p l e R s m args below meth c nL G A Q (pc + 3) lv rest ws' kc ks) : Z p l e R s m args below meth c nL G A Q pc lv (v :: .ref a :: rest) ws kc ks := by
  obtain ⟨C', T', N', ty0, hc, hk, hin, hlk, hty, hnm⟩ := F
  rw [hT] at hc
  cases hc
  subst hw
  intro H locs ls hP hD hS hl
  rcases hf with hf | ⟨hf, hf2, hf3⟩
  · exact va_put X.1 X.2.1 X.2.2.2.2.1 hin ty0 hty hnm X.2.2.2.1 X.2.2.2.2.2.1.1 hP hD hS q0 he hT k hk (X.2.2.2.2.1 _ hlk) (fun _ h9 => h9) hf hd hn hfit hl0 hdg (fun H1 locs1 hP hD hS => kz H1 locs1 ls hP hD hS hl)
  · exact va_putF X.1 X.2.1 X.2.2.2.2.1 hin ty0 hty hnm X.2.2.2.1 X.2.2.2.2.2.1.1 hP hD hS q0 he hT k hk (X.2.2.2.2.1 _ hlk) (fun _ h9 => h9) hf (X.2.2.2.2.2.2.2.2.2.trans hf2) hf3 hd hn hfit hl0 hdg (fun H1 locs1 hP hD hS => kz H1 locs1 ls hP hD hS hl)
theorem z_putN (X : ZC p s m args meth c cc nL own G A ret nm) {lv : List (Nat × Value)} {idx ci k : Nat} {a : Nat} (F : FN own idx ci k) (hdg : decode cc pc = .ok (.putfield idx, 3)) (q0 : Nat) {fs : List Value} (he : ws[q0]? = some (a, .inr (ci, fs))) {ty : FieldType} {v : Value} {C : String} {T : u_T} {N : Nat} (hT : vwCl[ci]? = some (C, T, N)) (hf : (T k).2.2.2 = false) (hd : parseFieldDescriptor (T k).2.2.1 = some ty) (hn : narrow ty v = v) (hfit : fits ty v = true) (hl0 : k < fs.length) {ws' : va_W} (hw : ws.set q0 (a, .inr (ci, fs.set k v)) = ws') (kz : Z p l e R s m args below meth c nL G A Q (pc + 3) lv rest ws' kc ks) : Z p l e R s m args below meth c nL G A Q pc lv (v :: .ref a :: rest) ws kc ks := by
  obtain ⟨C', T', N', ty0, host, hc, hk, hin, hlk, hty, hnm⟩ := F
  rw [hT] at hc
  cases hc
  subst hw
  intro H locs ls hP hD hS hl
  exact va_putN X.1 X.2.1 X.2.2.2.2.1 hin ty0 hty hnm X.2.2.2.1 X.2.2.2.2.2.1.1 hP hD hS q0 he hT k hk (X.2.2.2.2.2.1.2.use hlk) (fun _ h9 => h9) hf hd hn hfit hl0 hdg (fun H1 locs1 hP hD hS => kz H1 locs1 ls hP hD hS hl)
theorem z_iald (X : ZC p s m args meth c cc nL own G A ret nm) {lv : List (Nat × Value)} {a n : Nat} (hdg : decode cc pc = .ok (.iaload, 1)) (q0 : Nat) {f : Nat → Int32} (ha : ws[q0]? = some (a, aI G n f)) {i : Int32} (hin : vp_in i n) {v : Int32} (hv : f i.toNatClampNeg = v) (kz : Z p l e R s m args below meth c nL G A Q (pc + 1) lv (.int v :: rest) ws kc ks) : Z p l e R s m args below meth c nL G A Q pc lv (.int i :: .ref a :: rest) ws kc ks := by
  subst hv
  exact fun H locs ls hP hD hS hl => va_iald X.1 X.2.1 X.2.2.2.2.2.1.1 hP q0 0 ha rfl hin hdg (kz H locs ls hP hD hS hl)
theorem z_lald (X : ZC p s m args meth c cc nL own G A ret nm) {lv : List (Nat × Value)} {a n : Nat} (hdg : decode cc pc = .ok (.laload, 1)) (q0 : Nat) {f : Nat → Int64} (ha : ws[q0]? = some (a, aJ G n f)) {i : Int32} (hin : vp_in i n) {v : Int64} (hv : f i.toNatClampNeg = v) (kz : Z p l e R s m args below meth c nL G A Q (pc + 1) lv (.long v :: rest) ws kc ks) : Z p l e R s m args below meth c nL G A Q pc lv (.int i :: .ref a :: rest) ws kc ks := by
  subst hv
  exact fun H locs ls hP hD hS hl => va_lald X.1 X.2.1 X.2.2.2.2.2.1.1 hP q0 1 ha rfl hin hdg (kz H locs ls hP hD hS hl)
theorem z_zald (X : ZC p s m args meth c cc nL own G A ret nm) {lv : List (Nat × Value)} {a n : Nat} (hdg : decode cc pc = .ok (.baload, 1)) (q0 : Nat) {f : Nat → Int32} (ha : ws[q0]? = some (a, aZ G n f)) {i : Int32} (hin : vp_in i n) {v : Int32} (hv : f i.toNatClampNeg = v) (kz : Z p l e R s m args below meth c nL G A Q (pc + 1) lv (.int v :: rest) ws kc ks) : Z p l e R s m args below meth c nL G A Q pc lv (.int i :: .ref a :: rest) ws kc ks := by
  subst hv
  exact fun H locs ls hP hD hS hl => va_zald X.1 X.2.1 X.2.2.2.2.2.1.1 hP q0 2 ha rfl hin hdg (kz H locs ls hP hD hS hl)
theorem z_oald (X : ZC p s m args meth c cc nL own G A ret nm) {lv : List (Nat × Value)} {a n : Nat} (hdg : decode cc pc = .ok (.aaload, 1)) (q0 : Nat) {f : Nat → Option Nat} (ha : ws[q0]? = some (a, aO G n f)) {i : Int32} (hin : vp_in i n) {v : Value} (hv : va_rf (f i.toNatClampNeg) = v) (kz : Z p l e R s m args below meth c nL G A Q (pc + 1) lv (v :: rest) ws kc ks) : Z p l e R s m args below meth c nL G A Q pc lv (.int i :: .ref a :: rest) ws kc ks := by
  subst hv
  exact fun H locs ls hP hD hS hl => va_aldq X.1 X.2.1 X.2.2.2.2.2.1.1 hP q0 3 ha rfl hin hdg (kz H locs ls hP hD hS hl)
theorem z_iast (X : ZC p s m args meth c cc nL own G A ret nm) {lv : List (Nat × Value)} {a n : Nat} (hdg : decode cc pc = .ok (.iastore, 1)) (q0 : Nat) {f : Nat → Int32} (ha : ws[q0]? = some (a, aI G n f)) {i x : Int32} (hin : vp_in i n) {ws' : va_W} (hw : ws.set q0 (a, aI G n (upd f i.toNatClampNeg x)) = ws') (kz : Z p l e R s m args below meth c nL G A Q (pc + 1) lv rest ws' kc ks) : Z p l e R s m args below meth c nL G A Q pc lv (.int x :: .int i :: .ref a :: rest) ws kc ks := by
  subst hw
  exact fun H locs ls hP hD hS hl => va_iast X.1 X.2.1 X.2.2.2.2.2.1.1 hP hD hS q0 0 ha rfl hin hdg (fun H1 locs1 hP hD hS => kz H1 locs1 ls hP hD hS hl)
theorem z_last (X : ZC p s m args meth c cc nL own G A ret nm) {lv : List (Nat × Value)} {a n : Nat} (hdg : decode cc pc = .ok (.lastore, 1)) (q0 : Nat) {f : Nat → Int64} (ha : ws[q0]? = some (a, aJ G n f)) {i : Int32} {x : Int64} (hin : vp_in i n) {ws' : va_W} (hw : ws.set q0 (a, aJ G n (vp_updL f i.toNatClampNeg x)) = ws') (kz : Z p l e R s m args below meth c nL G A Q (pc + 1) lv rest ws' kc ks) : Z p l e R s m args below meth c nL G A Q pc lv (.long x :: .int i :: .ref a :: rest) ws kc ks := by
  subst hw
  exact fun H locs ls hP hD hS hl => va_last X.1 X.2.1 X.2.2.2.2.2.1.1 hP hD hS q0 1 ha rfl hin hdg (fun H1 locs1 hP hD hS => kz H1 locs1 ls hP hD hS hl)
theorem z_zast (X : ZC p s m args meth c cc nL own G A ret nm) {lv : List (Nat × Value)} {a n : Nat} (hdg : decode cc pc = .ok (.bastore, 1)) (q0 : Nat) {f : Nat → Int32} (ha : ws[q0]? = some (a, aZ G n f)) {i x : Int32} (hin : vp_in i n) {ws' : va_W} (hw : ws.set q0 (a, aZ G n (upd f i.toNatClampNeg (vp_nar .boolean x))) = ws') (kz : Z p l e R s m args below meth c nL G A Q (pc + 1) lv rest ws' kc ks) : Z p l e R s m args below meth c nL G A Q pc lv (.int x :: .int i :: .ref a :: rest) ws kc ks := by
  subst hw
  exact fun H locs ls hP hD hS hl => va_zast X.1 X.2.1 X.2.2.2.2.2.1.1 hP hD hS q0 2 ha rfl hin hdg (fun H1 locs1 hP hD hS => kz H1 locs1 ls hP hD hS hl)
theorem z_oast (X : ZC p s m args meth c cc nL own G A ret nm) {lv : List (Nat × Value)} {a n v qk ci : Nat} (hdg : decode cc pc = .ok (.aastore, 1)) (q0 : Nat) {f : Nat → Option Nat} {vs : List Value} {r : vw_C} (ha : ws[q0]? = some (a, aO G n f)) (hr : r.1 = "StoneThatShakes$Kept") (hv : ws[qk]? = some (v, .inr (ci, vs))) (hc : vwCl[ci]? = some r) {i : Int32} (hin : vp_in i n) {ws' : va_W} (hw : ws.set q0 (a, aO G n (va_up f i.toNatClampNeg (some v))) = ws') (kz : Z p l e R s m args below meth c nL G A Q (pc + 1) lv rest ws' kc ks) : Z p l e R s m args below meth c nL G A Q pc lv (.ref v :: .int i :: .ref a :: rest) ws kc ks := by
  subst hw
  exact fun H locs ls hP hD hS hl => va_astq X.1 X.2.1 X.2.2.2.2.2.1.1 hP hD hS q0 3 qk ci ha (by rw [hr]; rfl) hv hc hin hdg (fun H1 locs1 hP hD hS => kz H1 locs1 ls hP hD hS hl)
theorem z_alen (X : ZC p s m args meth c cc nL own G A ret nm) {lv : List (Nat × Value)} {a : Nat} (hdg : decode cc pc = .ok (.arraylength, 1)) (q0 t0 : Nat) {cA : ClassId} {x : vp_A} (ha : ws[q0]? = some (a, .inl (cA, x))) {ty : FieldType} (ht : (TYS G)[t0]? = some (cA, ty)) {v : Int32} (hv : Int32.ofNat x.1 = v) (kz : Z p l e R s m args below meth c nL G A Q (pc + 1) lv (.int v :: rest) ws kc ks) : Z p l e R s m args below meth c nL G A Q pc lv (.ref a :: rest) ws kc ks :=
  fun H locs ls hP hD hS hl => va_alen X.1 X.2.1 X.2.2.2.2.2.1.1 hP q0 t0 ha ht hv hdg (kz H locs ls hP hD hS hl)
end ZROWS
section ZRET
variable {p : Program} {l : Launch} {e : Env} {R : Room} {s : State} {m : MethodId} {args : Array Value} {below : List Frame} {meth : Method} {c : Code} {nL : Nat} {G : KG} {A : Nat → Prop} {Q : State → Prop} {cc : ByteArray} {own : String} {ret : Option FieldType} {nm : String}
variable {pc : Nat} {rest st : List Value} {ws : va_W} {kc ks mc ms : Nat} {lv : List (Nat × Value)} {post : Option Value → va_W → Prop}
theorem z_iret (X : ZC p s m args meth c cc nL own G A ret nm) {v : Int32} (hr : ret = some .int) (hdg : decode cc pc = .ok (.ireturn, 1)) (hc : kc ≤ mc) (hs : ks ≤ ms) (hq : post (some (.int v)) ws) : Z p l e R s m args below meth c nL G A (MQ below (QQ G A post) args s mc ms A) pc lv [.int v] ws kc ks :=
  fun _ _ _ hP hD hS _ => W.widen hc hs (W.iret (v := v) X.1 X.2.1 (X.2.2.2.2.2.2.2.2.1.trans hr) (fun t ht _ => ⟨⟨_, ws, rfl, hq, by rw [ht]; exact hP, hD⟩, hS.F ht⟩) hS.2.2 hdg X.2.2.2.2.2.2.2.1)
theorem z_zret (X : ZC p s m args meth c cc nL own G A ret nm) {v : Int32} {ty : FieldType} (hr : ret = some ty) (hn : narrow ty (.int v) = .int v) (hdg : decode cc pc = .ok (.ireturn, 1)) (hc : kc ≤ mc) (hs : ks ≤ ms) (hq : post (some (.int v)) ws) : Z p l e R s m args below meth c nL G A (MQ below (QQ G A post) args s mc ms A) pc lv [.int v] ws kc ks :=
  fun _ _ _ hP hD hS _ => W.widen hc hs (W.zret (v := v) X.1 X.2.1 (X.2.2.2.2.2.2.2.2.1.trans hr) hn (fun t ht _ => ⟨⟨_, ws, rfl, hq, by rw [ht]; exact hP, hD⟩, hS.F ht⟩) hS.2.2 hdg X.2.2.2.2.2.2.2.1)
theorem z_lret (X : ZC p s m args meth c cc nL own G A ret nm) {v : Int64} (hr : ret = some .long) (hdg : decode cc pc = .ok (.lreturn, 1)) (hc : kc ≤ mc) (hs : ks ≤ ms) (hq : post (some (.long v)) ws) : Z p l e R s m args below meth c nL G A (MQ below (QQ G A post) args s mc ms A) pc lv [.long v] ws kc ks :=
  fun _ _ _ hP hD hS _ => W.widen hc hs (W.lret (v := v) X.1 X.2.1 (X.2.2.2.2.2.2.2.2.1.trans hr) (fun t ht _ => ⟨⟨_, ws, rfl, hq, by rw [ht]; exact hP, hD⟩, hS.F ht⟩) hS.2.2 hdg X.2.2.2.2.2.2.2.1)
theorem z_aret (X : ZC p s m args meth c cc nL own G A ret nm) {a : Nat} {rt : FieldType} (hr : ret = some rt) (hrt : (∃ n, rt = .object n) ∨ ∃ t, rt = .array t) (hdg : decode cc pc = .ok (.areturn, 1)) (hc : kc ≤ mc) (hs : ks ≤ ms) (hq : post (some (.ref a)) ws) : Z p l e R s m args below meth c nL G A (MQ below (QQ G A post) args s mc ms A) pc lv [.ref a] ws kc ks :=
  fun _ _ _ hP hD hS _ => W.widen hc hs (W.aret X.1 X.2.1 (X.2.2.2.2.2.2.2.2.1.trans hr) hrt (Or.inr ⟨a, rfl⟩) (fun t ht _ => ⟨⟨_, ws, rfl, hq, by rw [ht]; exact hP, hD⟩, hS.F ht⟩) hS.2.2 hdg X.2.2.2.2.2.2.2.1)
theorem z_vret (X : ZC p s m args meth c cc nL own G A ret nm) (hr : ret = none) (hdg : decode cc pc = .ok (.return_, 1)) (hc : kc ≤ mc) (hs : ks ≤ ms) (hq : post none ws) : Z p l e R s m args below meth c nL G A (MQ below (QQ G A post) args s mc ms A) pc lv [] ws kc ks :=
  fun _ _ _ hP hD hS _ => W.widen hc hs (W.vret X.1 X.2.1 (X.2.2.2.2.2.2.2.2.1.trans hr) (fun t ht _ => ⟨⟨_, ws, rfl, hq, by rw [ht]; exact hP, hD⟩, hS.F ht⟩) hS.2.2 hdg X.2.2.2.2.2.2.2.1)
/-- a nested world of the whole -/
theorem va_Ppick {D : va_G} {cl : List vw_C} {ws ws' : va_W} {H : Heap} (hP : va_P D cl ws H) (is : List Nat) (hw : is.map (fun i => ws[i]?) = ws'.map some) : va_P D cl ws' H := by
  intro k q hk
  have h1 : (is.map (fun i => ws[i]?))[k]? = some (some q) := by rw [hw, List.getElem?_map, hk]; rfl
  rw [List.getElem?_map] at h1
  cases hi : is[k]? with
  | none => rw [hi] at h1; cases h1
  | some i => rw [hi] at h1; exact hP i q (Option.some.inj h1)
set_option maxHeartbeats 1000000 in
theorem z_cont {H : Heap} {locs : List Loc} {ls : Array Slot} {w0 wr : va_W} {a : Array Value} (hr : va_Run p l e R s m args below meth c H locs kc ks mc ms (F0 m pc ls st) rest (Qcx G w0 H.size post a) (va_A w0 H.size)) (hA0 : ∀ q : Nat, s.heap.size ≤ q → A q) (hP : va_P G.1 vwCl ws H) (hD : va_D A ws) (hS : va_S A s.heap H locs) (hl : lv_has ls nL lv) (isC isR : List Nat) (hC : isC.map (fun i => ws[i]?) = w0.map some) (hR : isR.map (fun i => ws[i]?) = wr.map some) (hn : va_nd isR = true) (hdis : (isR.all fun i => decide (i ∉ isC)) = true)
    (kk : ∀ (r : Option Value) (w1 : va_W), post r w1 → Z p l e R s m args below meth c nL G A Q (pc + 3) lv (r.toList ++ rest) (wr ++ w1) (kc + mc) (ks + ms)) : W p l e R s m args below meth c H locs kc ks Q (F0 m pc ls st) := by
  have hF : ∀ q, va_A w0 H.size q → A q := va_free hD hS hA0 isC hC
  intro T hT X
  obtain ⟨v, st₀, t, T', L, h0, X', hL, e1, e2, ⟨⟨r, w1, hv, hp, hP1, hD1⟩, hz, hk⟩, stp⟩ := hr T hT X
  cases hv
  rw [h0] at hz hk
  have hk1 : ∀ q : Nat, q < H.size → ¬ va_A w0 H.size q → t.heap[q]? = H[q]? := hk
  obtain ⟨hP2, hD2⟩ := va_join hP hD isC isR hC hR hn (fun i hi => of_decide_eq_true (List.all_eq_true.mp hdis i hi)) hk1 hF hP1 hD1
  have hS2 : va_S A s.heap t.heap (locs ++ L) := ⟨Nat.le_trans hS.1 hz, fun q h1 h2 => (hk q (Nat.lt_of_lt_of_le h1 hS.1) (fun z => h2 (hF q z))).trans (hS.2.1 q h1 h2), fun q hq => by
      rcases List.mem_append.mp hq with h | h
      · exact hS.2.2 q h
      · exact hF _ (hL q h)⟩
  obtain ⟨t2, a1, b1⟩ := kk v w1 hp t.heap (locs ++ L) ls hP2 hD2 hS2 hl T' e1 X'
  exact ⟨t2, stp t2 a1, b1⟩
/-- a method by its place in the constant pool: by a virtual call, a static one, a constructor; of a nest mate -/
def LkV (own : String) (idx : Nat) (C : String) (y : MethodName) (cc : ByteArray) (maxL : Nat) (ret : Option FieldType) (n : Nat) : Prop := Cond.methodLink own idx y ∈ BIG ∧ Cond.instanceMethod y ∈ BIG ∧ Cond.selects C y y ∈ BIG ∧ Cond.initialized C ∈ BIG ∧ Cond.code y cc maxL ret ∈ BIG ∧ y.cls = C ∧ y.cls ≠ "java/lang/invoke/MethodHandle" ∧ y.cls ≠ "java/lang/invoke/VarHandle" ∧ (parseMethodDescriptor y.desc).map (fun d => d.parameters.length) = some n
def LkS (own : String) (idx : Nat) (y : MethodName) (cc : ByteArray) (maxL : Nat) (ret : Option FieldType) (n : Nat) : Prop := Cond.methodLink own idx y ∈ BIG ∧ Cond.static y ∈ BIG ∧ Cond.initialized y.cls ∈ BIG ∧ Cond.code y cc maxL ret ∈ BIG ∧ y.cls ≠ "java/lang/invoke/MethodHandle" ∧ y.cls ≠ "java/lang/invoke/VarHandle" ∧ (parseMethodDescriptor y.desc).map (fun d => d.parameters.length) = some n
def LkI (own : String) (idx : Nat) (y : MethodName) (cc : ByteArray) (maxL : Nat) (n : Nat) : Prop := Cond.methodLink own idx y ∈ BIG ∧ Cond.instanceMethod y ∈ BIG ∧ Cond.initialized y.cls ∈ BIG ∧ Cond.code y cc maxL none ∈ BIG ∧ y.name = "<init>" ∧ y.cls ≠ "java/lang/invoke/MethodHandle" ∧ y.cls ≠ "java/lang/invoke/VarHandle" ∧ (parseMethodDescriptor y.desc).map (fun d => d.parameters.length) = some n
def LnV (own : String) (idx : Nat) (C : String) (y : MethodName) (cc : ByteArray) (maxL : Nat) (ret : Option FieldType) (n : Nat) : Prop := (∃ host : String, Cond.methodLinkNest own idx y host ∈ NW) ∧ Cond.instanceMethod y ∈ BIG ∧ Cond.selects C y y ∈ BIG ∧ Cond.initialized y.cls ∈ BIG ∧ Cond.code y cc maxL ret ∈ BIG ∧ y.cls ≠ "java/lang/invoke/MethodHandle" ∧ y.cls ≠ "java/lang/invoke/VarHandle" ∧ (parseMethodDescriptor y.desc).map (fun d => d.parameters.length) = some n
def LnS (own : String) (idx : Nat) (y : MethodName) (cc : ByteArray) (maxL : Nat) (ret : Option FieldType) (n : Nat) : Prop := (∃ host : String, Cond.methodLinkNest own idx y host ∈ NW) ∧ Cond.static y ∈ BIG ∧ Cond.initialized y.cls ∈ BIG ∧ Cond.code y cc maxL ret ∈ BIG ∧ y.cls ≠ "java/lang/invoke/MethodHandle" ∧ y.cls ≠ "java/lang/invoke/VarHandle" ∧ (parseMethodDescriptor y.desc).map (fun d => d.parameters.length) = some n
def LnI (own : String) (idx : Nat) (y : MethodName) (cc : ByteArray) (maxL : Nat) (n : Nat) : Prop := (∃ host : String, Cond.methodLinkNest own idx y host ∈ NW) ∧ Cond.instanceMethod y ∈ BIG ∧ Cond.initialized y.cls ∈ BIG ∧ Cond.code y cc maxL none ∈ BIG ∧ y.name = "<init>" ∧ y.cls ≠ "java/lang/invoke/MethodHandle" ∧ y.cls ≠ "java/lang/invoke/VarHandle" ∧ (parseMethodDescriptor y.desc).map (fun d => d.parameters.length) = some n
variable {y : MethodName} {cy : ByteArray} {maxL n idx : Nat} {rt : Option FieldType} {rm : Room} {w0 wr : va_W} {b : Nat} {As : List Value}
theorem pre_v {H : Heap} {locs : List Loc} (X : ZC p s m args meth c cc nL own G A ret nm) (hP : va_P G.1 vwCl ws H) (hD : va_D A ws) (isC : List Nat) (hC : isC.map (fun i => ws[i]?) = w0.map some) (hnC : va_nd isC = true) (av : List Value) : ∀ U : State, U.heap = H → s.WarmedH U.vm → Pcx G av w0 H.size av.toArray U :=
  fun U hU hW => ⟨rfl, by rw [hU], by rw [hU]; exact va_Ppick hP isC hC, X.2.2.2.2.2.1.warm hW, (hD.sub isC hnC hC).weaken (fun _ _ _ _ => trivial)⟩
theorem recv_v {H : Heap} (X : ZC p s m args meth c cc nL own G A ret nm) (hP : va_P G.1 vwCl ws H) (q0 : Nat) {ci : Nat} {fs : List Value} (he : ws[q0]? = some (b, .inr (ci, fs))) {q : vw_C} (hc : vwCl[ci]? = some q) : ∃ cell : Cell, H[b]? = some cell ∧ cell.vm.isStatics = false ∧ s.vm.findClass q.1 = some cell.cls := va_recv X.2.2.2.2.2.1.1 hP hc he
theorem z_callV {C : String} (X : ZC p s m args meth c cc nL own G A ret nm) (K : LkV own idx C y cy maxL rt n) (hM : Ct l G y cy maxL rt rm (.ref b :: As) w0 post) (hdg : decode cc pc = .ok (.invokevirtual idx, 3)) (q0 : Nat) {ci : Nat} {fs : List Value} (he : ws[q0]? = some (b, .inr (ci, fs))) {q : vw_C} (hc : vwCl[ci]? = some q) (hqC : q.1 = C) (hR : rm.frames + 1 ≤ R.frames ∧ 8 + (maxL + 11) + rm.locals ≤ R.locals) (hf : kc + rm.cells ≤ R.cells ∧ ks + rm.slots ≤ R.slots) (hn : As.length = n) (hst : st = As.reverse ++ .ref b :: rest) (hcat : (rest.map fun v => v.category).sum ≤ 8) (isC isR : List Nat) (hC : isC.map (fun i => ws[i]?) = w0.map some) (hnC : va_nd isC = true) (hRw : isR.map (fun i => ws[i]?) = wr.map some) (hnR : va_nd isR = true) (hdis : (isR.all fun i => decide (i ∉ isC)) = true)
    (kk : ∀ (r : Option Value) (w1 : va_W), post r w1 → Z p l e R s m args below meth c nL G A Q (pc + 3) lv (r.toList ++ rest) (wr ++ w1) (kc + rm.cells) (ks + rm.slots)) : Z p l e R s m args below meth c nL G A Q pc lv st ws kc ks := by
  obtain ⟨k1, k2, k3, k4, k5, k6, k7, k8, k9⟩ := K
  subst hst
  intro H locs ls hP hD hS hl
  have hts := X.2.2.2.2.1
  obtain ⟨cell, c1, c2, c3⟩ := recv_v X hP q0 he hc
  rw [hqC] at c3
  have hGI : GoodIn BIG (wsV own idx C y (wsOf y cy maxL rt)) := by
    intro w hw
    rcases List.mem_append.mp hw with h | h
    · have : w ∈ BIG := by
        rcases List.mem_cons.mp h with e | h
        · rw [e]; exact k1
        rcases List.mem_cons.mp h with e | h
        · rw [e]; exact k2
        rcases List.mem_cons.mp h with e | h
        · rw [e]; exact k3
        rcases List.mem_cons.mp h with e | h
        · rw [e]; exact k4
        cases h
      exact ⟨this, big_good this⟩
    · exact goodIn_wsOf k5 w h
  exact z_cont (va_runV (As := As) (rest := rest) ⟨X.1, X.2.1, X.2.2.1, X.2.2.2.1, hts⟩ (hM H.size) (cwV n hts hGI rfl rfl rfl ⟨k6, k7, k8, k9⟩ hR) ⟨Pcx.blind, ⟨cell, c1, c2, c3⟩, pre_v (locs := locs) X hP hD isC hC hnC _⟩ rfl hn hl.1 rfl (lv_room hcat) hdg hf) X.2.2.2.2.2.2.1 hP hD hS hl isC isR hC hRw hnR hdis kk
theorem z_callVN {C : String} (X : ZC p s m args meth c cc nL own G A ret nm) (K : LnV own idx C y cy maxL rt n) (hM : Ct l G y cy maxL rt rm (.ref b :: As) w0 post) (hdg : decode cc pc = .ok (.invokevirtual idx, 3)) (q0 : Nat) {ci : Nat} {fs : List Value} (he : ws[q0]? = some (b, .inr (ci, fs))) {q : vw_C} (hc : vwCl[ci]? = some q) (hqC : q.1 = C) (hR : rm.frames + 1 ≤ R.frames ∧ 8 + (maxL + 11) + rm.locals ≤ R.locals) (hf : kc + rm.cells ≤ R.cells ∧ ks + rm.slots ≤ R.slots) (hn : As.length = n) (hst : st = As.reverse ++ .ref b :: rest) (hcat : (rest.map fun v => v.category).sum ≤ 8) (isC isR : List Nat) (hC : isC.map (fun i => ws[i]?) = w0.map some) (hnC : va_nd isC = true) (hRw : isR.map (fun i => ws[i]?) = wr.map some) (hnR : va_nd isR = true) (hdis : (isR.all fun i => decide (i ∉ isC)) = true)
    (kk : ∀ (r : Option Value) (w1 : va_W), post r w1 → Z p l e R s m args below meth c nL G A Q (pc + 3) lv (r.toList ++ rest) (wr ++ w1) (kc + rm.cells) (ks + rm.slots)) : Z p l e R s m args below meth c nL G A Q pc lv st ws kc ks := by
  obtain ⟨⟨host, k1⟩, k2, k3, k4, k5, k7, k8, k9⟩ := K
  subst hst
  intro H locs ls hP hD hS hl
  have hts := X.2.2.2.2.1
  obtain ⟨cell, c1, c2, c3⟩ := recv_v X hP q0 he hc
  rw [hqC] at c3
  exact z_cont (va_runVN (As := As) (rest := rest) (host := host) ⟨X.1, X.2.1, X.2.2.1, X.2.2.2.1, hts⟩ (hM H.size) ⟨va_cnB n hts (goodIn_wsOf k5) rfl rfl rfl (X.2.2.2.2.2.1.2.1 _ k1) (hts _ k4) ⟨k7, k8, k9⟩ hR, hts _ k2, hts _ k3⟩ ⟨Pcx.blind, ⟨cell, c1, c2, c3⟩, pre_v (locs := locs) X hP hD isC hC hnC _⟩ rfl hn hl.1 rfl (lv_room hcat) hdg hf) X.2.2.2.2.2.2.1 hP hD hS hl isC isR hC hRw hnR hdis kk
theorem z_callS (X : ZC p s m args meth c cc nL own G A ret nm) (K : LkS own idx y cy maxL rt n) (hM : Ct l G y cy maxL rt rm As w0 post) (hdg : decode cc pc = .ok (.invokestatic idx, 3)) (hR : rm.frames + 1 ≤ R.frames ∧ 8 + (maxL + 11) + rm.locals ≤ R.locals) (hf : kc + rm.cells ≤ R.cells ∧ ks + rm.slots ≤ R.slots) (hn : As.length = n) (hst : st = As.reverse ++ rest) (hcat : (rest.map fun v => v.category).sum ≤ 8) (isC isR : List Nat) (hC : isC.map (fun i => ws[i]?) = w0.map some) (hnC : va_nd isC = true) (hRw : isR.map (fun i => ws[i]?) = wr.map some) (hnR : va_nd isR = true) (hdis : (isR.all fun i => decide (i ∉ isC)) = true)
    (kk : ∀ (r : Option Value) (w1 : va_W), post r w1 → Z p l e R s m args below meth c nL G A Q (pc + 3) lv (r.toList ++ rest) (wr ++ w1) (kc + rm.cells) (ks + rm.slots)) : Z p l e R s m args below meth c nL G A Q pc lv st ws kc ks := by
  obtain ⟨k1, k2, k3, k5, k7, k8, k9⟩ := K
  subst hst
  intro H locs ls hP hD hS hl
  have hts := X.2.2.2.2.1
  exact z_cont (va_runS (As := As) (rest := rest) ⟨X.1, X.2.1, X.2.2.1, X.2.2.2.1, hts⟩ (hM H.size) ⟨callB_of n hts (goodIn_wsOf k5) rfl rfl rfl (hts _ k3) (hts _ k1) ⟨k7, k8, k9⟩ hR, hts _ k2⟩ ⟨Pcx.blind, pre_v (locs := locs) X hP hD isC hC hnC _⟩ rfl hn hl.1 rfl (lv_room hcat) hdg hf) X.2.2.2.2.2.2.1 hP hD hS hl isC isR hC hRw hnR hdis kk
theorem z_callSN (X : ZC p s m args meth c cc nL own G A ret nm) (K : LnS own idx y cy maxL rt n) (hM : Ct l G y cy maxL rt rm As w0 post) (hdg : decode cc pc = .ok (.invokestatic idx, 3)) (hR : rm.frames + 1 ≤ R.frames ∧ 8 + (maxL + 11) + rm.locals ≤ R.locals) (hf : kc + rm.cells ≤ R.cells ∧ ks + rm.slots ≤ R.slots) (hn : As.length = n) (hst : st = As.reverse ++ rest) (hcat : (rest.map fun v => v.category).sum ≤ 8) (isC isR : List Nat) (hC : isC.map (fun i => ws[i]?) = w0.map some) (hnC : va_nd isC = true) (hRw : isR.map (fun i => ws[i]?) = wr.map some) (hnR : va_nd isR = true) (hdis : (isR.all fun i => decide (i ∉ isC)) = true)
    (kk : ∀ (r : Option Value) (w1 : va_W), post r w1 → Z p l e R s m args below meth c nL G A Q (pc + 3) lv (r.toList ++ rest) (wr ++ w1) (kc + rm.cells) (ks + rm.slots)) : Z p l e R s m args below meth c nL G A Q pc lv st ws kc ks := by
  obtain ⟨⟨host, k1⟩, k2, k4, k5, k7, k8, k9⟩ := K
  subst hst
  intro H locs ls hP hD hS hl
  have hts := X.2.2.2.2.1
  exact z_cont (va_runSN (As := As) (rest := rest) (host := host) ⟨X.1, X.2.1, X.2.2.1, X.2.2.2.1, hts⟩ (hM H.size) ⟨va_cnB n hts (goodIn_wsOf k5) rfl rfl rfl (X.2.2.2.2.2.1.2.1 _ k1) (hts _ k4) ⟨k7, k8, k9⟩ hR, hts _ k2, trivial⟩ ⟨Pcx.blind, pre_v (locs := locs) X hP hD isC hC hnC _⟩ rfl hn hl.1 rfl (lv_room hcat) hdg hf) X.2.2.2.2.2.2.1 hP hD hS hl isC isR hC hRw hnR hdis kk
theorem z_callI (X : ZC p s m args meth c cc nL own G A ret nm) (K : LkI own idx y cy maxL n) (hM : Ct l G y cy maxL none rm (.ref b :: As) w0 post) (hdg : decode cc pc = .ok (.invokespecial idx, 3)) (hR : rm.frames + 1 ≤ R.frames ∧ 8 + (maxL + 11) + rm.locals ≤ R.locals) (hf : kc + rm.cells ≤ R.cells ∧ ks + rm.slots ≤ R.slots) (hn : As.length = n) (hst : st = As.reverse ++ .ref b :: rest) (hcat : (rest.map fun v => v.category).sum ≤ 8) (isC isR : List Nat) (hC : isC.map (fun i => ws[i]?) = w0.map some) (hnC : va_nd isC = true) (hRw : isR.map (fun i => ws[i]?) = wr.map some) (hnR : va_nd isR = true) (hdis : (isR.all fun i => decide (i ∉ isC)) = true)
    (kk : ∀ (r : Option Value) (w1 : va_W), post r w1 → Z p l e R s m args below meth c nL G A Q (pc + 3) lv (r.toList ++ rest) (wr ++ w1) (kc + rm.cells) (ks + rm.slots)) : Z p l e R s m args below meth c nL G A Q pc lv st ws kc ks := by
  obtain ⟨k1, k2, k4, k5, k6, k7, k8, k9⟩ := K
  subst hst
  intro H locs ls hP hD hS hl
  have hts := X.2.2.2.2.1
  exact z_cont (va_runI (As := As) (rest := rest) ⟨X.1, X.2.1, X.2.2.1, X.2.2.2.1, hts⟩ (hM H.size) (cwI n hts (goodIn_wsOf k5) rfl rfl rfl (hts _ k4) (hts _ k1) (hts _ k2) k6 ⟨k7, k8, k9⟩ hR) ⟨Pcx.blind, pre_v (locs := locs) X hP hD isC hC hnC _⟩ rfl hn hl.1 rfl (lv_room hcat) hdg hf) X.2.2.2.2.2.2.1 hP hD hS hl isC isR hC hRw hnR hdis kk
theorem z_callIN (X : ZC p s m args meth c cc nL own G A ret nm) (K : LnI own idx y cy maxL n) (hM : Ct l G y cy maxL none rm (.ref b :: As) w0 post) (hdg : decode cc pc = .ok (.invokespecial idx, 3)) (hR : rm.frames + 1 ≤ R.frames ∧ 8 + (maxL + 11) + rm.locals ≤ R.locals) (hf : kc + rm.cells ≤ R.cells ∧ ks + rm.slots ≤ R.slots) (hn : As.length = n) (hst : st = As.reverse ++ .ref b :: rest) (hcat : (rest.map fun v => v.category).sum ≤ 8) (isC isR : List Nat) (hC : isC.map (fun i => ws[i]?) = w0.map some) (hnC : va_nd isC = true) (hRw : isR.map (fun i => ws[i]?) = wr.map some) (hnR : va_nd isR = true) (hdis : (isR.all fun i => decide (i ∉ isC)) = true)
    (kk : ∀ (r : Option Value) (w1 : va_W), post r w1 → Z p l e R s m args below meth c nL G A Q (pc + 3) lv (r.toList ++ rest) (wr ++ w1) (kc + rm.cells) (ks + rm.slots)) : Z p l e R s m args below meth c nL G A Q pc lv st ws kc ks := by
  obtain ⟨⟨host, k1⟩, k2, k4, k5, k6, k7, k8, k9⟩ := K
  subst hst
  intro H locs ls hP hD hS hl
  have hts := X.2.2.2.2.1
  exact z_cont (va_runIN (As := As) (rest := rest) (host := host) ⟨X.1, X.2.1, X.2.2.1, X.2.2.2.1, hts⟩ (hM H.size) ⟨va_cnB n hts (goodIn_wsOf k5) rfl rfl rfl (X.2.2.2.2.2.1.2.1 _ k1) (hts _ k4) ⟨k7, k8, k9⟩ hR, k6, hts _ k2⟩ ⟨Pcx.blind, pre_v (locs := locs) X hP hD isC hC hnC _⟩ rfl hn hl.1 rfl (lv_room hcat) hdg hf) X.2.2.2.2.2.2.1 hP hD hS hl isC isR hC hRw hnR hdis kk
theorem z_objInit (X : ZC p s m args meth c cc nL own G A ret nm) {a : Nat} (h1 : Cond.methodLink own idx Lib.objectInit ∈ BIG) (h2 : Cond.instanceMethod Lib.objectInit ∈ BIG) (h3 : Cond.code Lib.objectInit ⟨#[0xb1]⟩ 1 none ∈ BIG) (hdg : decode cc pc = .ok (.invokespecial idx, 3)) (hR : 1 ≤ R.frames ∧ 20 ≤ R.locals) (hcat : (rest.map fun v => v.category).sum ≤ 8) (kz : Z p l e R s m args below meth c nL G A Q (pc + 3) lv rest ws kc ks) : Z p l e R s m args below meth c nL G A Q pc lv (.ref a :: rest) ws kc ks := by
  intro H locs ls hP hD hS hl
  have hts := X.2.2.2.2.1
  refine W.objInit X.1 X.2.1 X.2.2.2.1 (hts _ h1) (hts _ h2) (hts _ h3) rfl (by rw [X.2.2.1]; exact hl.1) rfl hdg hR.1 ?_ (kz H locs ls hP hD hS hl)
  have := lv_room (pc := pc) (ls := ls) (m := m) (rest := rest) hcat
  have e : (F0 m pc ls (.ref a :: rest)).monitorRoom = (F0 m pc ls rest).monitorRoom := rfl
  rw [e]
  have h20 := hR.2
  omega
theorem z_new {C : String} {T : u_T} {N ci : Nat} (X : ZC p s m args meth c cc nL own G A ret nm) (hc : vwCl[ci]? = some (C, T, N)) (hin : ∀ w ∈ u_ws C T N, w ∈ BIG) (ty : Nat → FieldType) (hty : ∀ k, k < N → parseFieldDescriptor (T k).2.2.1 = some (ty k)) (h1 : Cond.classLink own idx C ∈ BIG) (h2 : Cond.instantiable C N ∈ BIG) (h3 : Cond.initialized C ∈ BIG) {fs : List Value} (hfs : ∀ j, j < N → defaultValue (ty j) = vp_V fs j) (hcells : kc + 1 ≤ R.cells) (hslots : ks + N ≤ R.slots) (hdg : decode cc pc = .ok (.new idx, 3))
    (kz : ∀ q : Nat, Z p l e R s m args below meth c nL G A Q (pc + 3) lv (.ref q :: rest) (ws ++ [(q, .inr (ci, fs))]) (kc + 1) (ks + N)) : Z p l e R s m args below meth c nL G A Q pc lv rest ws kc ks := by
  intro H locs ls hP hD hS hl
  have hts := X.2.2.2.2.1
  exact va_new X.1 X.2.1 hts hin ty hty X.2.2.2.1 (hts _ h1) (hts _ h2) (hts _ h3) X.2.2.2.2.2.1.1 hP hD hS X.2.2.2.2.2.2.1 hc hfs hcells hslots hdg (fun q H1 hP hD hS => kz q H1 locs ls hP hD hS hl)
theorem cls_eq {cA : ClassId} {tys : List (ClassId × FieldType)} {ty : FieldType} (hty : ty = .int ∨ ty = .long ∨ ty = .boolean) {cB : ClassId} (h1 : va_RA s cA ty) (h2 : va_RA s cB ty) : cA = cB := by
  rcases hty with rfl | rfl | rfl <;> exact Option.some.inj (Eq.trans (Eq.symm h1) h2)
theorem z_newa {atype : ArrayType} {ty : FieldType} (X : ZC p s m args meth c cc nL own G A ret nm) (harr : Cond.arrayClass (newarray.typeOf atype) ∈ BIG) (hty : newarray.typeOf atype = ty) (hty3 : ty = .int ∨ ty = .long ∨ ty = .boolean) (t0 : Nat) {cB : ClassId} (ht : (TYS G)[t0]? = some (cB, ty)) {n : Int32} {N' : Nat} {a0 : vp_A} (ha : ∀ cA : ClassId, vp_cell cA a0 = arrV cA N' (fun _ => defaultValue ty)) (hn : ¬ n < 0) (hN : n.toNatClampNeg = N') (hbytes : N' * componentBytes ty ≤ 536870912) (hcells : kc + 1 ≤ R.cells) (hslots : ks + N' ≤ R.slots) (hdg : decode cc pc = .ok (.newarray atype, 2))
    (kz : ∀ q : Nat, Z p l e R s m args below meth c nL G A Q (pc + 2) lv (.ref q :: rest) (ws ++ [(q, .inl (cB, a0))]) (kc + 1) (ks + N')) : Z p l e R s m args below meth c nL G A Q pc lv (.int n :: rest) ws kc ks := by
  intro H locs ls hP hD hS hl
  have hts := X.2.2.2.2.1
  refine va_newa X.1 X.2.1 (hts _ harr) hty X.2.2.2.2.2.1.1 hP hD hS X.2.2.2.2.2.2.1 ha hn hN hbytes hcells hslots hdg (fun q cA H1 hK hP hD hS => ?_)
  have e : cA = cB := cls_eq (tys := TYS G) hty3 (hK.2 _ _ (show (TYS G ++ [(cA, ty)])[4]? = some (cA, ty) from rfl)).2 (X.2.2.2.2.2.1.1.2 _ _ ht).2
  subst e
  exact kz q H1 locs ls hP hD hS hl
theorem z_newq {C : String} (X : ZC p s m args meth c cc nL own G A ret nm) (h1 : Cond.classLink own idx C ∈ BIG) (h2 : C = "StoneThatShakes$Kept") (t0 : Nat) {cB : ClassId} (ht : (TYS G)[t0]? = some (cB, .object C)) {n : Int32} {N' : Nat} (hn : ¬ n < 0) (hN : n.toNatClampNeg = N') (hbytes : N' * 4 ≤ 536870912) (hcells : kc + 1 ≤ R.cells) (hslots : ks + N' ≤ R.slots) (hdg : decode cc pc = .ok (.anewarray idx, 3))
    (kz : ∀ q : Nat, Z p l e R s m args below meth c nL G A Q (pc + 3) lv (.ref q :: rest) (ws ++ [(q, .inl (cB, N', .inr (.inr (.inr (.inr (fun _ => none))))))]) (kc + 1) (ks + N')) : Z p l e R s m args below meth c nL G A Q pc lv (.int n :: rest) ws kc ks := by
  intro H locs ls hP hD hS hl
  have hts := X.2.2.2.2.1
  refine va_newq X.1 X.2.1 X.2.2.2.1 (hts _ h1) (h2 ▸ X.2.2.2.2.2.1.2.2) X.2.2.2.2.2.1.1 hP hD hS X.2.2.2.2.2.2.1 hn hN hbytes hcells hslots hdg (fun q cA H1 hK hP hD hS => ?_)
  have e1 := (hK.2 _ _ (show (TYS G ++ [(cA, .object C)])[4]? = some (cA, .object C) from rfl)).2
  have e2 := (X.2.2.2.2.2.1.1.2 _ _ ht).2
  obtain ⟨kA, comp, a1, a2, a3, a4⟩ := e1
  obtain ⟨kB, comp2, b1, b2, b3, b4⟩ := e2
  have e : cA = cB := Option.some.inj (a4.symm.trans b4)
  subst e
  exact kz q H1 locs ls hP hD hS hl
end ZRET
/-! the runner of straight blocks -/
def zl : List (Nat × Value) → Nat → Option Value
  | [], _ => none
  | q :: lv, i => if q.1 = i then some q.2 else zl lv i
theorem zl_mem : ∀ (lv : List (Nat × Value)) (i : Nat) (v : Value), zl lv i = some v → (i, v) ∈ lv
  | [], i, v, h => by cases h
  | q :: lv, i, v, h => by
    unfold zl at h
    by_cases e : q.1 = i
    · rw [if_pos e] at h
      cases h
      subst e
      exact List.mem_cons_self
    · rw [if_neg e] at h
      exact List.mem_cons_of_mem _ (zl_mem lv i v h)
def zs1 (i : Nat) (v : Value) (lv : List (Nat × Value)) : List (Nat × Value) := (i, v) :: lv.filter (fun q => !(q.1 == i) && !(q.1 + 1 == i && q.2.category == 2))
def zs2 (i : Nat) (v : Value) (lv : List (Nat × Value)) : List (Nat × Value) := (i, v) :: lv.filter (fun q => !(q.1 == i) && (!(q.1 == i + 1) && !(q.1 + 1 == i && q.2.category == 2)))
/-- one plain instruction; cv: the constant that it puts -/
def zst (nL : Nat) (i : Instr) (cv : Value) (lv : List (Nat × Value)) (st : List Value) : Option (List (Nat × Value) × List Value) := match i with
  | .iconst _ => some (lv, cv :: st)
  | .bipush _ => some (lv, cv :: st)
  | .sipush _ => some (lv, cv :: st)
  | .lconst _ => some (lv, cv :: st)
  | .iload k => match zl lv k with
    | some (.int x) => some (lv, .int x :: st)
    | _ => none
  | .iload_n k => match zl lv k with
    | some (.int x) => some (lv, .int x :: st)
    | _ => none
  | .lload k => match zl lv k with
    | some (.long x) => some (lv, .long x :: st)
    | _ => none
  | .lload_n k => match zl lv k with
    | some (.long x) => some (lv, .long x :: st)
    | _ => none
  | .aload k => match zl lv k with
    | some (.ref x) => some (lv, .ref x :: st)
    | _ => none
  | .aload_n k => match zl lv k with
    | some (.ref x) => some (lv, .ref x :: st)
    | _ => none
  | .istore k => match st with
    | .int x :: st => if k < nL then some (zs1 k (.int x) lv, st) else none
    | _ => none
  | .istore_n k => match st with
    | .int x :: st => if (k : Nat) < nL then some (zs1 k (.int x) lv, st) else none
    | _ => none
  | .astore k => match st with
    | .ref x :: st => if k < nL then some (zs1 k (.ref x) lv, st) else none
    | _ => none
  | .astore_n k => match st with
    | .ref x :: st => if (k : Nat) < nL then some (zs1 k (.ref x) lv, st) else none
    | _ => none
  | .lstore k => match st with
    | .long x :: st => if k + 1 < nL then some (zs2 k (.long x) lv, st) else none
    | _ => none
  | .lstore_n k => match st with
    | .long x :: st => if (k : Nat) + 1 < nL then some (zs2 k (.long x) lv, st) else none
    | _ => none
  | .iadd => match st with
    | .int y :: .int x :: st => some (lv, .int (x + y) :: st)
    | _ => none
  | .isub => match st with
    | .int y :: .int x :: st => some (lv, .int (x - y) :: st)
    | _ => none
  | .imul => match st with
    | .int y :: .int x :: st => some (lv, .int (x * y) :: st)
    | _ => none
  | .iand => match st with
    | .int y :: .int x :: st => some (lv, .int (x &&& y) :: st)
    | _ => none
  | .ior => match st with
    | .int y :: .int x :: st => some (lv, .int (x ||| y) :: st)
    | _ => none
  | .ixor => match st with
    | .int y :: .int x :: st => some (lv, .int (x ^^^ y) :: st)
    | _ => none
  | .ineg => match st with
    | .int x :: st => some (lv, .int (-x) :: st)
    | _ => none
  | .ishl => match st with
    | .int y :: .int x :: st => some (lv, .int (x <<< (y &&& 31)) :: st)
    | _ => none
  | .ishr => match st with
    | .int y :: .int x :: st => some (lv, .int (x >>> (y &&& 31)) :: st)
    | _ => none
  | .ladd => match st with
    | .long y :: .long x :: st => some (lv, .long (x + y) :: st)
    | _ => none
  | .lsub => match st with
    | .long y :: .long x :: st => some (lv, .long (x - y) :: st)
    | _ => none
  | .lmul => match st with
    | .long y :: .long x :: st => some (lv, .long (x * y) :: st)
    | _ => none
  | .land => match st with
    | .long y :: .long x :: st => some (lv, .long (x &&& y) :: st)
    | _ => none
  | .lor => match st with
    | .long y :: .long x :: st => some (lv, .long (x ||| y) :: st)
    | _ => none
  | .lneg => match st with
    | .long x :: st => some (lv, .long (-x) :: st)
    | _ => none
  | .i2l => match st with
    | .int x :: st => some (lv, .long x.toInt64 :: st)
    | _ => none
  | .l2i => match st with
    | .long x :: st => some (lv, .int x.toInt32 :: st)
    | _ => none
  | .i2b => match st with
    | .int x :: st => some (lv, .int x.toInt8.toInt32 :: st)
    | _ => none
  | .i2s => match st with
    | .int x :: st => some (lv, .int x.toInt16.toInt32 :: st)
    | _ => none
  | .lshl => match st with
    | .int y :: .long x :: st => some (lv, .long (x <<< (y.toInt64 &&& 63)) :: st)
    | _ => none
  | .lcmp => match st with
    | .long y :: .long x :: st => some (lv, .int (lg_cmp x y) :: st)
    | _ => none
  | .iinc k _ => match cv, zl lv k with
    | .int d, some (.int x) => if k < nL then some (zs1 k (.int (x + d)) lv, st) else none
    | _, _ => none
  | .dup => match st with
    | .int x :: st => some (lv, .int x :: .int x :: st)
    | .ref x :: st => some (lv, .ref x :: .ref x :: st)
    | _ => none
  | .dup2 => match st with
    | .int x :: .ref y :: st => some (lv, .int x :: .ref y :: .int x :: .ref y :: st)
    | .int x :: .int y :: st => some (lv, .int x :: .int y :: .int x :: .int y :: st)
    | .long x :: st => some (lv, .long x :: .long x :: st)
    | _ => none
  | .pop => match st with
    | .int _ :: st => some (lv, st)
    | .ref _ :: st => some (lv, st)
    | _ => none
  | _ => none
/-- the constant that an instruction puts -/
def zcv : Instr → Value → Bool
  | .iconst n, .int v => decide (Int32.ofInt n = v)
  | .bipush n, .int v => decide ((Int8.ofInt n).toInt32 = v)
  | .sipush n, .int v => decide ((Int16.ofInt n).toInt32 = v)
  | .lconst n, .long v => decide (Int64.ofNat (n : Nat) = v)
  | .iinc _ n, .int v => decide (Int32.ofInt n = v)
  | .iinc _ _, _ => false
  | .iconst _, _ => false
  | .bipush _, _ => false
  | .sipush _, _ => false
  | .lconst _, _ => false
  | _, _ => true
def zlen : Instr → Nat
  | .iload _ => 2
  | .lload _ => 2
  | .aload _ => 2
  | .istore _ => 2
  | .astore _ => 2
  | .lstore _ => 2
  | .bipush _ => 2
  | .sipush _ => 3
  | .iinc _ _ => 3
  | _ => 1
abbrev ZB : Type := List (Instr × Value)
def zchk (cc : ByteArray) : ZB → Nat → Bool
  | [], _ => true
  | x :: b, pc => decide (decode cc pc = .ok (x.1, zlen x.1)) && (zcv x.1 x.2 && zchk cc b (pc + zlen x.1))
def zpc : ZB → Nat → Nat
  | [], pc => pc
  | x :: b, pc => zpc b (pc + zlen x.1)
def zrun (nL : Nat) : ZB → List (Nat × Value) → List Value → Option (List (Nat × Value) × List Value)
  | [], lv, st => some (lv, st)
  | x :: b, lv, st => match zst nL x.1 x.2 lv st with
    | some q => zrun nL b q.1 q.2
    | none => none
section ZRUN
variable {p : Program} {l : Launch} {e : Env} {R : Room} {s : State} {m : MethodId} {args : Array Value} {below : List Frame} {meth : Method} {c : Code} {nL : Nat} {G : KG} {A : Nat → Prop} {Q : State → Prop} {cc : ByteArray} {own : String} {ret : Option FieldType} {nm : String}
variable {ws : va_W} {kc ks : Nat}
set_option maxHeartbeats 4000000 in
theorem zst_ok {pc : Nat} (X : ZC p s m args meth c cc nL own G A ret nm) {i : Instr} {cv : Value} {lv lv' : List (Nat × Value)} {st st' : List Value} (hdg : decode cc pc = .ok (i, zlen i)) (hcv : zcv i cv = true) (h : zst nL i cv lv st = some (lv', st')) (kz : Z p l e R s m args below meth c nL G A Q (pc + zlen i) lv' st' ws kc ks) : Z p l e R s m args below meth c nL G A Q pc lv st ws kc ks := by
  cases i with
  | iconst n =>
    cases cv with
    | int v =>
      cases h
      exact z_iconst X hdg (of_decide_eq_true hcv) kz
    | _ => cases hcv
  | bipush n =>
    cases cv with
    | int v =>
      cases h
      exact z_bipush X hdg (of_decide_eq_true hcv) kz
    | _ => cases hcv
  | sipush n =>
    cases cv with
    | int v =>
      cases h
      exact z_sipush X hdg (of_decide_eq_true hcv) kz
    | _ => cases hcv
  | lconst n =>
    cases cv with
    | long v =>
      cases h
      exact z_lconst X hdg (of_decide_eq_true hcv) kz
    | _ => cases hcv
  | iload k =>
    dsimp only [zst] at h
    cases hz : zl lv k with
    | none =>
      rw [hz] at h
      cases h
    | some v =>
      rw [hz] at h
      cases v with
      | int x =>
        cases h
        obtain ⟨q, hq⟩ := List.getElem?_of_mem (zl_mem _ _ _ hz)
        exact z_iload X hdg q hq kz
      | _ => cases h
  | iload_n k =>
    dsimp only [zst] at h
    cases hz : zl lv (k : Nat) with
    | none =>
      rw [hz] at h
      cases h
    | some v =>
      rw [hz] at h
      cases v with
      | int x =>
        cases h
        obtain ⟨q, hq⟩ := List.getElem?_of_mem (zl_mem _ _ _ hz)
        exact z_iload_n X hdg rfl q hq kz
      | _ => cases h
  | lload k =>
    dsimp only [zst] at h
    cases hz : zl lv k with
    | none =>
      rw [hz] at h
      cases h
    | some v =>
      rw [hz] at h
      cases v with
      | long x =>
        cases h
        obtain ⟨q, hq⟩ := List.getElem?_of_mem (zl_mem _ _ _ hz)
        exact z_lload X hdg q hq kz
      | _ => cases h
  | lload_n k =>
    dsimp only [zst] at h
    cases hz : zl lv (k : Nat) with
    | none =>
      rw [hz] at h
      cases h
    | some v =>
      rw [hz] at h
      cases v with
      | long x =>
        cases h
        obtain ⟨q, hq⟩ := List.getElem?_of_mem (zl_mem _ _ _ hz)
        exact z_lload_n X hdg rfl q hq kz
      | _ => cases h
  | aload k =>
    dsimp only [zst] at h
    cases hz : zl lv k with
    | none =>
      rw [hz] at h
      cases h
    | some v =>
      rw [hz] at h
      cases v with
      | ref x =>
        cases h
        obtain ⟨q, hq⟩ := List.getElem?_of_mem (zl_mem _ _ _ hz)
        exact z_aload X hdg q hq kz
      | _ => cases h
  | aload_n k =>
    dsimp only [zst] at h
    cases hz : zl lv (k : Nat) with
    | none =>
      rw [hz] at h
      cases h
    | some v =>
      rw [hz] at h
      cases v with
      | ref x =>
        cases h
        obtain ⟨q, hq⟩ := List.getElem?_of_mem (zl_mem _ _ _ hz)
        exact z_aload_n X hdg rfl q hq kz
      | _ => cases h
  | istore k =>
    dsimp only [zst] at h
    cases st with
    | nil => cases h
    | cons a st =>
      cases a with
      | int x =>
        by_cases hk : k < nL
        · simp only [if_pos hk] at h
          cases h
          exact z_istore X hdg hk rfl kz
        · simp only [if_neg hk] at h
          cases h
      | _ => cases h
  | istore_n k =>
    dsimp only [zst] at h
    cases st with
    | nil => cases h
    | cons a st =>
      cases a with
      | int x =>
        by_cases hk : (k : Nat) < nL
        · simp only [if_pos hk] at h
          cases h
          exact z_istore_n X hdg rfl hk rfl kz
        · simp only [if_neg hk] at h
          cases h
      | _ => cases h
  | astore k =>
    dsimp only [zst] at h
    cases st with
    | nil => cases h
    | cons a st =>
      cases a with
      | ref x =>
        by_cases hk : k < nL
        · simp only [if_pos hk] at h
          cases h
          exact z_astore X hdg hk rfl kz
        · simp only [if_neg hk] at h
          cases h
      | _ => cases h
  | astore_n k =>
    dsimp only [zst] at h
    cases st with
    | nil => cases h
    | cons a st =>
      cases a with
      | ref x =>
        by_cases hk : (k : Nat) < nL
        · simp only [if_pos hk] at h
          cases h
          exact z_astore_n X hdg rfl hk rfl kz
        · simp only [if_neg hk] at h
          cases h
      | _ => cases h
  | lstore k =>
    dsimp only [zst] at h
    cases st with
    | nil => cases h
    | cons a st =>
      cases a with
      | long x =>
        by_cases hk : k + 1 < nL
        · simp only [if_pos hk] at h
          cases h
          exact z_lstore X hdg hk rfl kz
        · simp only [if_neg hk] at h
          cases h
      | _ => cases h
  | lstore_n k =>
    dsimp only [zst] at h
    cases st with
    | nil => cases h
    | cons a st =>
      cases a with
      | long x =>
        by_cases hk : (k : Nat) + 1 < nL
        · simp only [if_pos hk] at h
          cases h
          exact z_lstore_n X hdg rfl hk rfl kz
        · simp only [if_neg hk] at h
          cases h
      | _ => cases h
  | iadd =>
    dsimp only [zst] at h
    cases st with
    | nil => cases h
    | cons a st =>
      cases a with
      | int y =>
        cases st with
        | nil => cases h
        | cons a st =>
          cases a with
          | int x =>
            cases h
            exact z_iadd X hdg kz
          | _ => cases h
      | _ => cases h
  | isub =>
    dsimp only [zst] at h
    cases st with
    | nil => cases h
    | cons a st =>
      cases a with
      | int y =>
        cases st with
        | nil => cases h
        | cons a st =>
          cases a with
          | int x =>
            cases h
            exact z_isub X hdg kz
          | _ => cases h
      | _ => cases h
  | imul =>
    dsimp only [zst] at h
    cases st with
    | nil => cases h
    | cons a st =>
      cases a with
      | int y =>
        cases st with
        | nil => cases h
        | cons a st =>
          cases a with
          | int x =>
            cases h
            exact z_imul X hdg kz
          | _ => cases h
      | _ => cases h
  | iand =>
    dsimp only [zst] at h
    cases st with
    | nil => cases h
    | cons a st =>
      cases a with
      | int y =>
        cases st with
        | nil => cases h
        | cons a st =>
          cases a with
          | int x =>
            cases h
            exact z_iand X hdg kz
          | _ => cases h
      | _ => cases h
  | ior =>
    dsimp only [zst] at h
    cases st with
    | nil => cases h
    | cons a st =>
      cases a with
      | int y =>
        cases st with
        | nil => cases h
        | cons a st =>
          cases a with
          | int x =>
            cases h
            exact z_ior X hdg kz
          | _ => cases h
      | _ => cases h
  | ixor =>
    dsimp only [zst] at h
    cases st with
    | nil => cases h
    | cons a st =>
      cases a with
      | int y =>
        cases st with
        | nil => cases h
        | cons a st =>
          cases a with
          | int x =>
            cases h
            exact z_ixor X hdg kz
          | _ => cases h
      | _ => cases h
  | ishl =>
    dsimp only [zst] at h
    cases st with
    | nil => cases h
    | cons a st =>
      cases a with
      | int y =>
        cases st with
        | nil => cases h
        | cons a st =>
          cases a with
          | int x =>
            cases h
            exact z_ishl X hdg kz
          | _ => cases h
      | _ => cases h
  | ishr =>
    dsimp only [zst] at h
    cases st with
    | nil => cases h
    | cons a st =>
      cases a with
      | int y =>
        cases st with
        | nil => cases h
        | cons a st =>
          cases a with
          | int x =>
            cases h
            exact z_ishr X hdg kz
          | _ => cases h
      | _ => cases h
  | ladd =>
    dsimp only [zst] at h
    cases st with
    | nil => cases h
    | cons a st =>
      cases a with
      | long y =>
        cases st with
        | nil => cases h
        | cons a st =>
          cases a with
          | long x =>
            cases h
            exact z_ladd X hdg kz
          | _ => cases h
      | _ => cases h
  | lsub =>
    dsimp only [zst] at h
    cases st with
    | nil => cases h
    | cons a st =>
      cases a with
      | long y =>
        cases st with
        | nil => cases h
        | cons a st =>
          cases a with
          | long x =>
            cases h
            exact z_lsub X hdg kz
          | _ => cases h
      | _ => cases h
  | lmul =>
    dsimp only [zst] at h
    cases st with
    | nil => cases h
    | cons a st =>
      cases a with
      | long y =>
        cases st with
        | nil => cases h
        | cons a st =>
          cases a with
          | long x =>
            cases h
            exact z_lmul X hdg kz
          | _ => cases h
      | _ => cases h
  | land =>
    dsimp only [zst] at h
    cases st with
    | nil => cases h
    | cons a st =>
      cases a with
      | long y =>
        cases st with
        | nil => cases h
        | cons a st =>
          cases a with
          | long x =>
            cases h
            exact z_land X hdg kz
          | _ => cases h
      | _ => cases h
  | lor =>
    dsimp only [zst] at h
    cases st with
    | nil => cases h
    | cons a st =>
      cases a with
      | long y =>
        cases st with
        | nil => cases h
        | cons a st =>
          cases a with
          | long x =>
            cases h
            exact z_lor X hdg kz
          | _ => cases h
      | _ => cases h
  | lcmp =>
    dsimp only [zst] at h
    cases st with
    | nil => cases h
    | cons a st =>
      cases a with
      | long y =>
        cases st with
        | nil => cases h
        | cons a st =>
          cases a with
          | long x =>
            cases h
            exact z_lcmp X hdg kz
          | _ => cases h
      | _ => cases h
  | ineg =>
    dsimp only [zst] at h
    cases st with
    | nil => cases h
    | cons a st =>
      cases a with
      | int x =>
        cases h
        exact z_ineg X hdg kz
      | _ => cases h
  | lneg =>
    dsimp only [zst] at h
    cases st with
    | nil => cases h
    | cons a st =>
      cases a with
      | long x =>
        cases h
        exact z_lneg X hdg kz
      | _ => cases h
  | i2l =>
    dsimp only [zst] at h
    cases st with
    | nil => cases h
    | cons a st =>
      cases a with
      | int x =>
        cases h
        exact z_i2l X hdg rfl kz
      | _ => cases h
  | l2i =>
    dsimp only [zst] at h
    cases st with
    | nil => cases h
    | cons a st =>
      cases a with
      | long x =>
        cases h
        exact z_l2i X hdg rfl kz
      | _ => cases h
  | i2b =>
    dsimp only [zst] at h
    cases st with
    | nil => cases h
    | cons a st =>
      cases a with
      | int x =>
        cases h
        exact z_i2b X hdg rfl kz
      | _ => cases h
  | i2s =>
    dsimp only [zst] at h
    cases st with
    | nil => cases h
    | cons a st =>
      cases a with
      | int x =>
        cases h
        exact z_i2s X hdg rfl kz
      | _ => cases h
  | lshl =>
    dsimp only [zst] at h
    cases st with
    | nil => cases h
    | cons a st =>
      cases a with
      | int y =>
        cases st with
        | nil => cases h
        | cons a st =>
          cases a with
          | long x =>
            cases h
            exact z_lshl X hdg rfl kz
          | _ => cases h
      | _ => cases h
  | iinc k n =>
    dsimp only [zst] at h
    cases cv with
    | int d =>
      cases hz : zl lv k with
      | none =>
        rw [hz] at h
        cases h
      | some v =>
        rw [hz] at h
        cases v with
        | int x =>
          by_cases hk : k < nL
          · simp only [if_pos hk] at h
            cases h
            obtain ⟨q, hq⟩ := List.getElem?_of_mem (zl_mem _ _ _ hz)
            have hd : Int32.ofInt n = d := of_decide_eq_true hcv
            exact z_iinc X hdg hq (by rw [hd]) hk rfl kz
          · simp only [if_neg hk] at h
            cases h
        | _ => cases h
    | _ => cases hcv
  | dup =>
    dsimp only [zst] at h
    cases st with
    | nil => cases h
    | cons a st =>
      cases a with
      | int x =>
        cases h
        exact z_dup X hdg rfl kz
      | ref x =>
        cases h
        exact z_dup X hdg rfl kz
      | _ => cases h
  | dup2 =>
    dsimp only [zst] at h
    cases st with
    | nil => cases h
    | cons a st =>
      cases a with
      | int x =>
        cases st with
        | nil => cases h
        | cons b st =>
          cases b with
          | int y =>
            cases h
            exact z_dup2_11 X hdg rfl rfl kz
          | ref y =>
            cases h
            exact z_dup2_11 X hdg rfl rfl kz
          | _ => cases h
      | long x =>
        cases h
        exact z_dup2_2 X hdg rfl kz
      | _ => cases h
  | pop =>
    dsimp only [zst] at h
    cases st with
    | nil => cases h
    | cons a st =>
      cases a with
      | int x =>
        cases h
        exact z_pop X hdg rfl kz
      | ref x =>
        cases h
        exact z_pop X hdg rfl kz
      | _ => cases h
  | _ => exact absurd h (by simp [zst])
theorem zrun_ok (X : ZC p s m args meth c cc nL own G A ret nm) : ∀ (b : ZB) {pc : Nat} {lv lv' : List (Nat × Value)} {st st' : List Value}, zchk cc b pc = true → zrun nL b lv st = some (lv', st') → Z p l e R s m args below meth c nL G A Q (zpc b pc) lv' st' ws kc ks → Z p l e R s m args below meth c nL G A Q pc lv st ws kc ks
  | [], pc, lv, lv', st, st', _, h, kz => by
    cases h
    exact kz
  | x :: b, pc, lv, lv', st, st', hc, h, kz => by
    unfold zchk at hc
    unfold zrun at h
    simp only [Bool.and_eq_true, decide_eq_true_eq] at hc
    cases hz : zst nL x.1 x.2 lv st with
    | none =>
      rw [hz] at h
      cases h
    | some q =>
      rw [hz] at h
      exact zst_ok X hc.1 hc.2.1 hz (zrun_ok X b hc.2.2 h kz)
/-- a straight block b from pc to pc2 -/
theorem z_run (X : ZC p s m args meth c cc nL own G A ret nm) (b : ZB) {pc pc2 : Nat} {lv lv' : List (Nat × Value)} {st st' : List Value} (hc : zchk cc b pc = true ∧ zpc b pc = pc2) (h : zrun nL b lv st = some (lv', st')) (kz : Z p l e R s m args below meth c nL G A Q pc2 lv' st' ws kc ks) : Z p l e R s m args below meth c nL G A Q pc lv st ws kc ks := zrun_ok X b hc.1 h (by rw [hc.2]; exact kz)
end ZRUN
end
section
def RL : String := "StoneThatShakesLaw"
theorem tb_0 {w : Cond} (h : w ∈ k2_sels lw_privs) : w ∈ lw_tbl := List.mem_append_left _ h
theorem tb_1 {w : Cond} (h : w ∈ tables_1_1) : w ∈ lw_tbl := List.mem_append_right _ (List.mem_append_left _ h)
theorem tb_2 {w : Cond} (h : w ∈ tables_1_2) : w ∈ lw_tbl := List.mem_append_right _ (List.mem_append_right _ (List.mem_append_left _ h))
theorem tb_3 {w : Cond} (h : w ∈ tables_1_3) : w ∈ lw_tbl := List.mem_append_right _ (List.mem_append_right _ (List.mem_append_right _ (List.mem_append_left _ h)))
theorem tb_4 {w : Cond} (h : w ∈ tables_1_4) : w ∈ lw_tbl := List.mem_append_right _ (List.mem_append_right _ (List.mem_append_right _ (List.mem_append_right _ (List.mem_append_left _ h))))
theorem tb_5 {w : Cond} (h : w ∈ tables_1_5) : w ∈ lw_tbl := List.mem_append_right _ (List.mem_append_right _ (List.mem_append_right _ (List.mem_append_right _ (List.mem_append_right _ (List.mem_append_left _ h)))))
theorem tb_6 {w : Cond} (h : w ∈ tables_1_6) : w ∈ lw_tbl := List.mem_append_right _ (List.mem_append_right _ (List.mem_append_right _ (List.mem_append_right _ (List.mem_append_right _ (List.mem_append_right _ (List.mem_append_left _ h))))))
theorem tb_7 {w : Cond} (h : w ∈ tables_1_7) : w ∈ lw_tbl := List.mem_append_right _ (List.mem_append_right _ (List.mem_append_right _ (List.mem_append_right _ (List.mem_append_right _ (List.mem_append_right _ (List.mem_append_right _ (List.mem_append_left _ h)))))))
theorem tb_8 {w : Cond} (h : w ∈ tables_1_8) : w ∈ lw_tbl := List.mem_append_right _ (List.mem_append_right _ (List.mem_append_right _ (List.mem_append_right _ (List.mem_append_right _ (List.mem_append_right _ (List.mem_append_right _ (List.mem_append_right _ (h))))))))
theorem big_0 {w : Cond} (h : w ∈ k2_sels lw_privs) (g : goodWord w = true) : w ∈ BIG := List.mem_filter.mpr ⟨tb_0 h, g⟩
theorem nst_0 {w : Cond} (h : w ∈ k2_sels lw_privs) (g : isNest w = true) : w ∈ NW := List.mem_filter.mpr ⟨tb_0 h, g⟩
theorem big_1 {w : Cond} (h : w ∈ tables_1_1) (g : goodWord w = true) : w ∈ BIG := List.mem_filter.mpr ⟨tb_1 h, g⟩
theorem nst_1 {w : Cond} (h : w ∈ tables_1_1) (g : isNest w = true) : w ∈ NW := List.mem_filter.mpr ⟨tb_1 h, g⟩
theorem big_2 {w : Cond} (h : w ∈ tables_1_2) (g : goodWord w = true) : w ∈ BIG := List.mem_filter.mpr ⟨tb_2 h, g⟩
theorem nst_2 {w : Cond} (h : w ∈ tables_1_2) (g : isNest w = true) : w ∈ NW := List.mem_filter.mpr ⟨tb_2 h, g⟩
theorem big_3 {w : Cond} (h : w ∈ tables_1_3) (g : goodWord w = true) : w ∈ BIG := List.mem_filter.mpr ⟨tb_3 h, g⟩
theorem nst_3 {w : Cond} (h : w ∈ tables_1_3) (g : isNest w = true) : w ∈ NW := List.mem_filter.mpr ⟨tb_3 h, g⟩
theorem big_4 {w : Cond} (h : w ∈ tables_1_4) (g : goodWord w = true) : w ∈ BIG := List.mem_filter.mpr ⟨tb_4 h, g⟩
theorem nst_4 {w : Cond} (h : w ∈ tables_1_4) (g : isNest w = true) : w ∈ NW := List.mem_filter.mpr ⟨tb_4 h, g⟩
theorem big_5 {w : Cond} (h : w ∈ tables_1_5) (g : goodWord w = true) : w ∈ BIG := List.mem_filter.mpr ⟨tb_5 h, g⟩
theorem nst_5 {w : Cond} (h : w ∈ tables_1_5) (g : isNest w = true) : w ∈ NW := List.mem_filter.mpr ⟨tb_5 h, g⟩
theorem big_6 {w : Cond} (h : w ∈ tables_1_6) (g : goodWord w = true) : w ∈ BIG := List.mem_filter.mpr ⟨tb_6 h, g⟩
theorem nst_6 {w : Cond} (h : w ∈ tables_1_6) (g : isNest w = true) : w ∈ NW := List.mem_filter.mpr ⟨tb_6 h, g⟩
theorem big_7 {w : Cond} (h : w ∈ tables_1_7) (g : goodWord w = true) : w ∈ BIG := List.mem_filter.mpr ⟨tb_7 h, g⟩
theorem nst_7 {w : Cond} (h : w ∈ tables_1_7) (g : isNest w = true) : w ∈ NW := List.mem_filter.mpr ⟨tb_7 h, g⟩
theorem big_8 {w : Cond} (h : w ∈ tables_1_8) (g : goodWord w = true) : w ∈ BIG := List.mem_filter.mpr ⟨tb_8 h, g⟩
theorem nst_8 {w : Cond} (h : w ∈ tables_1_8) (g : isNest w = true) : w ∈ NW := List.mem_filter.mpr ⟨tb_8 h, g⟩
set_option maxRecDepth 100000 in
theorem wsb_0 : ∀ w ∈ u_ws RX0 TX0 7, w ∈ BIG := List.forall_mem_cons.mpr ⟨big_1 (List.mem_of_getElem? (i := 187) rfl) rfl, List.forall_mem_cons.mpr ⟨big_1 (List.mem_of_getElem? (i := 189) rfl) rfl, List.forall_mem_cons.mpr ⟨big_1 (List.mem_of_getElem? (i := 191) rfl) rfl, List.forall_mem_cons.mpr ⟨big_1 (List.mem_of_getElem? (i := 193) rfl) rfl, List.forall_mem_cons.mpr ⟨big_1 (List.mem_of_getElem? (i := 195) rfl) rfl, List.forall_mem_cons.mpr ⟨big_1 (List.mem_of_getElem? (i := 197) rfl) rfl, List.forall_mem_cons.mpr ⟨big_1 (List.mem_of_getElem? (i := 199) rfl) rfl, fun _ h => absurd h List.not_mem_nil⟩⟩⟩⟩⟩⟩⟩
set_option maxRecDepth 100000 in
theorem wsb_1 : ∀ w ∈ u_ws RX1 TX1 9, w ∈ BIG := List.forall_mem_cons.mpr ⟨big_2 (List.mem_of_getElem? (i := 27) rfl) rfl, List.forall_mem_cons.mpr ⟨big_2 (List.mem_of_getElem? (i := 29) rfl) rfl, List.forall_mem_cons.mpr ⟨big_2 (List.mem_of_getElem? (i := 31) rfl) rfl, List.forall_mem_cons.mpr ⟨big_2 (List.mem_of_getElem? (i := 33) rfl) rfl, List.forall_mem_cons.mpr ⟨big_2 (List.mem_of_getElem? (i := 35) rfl) rfl, List.forall_mem_cons.mpr ⟨big_2 (List.mem_of_getElem? (i := 37) rfl) rfl, List.forall_mem_cons.mpr ⟨big_2 (List.mem_of_getElem? (i := 39) rfl) rfl, List.forall_mem_cons.mpr ⟨big_2 (List.mem_of_getElem? (i := 41) rfl) rfl, List.forall_mem_cons.mpr ⟨big_2 (List.mem_of_getElem? (i := 43) rfl) rfl, fun _ h => absurd h List.not_mem_nil⟩⟩⟩⟩⟩⟩⟩⟩⟩
set_option maxRecDepth 100000 in
theorem wsb_2 : ∀ w ∈ u_ws RX2 TX2 7, w ∈ BIG := List.forall_mem_cons.mpr ⟨big_2 (List.mem_of_getElem? (i := 119) rfl) rfl, List.forall_mem_cons.mpr ⟨big_2 (List.mem_of_getElem? (i := 121) rfl) rfl, List.forall_mem_cons.mpr ⟨big_2 (List.mem_of_getElem? (i := 123) rfl) rfl, List.forall_mem_cons.mpr ⟨big_2 (List.mem_of_getElem? (i := 125) rfl) rfl, List.forall_mem_cons.mpr ⟨big_2 (List.mem_of_getElem? (i := 127) rfl) rfl, List.forall_mem_cons.mpr ⟨big_2 (List.mem_of_getElem? (i := 129) rfl) rfl, List.forall_mem_cons.mpr ⟨big_2 (List.mem_of_getElem? (i := 131) rfl) rfl, fun _ h => absurd h List.not_mem_nil⟩⟩⟩⟩⟩⟩⟩
set_option maxRecDepth 100000 in
theorem wsb_3 : ∀ w ∈ u_ws RX3 TX3 9, w ∈ BIG := List.forall_mem_cons.mpr ⟨big_3 (List.mem_of_getElem? (i := 222) rfl) rfl, List.forall_mem_cons.mpr ⟨big_3 (List.mem_of_getElem? (i := 224) rfl) rfl, List.forall_mem_cons.mpr ⟨big_3 (List.mem_of_getElem? (i := 226) rfl) rfl, List.forall_mem_cons.mpr ⟨big_3 (List.mem_of_getElem? (i := 228) rfl) rfl, List.forall_mem_cons.mpr ⟨big_3 (List.mem_of_getElem? (i := 230) rfl) rfl, List.forall_mem_cons.mpr ⟨big_3 (List.mem_of_getElem? (i := 232) rfl) rfl, List.forall_mem_cons.mpr ⟨big_3 (List.mem_of_getElem? (i := 234) rfl) rfl, List.forall_mem_cons.mpr ⟨big_3 (List.mem_of_getElem? (i := 236) rfl) rfl, List.forall_mem_cons.mpr ⟨big_3 (List.mem_of_getElem? (i := 238) rfl) rfl, fun _ h => absurd h List.not_mem_nil⟩⟩⟩⟩⟩⟩⟩⟩⟩
set_option maxRecDepth 100000 in
theorem wsb_4 : ∀ w ∈ u_ws RX4 TX4 8, w ∈ BIG := List.forall_mem_cons.mpr ⟨big_1 (List.mem_of_getElem? (i := 60) rfl) rfl, List.forall_mem_cons.mpr ⟨big_1 (List.mem_of_getElem? (i := 62) rfl) rfl, List.forall_mem_cons.mpr ⟨big_1 (List.mem_of_getElem? (i := 64) rfl) rfl, List.forall_mem_cons.mpr ⟨big_1 (List.mem_of_getElem? (i := 66) rfl) rfl, List.forall_mem_cons.mpr ⟨big_1 (List.mem_of_getElem? (i := 68) rfl) rfl, List.forall_mem_cons.mpr ⟨big_1 (List.mem_of_getElem? (i := 70) rfl) rfl, List.forall_mem_cons.mpr ⟨big_1 (List.mem_of_getElem? (i := 72) rfl) rfl, List.forall_mem_cons.mpr ⟨big_1 (List.mem_of_getElem? (i := 74) rfl) rfl, fun _ h => absurd h List.not_mem_nil⟩⟩⟩⟩⟩⟩⟩⟩
set_option maxRecDepth 100000 in
theorem wsb_5 : ∀ w ∈ u_ws RX5 TX5 9, w ∈ BIG := List.forall_mem_cons.mpr ⟨big_1 (List.mem_of_getElem? (i := 112) rfl) rfl, List.forall_mem_cons.mpr ⟨big_1 (List.mem_of_getElem? (i := 114) rfl) rfl, List.forall_mem_cons.mpr ⟨big_1 (List.mem_of_getElem? (i := 116) rfl) rfl, List.forall_mem_cons.mpr ⟨big_1 (List.mem_of_getElem? (i := 118) rfl) rfl, List.forall_mem_cons.mpr ⟨big_1 (List.mem_of_getElem? (i := 120) rfl) rfl, List.forall_mem_cons.mpr ⟨big_1 (List.mem_of_getElem? (i := 122) rfl) rfl, List.forall_mem_cons.mpr ⟨big_1 (List.mem_of_getElem? (i := 124) rfl) rfl, List.forall_mem_cons.mpr ⟨big_1 (List.mem_of_getElem? (i := 126) rfl) rfl, List.forall_mem_cons.mpr ⟨big_1 (List.mem_of_getElem? (i := 128) rfl) rfl, fun _ h => absurd h List.not_mem_nil⟩⟩⟩⟩⟩⟩⟩⟩⟩
set_option maxRecDepth 100000 in
theorem wsb_6 : ∀ w ∈ u_ws RX6 TX6 15, w ∈ BIG := List.forall_mem_cons.mpr ⟨big_2 (List.mem_of_getElem? (i := 69) rfl) rfl, List.forall_mem_cons.mpr ⟨big_2 (List.mem_of_getElem? (i := 71) rfl) rfl, List.forall_mem_cons.mpr ⟨big_2 (List.mem_of_getElem? (i := 73) rfl) rfl, List.forall_mem_cons.mpr ⟨big_2 (List.mem_of_getElem? (i := 75) rfl) rfl, List.forall_mem_cons.mpr ⟨big_2 (List.mem_of_getElem? (i := 77) rfl) rfl, List.forall_mem_cons.mpr ⟨big_2 (List.mem_of_getElem? (i := 79) rfl) rfl, List.forall_mem_cons.mpr ⟨big_2 (List.mem_of_getElem? (i := 81) rfl) rfl, List.forall_mem_cons.mpr ⟨big_2 (List.mem_of_getElem? (i := 83) rfl) rfl, List.forall_mem_cons.mpr ⟨big_2 (List.mem_of_getElem? (i := 85) rfl) rfl, List.forall_mem_cons.mpr ⟨big_2 (List.mem_of_getElem? (i := 87) rfl) rfl, List.forall_mem_cons.mpr ⟨big_2 (List.mem_of_getElem? (i := 89) rfl) rfl, List.forall_mem_cons.mpr ⟨big_2 (List.mem_of_getElem? (i := 91) rfl) rfl, List.forall_mem_cons.mpr ⟨big_2 (List.mem_of_getElem? (i := 93) rfl) rfl, List.forall_mem_cons.mpr ⟨big_2 (List.mem_of_getElem? (i := 95) rfl) rfl, List.forall_mem_cons.mpr ⟨big_2 (List.mem_of_getElem? (i := 97) rfl) rfl, fun _ h => absurd h List.not_mem_nil⟩⟩⟩⟩⟩⟩⟩⟩⟩⟩⟩⟩⟩⟩⟩
set_option maxRecDepth 100000 in
theorem wsb_7 : ∀ w ∈ u_ws RX7 TX7 6, w ∈ BIG := List.forall_mem_cons.mpr ⟨big_1 (List.mem_of_getElem? (i := 152) rfl) rfl, List.forall_mem_cons.mpr ⟨big_1 (List.mem_of_getElem? (i := 154) rfl) rfl, List.forall_mem_cons.mpr ⟨big_1 (List.mem_of_getElem? (i := 156) rfl) rfl, List.forall_mem_cons.mpr ⟨big_1 (List.mem_of_getElem? (i := 158) rfl) rfl, List.forall_mem_cons.mpr ⟨big_1 (List.mem_of_getElem? (i := 160) rfl) rfl, List.forall_mem_cons.mpr ⟨big_1 (List.mem_of_getElem? (i := 162) rfl) rfl, fun _ h => absurd h List.not_mem_nil⟩⟩⟩⟩⟩⟩
set_option maxRecDepth 100000 in
theorem wsb_8 : ∀ w ∈ u_ws RX8 TX8 2, w ∈ BIG := List.forall_mem_cons.mpr ⟨big_1 (List.mem_of_getElem? (i := 39) rfl) rfl, List.forall_mem_cons.mpr ⟨big_1 (List.mem_of_getElem? (i := 41) rfl) rfl, fun _ h => absurd h List.not_mem_nil⟩⟩
set_option maxRecDepth 100000 in
theorem wsb_9 : ∀ w ∈ u_ws RX9 TX9 10, w ∈ BIG := List.forall_mem_cons.mpr ⟨big_1 (List.mem_of_getElem? (i := 224) rfl) rfl, List.forall_mem_cons.mpr ⟨big_1 (List.mem_of_getElem? (i := 226) rfl) rfl, List.forall_mem_cons.mpr ⟨big_1 (List.mem_of_getElem? (i := 228) rfl) rfl, List.forall_mem_cons.mpr ⟨big_1 (List.mem_of_getElem? (i := 230) rfl) rfl, List.forall_mem_cons.mpr ⟨big_1 (List.mem_of_getElem? (i := 232) rfl) rfl, List.forall_mem_cons.mpr ⟨big_1 (List.mem_of_getElem? (i := 234) rfl) rfl, List.forall_mem_cons.mpr ⟨big_1 (List.mem_of_getElem? (i := 236) rfl) rfl, List.forall_mem_cons.mpr ⟨big_1 (List.mem_of_getElem? (i := 238) rfl) rfl, List.forall_mem_cons.mpr ⟨big_2 (List.mem_of_getElem? (i := 0) rfl) rfl, List.forall_mem_cons.mpr ⟨big_2 (List.mem_of_getElem? (i := 2) rfl) rfl, fun _ h => absurd h List.not_mem_nil⟩⟩⟩⟩⟩⟩⟩⟩⟩⟩
set_option maxRecDepth 100000 in
theorem wsb_10 : ∀ w ∈ u_ws RX10 TX10 16, w ∈ BIG := List.forall_mem_cons.mpr ⟨big_2 (List.mem_of_getElem? (i := 150) rfl) rfl, List.forall_mem_cons.mpr ⟨big_2 (List.mem_of_getElem? (i := 152) rfl) rfl, List.forall_mem_cons.mpr ⟨big_2 (List.mem_of_getElem? (i := 154) rfl) rfl, List.forall_mem_cons.mpr ⟨big_2 (List.mem_of_getElem? (i := 156) rfl) rfl, List.forall_mem_cons.mpr ⟨big_2 (List.mem_of_getElem? (i := 158) rfl) rfl, List.forall_mem_cons.mpr ⟨big_2 (List.mem_of_getElem? (i := 160) rfl) rfl, List.forall_mem_cons.mpr ⟨big_2 (List.mem_of_getElem? (i := 162) rfl) rfl, List.forall_mem_cons.mpr ⟨big_2 (List.mem_of_getElem? (i := 164) rfl) rfl, List.forall_mem_cons.mpr ⟨big_2 (List.mem_of_getElem? (i := 166) rfl) rfl, List.forall_mem_cons.mpr ⟨big_2 (List.mem_of_getElem? (i := 168) rfl) rfl, List.forall_mem_cons.mpr ⟨big_2 (List.mem_of_getElem? (i := 170) rfl) rfl, List.forall_mem_cons.mpr ⟨big_2 (List.mem_of_getElem? (i := 172) rfl) rfl, List.forall_mem_cons.mpr ⟨big_2 (List.mem_of_getElem? (i := 174) rfl) rfl, List.forall_mem_cons.mpr ⟨big_2 (List.mem_of_getElem? (i := 176) rfl) rfl, List.forall_mem_cons.mpr ⟨big_2 (List.mem_of_getElem? (i := 178) rfl) rfl, List.forall_mem_cons.mpr ⟨big_2 (List.mem_of_getElem? (i := 180) rfl) rfl, fun _ h => absurd h List.not_mem_nil⟩⟩⟩⟩⟩⟩⟩⟩⟩⟩⟩⟩⟩⟩⟩⟩
set_option maxRecDepth 100000 in
theorem wsb_11 : ∀ w ∈ u_ws RX11 TX11 75, w ∈ BIG := List.forall_mem_cons.mpr ⟨big_7 (List.mem_of_getElem? (i := 237) rfl) rfl, List.forall_mem_cons.mpr ⟨big_7 (List.mem_of_getElem? (i := 239) rfl) rfl, List.forall_mem_cons.mpr ⟨big_8 (List.mem_of_getElem? (i := 1) rfl) rfl, List.forall_mem_cons.mpr ⟨big_8 (List.mem_of_getElem? (i := 3) rfl) rfl, List.forall_mem_cons.mpr ⟨big_8 (List.mem_of_getElem? (i := 5) rfl) rfl, List.forall_mem_cons.mpr ⟨big_8 (List.mem_of_getElem? (i := 7) rfl) rfl, List.forall_mem_cons.mpr ⟨big_8 (List.mem_of_getElem? (i := 9) rfl) rfl, List.forall_mem_cons.mpr ⟨big_8 (List.mem_of_getElem? (i := 11) rfl) rfl, List.forall_mem_cons.mpr ⟨big_8 (List.mem_of_getElem? (i := 13) rfl) rfl, List.forall_mem_cons.mpr ⟨big_8 (List.mem_of_getElem? (i := 15) rfl) rfl, List.forall_mem_cons.mpr ⟨big_8 (List.mem_of_getElem? (i := 17) rfl) rfl, List.forall_mem_cons.mpr ⟨big_8 (List.mem_of_getElem? (i := 19) rfl) rfl, List.forall_mem_cons.mpr ⟨big_8 (List.mem_of_getElem? (i := 21) rfl) rfl, List.forall_mem_cons.mpr ⟨big_8 (List.mem_of_getElem? (i := 23) rfl) rfl, List.forall_mem_cons.mpr ⟨big_8 (List.mem_of_getElem? (i := 25) rfl) rfl, List.forall_mem_cons.mpr ⟨big_8 (List.mem_of_getElem? (i := 27) rfl) rfl, List.forall_mem_cons.mpr ⟨big_8 (List.mem_of_getElem? (i := 29) rfl) rfl, List.forall_mem_cons.mpr ⟨big_8 (List.mem_of_getElem? (i := 31) rfl) rfl, List.forall_mem_cons.mpr ⟨big_8 (List.mem_of_getElem? (i := 33) rfl) rfl, List.forall_mem_cons.mpr ⟨big_8 (List.mem_of_getElem? (i := 35) rfl) rfl, List.forall_mem_cons.mpr ⟨big_8 (List.mem_of_getElem? (i := 37) rfl) rfl, List.forall_mem_cons.mpr ⟨big_8 (List.mem_of_getElem? (i := 39) rfl) rfl, List.forall_mem_cons.mpr ⟨big_8 (List.mem_of_getElem? (i := 41) rfl) rfl, List.forall_mem_cons.mpr ⟨big_8 (List.mem_of_getElem? (i := 43) rfl) rfl, List.forall_mem_cons.mpr ⟨big_8 (List.mem_of_getElem? (i := 45) rfl) rfl, List.forall_mem_cons.mpr ⟨big_8 (List.mem_of_getElem? (i := 47) rfl) rfl, List.forall_mem_cons.mpr ⟨big_8 (List.mem_of_getElem? (i := 49) rfl) rfl, List.forall_mem_cons.mpr ⟨big_8 (List.mem_of_getElem? (i := 51) rfl) rfl, List.forall_mem_cons.mpr ⟨big_8 (List.mem_of_getElem? (i := 53) rfl) rfl, List.forall_mem_cons.mpr ⟨big_8 (List.mem_of_getElem? (i := 55) rfl) rfl, List.forall_mem_cons.mpr ⟨big_8 (List.mem_of_getElem? (i := 57) rfl) rfl, List.forall_mem_cons.mpr ⟨big_8 (List.mem_of_getElem? (i := 59) rfl) rfl, List.forall_mem_cons.mpr ⟨big_8 (List.mem_of_getElem? (i := 61) rfl) rfl, List.forall_mem_cons.mpr ⟨big_8 (List.mem_of_getElem? (i := 63) rfl) rfl, List.forall_mem_cons.mpr ⟨big_8 (List.mem_of_getElem? (i := 65) rfl) rfl, List.forall_mem_cons.mpr ⟨big_8 (List.mem_of_getElem? (i := 67) rfl) rfl, List.forall_mem_cons.mpr ⟨big_8 (List.mem_of_getElem? (i := 69) rfl) rfl, List.forall_mem_cons.mpr ⟨big_8 (List.mem_of_getElem? (i := 71) rfl) rfl, List.forall_mem_cons.mpr ⟨big_8 (List.mem_of_getElem? (i := 73) rfl) rfl, List.forall_mem_cons.mpr ⟨big_8 (List.mem_of_getElem? (i := 75) rfl) rfl, List.forall_mem_cons.mpr ⟨big_8 (List.mem_of_getElem? (i := 77) rfl) rfl, List.forall_mem_cons.mpr ⟨big_8 (List.mem_of_getElem? (i := 79) rfl) rfl, List.forall_mem_cons.mpr ⟨big_8 (List.mem_of_getElem? (i := 81) rfl) rfl, List.forall_mem_cons.mpr ⟨big_8 (List.mem_of_getElem? (i := 83) rfl) rfl, List.forall_mem_cons.mpr ⟨big_8 (List.mem_of_getElem? (i := 85) rfl) rfl, List.forall_mem_cons.mpr ⟨big_8 (List.mem_of_getElem? (i := 87) rfl) rfl, List.forall_mem_cons.mpr ⟨big_8 (List.mem_of_getElem? (i := 89) rfl) rfl, List.forall_mem_cons.mpr ⟨big_8 (List.mem_of_getElem? (i := 91) rfl) rfl, List.forall_mem_cons.mpr ⟨big_8 (List.mem_of_getElem? (i := 93) rfl) rfl, List.forall_mem_cons.mpr ⟨big_8 (List.mem_of_getElem? (i := 95) rfl) rfl, List.forall_mem_cons.mpr ⟨big_8 (List.mem_of_getElem? (i := 97) rfl) rfl, List.forall_mem_cons.mpr ⟨big_8 (List.mem_of_getElem? (i := 99) rfl) rfl, List.forall_mem_cons.mpr ⟨big_8 (List.mem_of_getElem? (i := 101) rfl) rfl, List.forall_mem_cons.mpr ⟨big_8 (List.mem_of_getElem? (i := 103) rfl) rfl, List.forall_mem_cons.mpr ⟨big_8 (List.mem_of_getElem? (i := 105) rfl) rfl, List.forall_mem_cons.mpr ⟨big_8 (List.mem_of_getElem? (i := 107) rfl) rfl, List.forall_mem_cons.mpr ⟨big_8 (List.mem_of_getElem? (i := 109) rfl) rfl, List.forall_mem_cons.mpr ⟨big_8 (List.mem_of_getElem? (i := 111) rfl) rfl, List.forall_mem_cons.mpr ⟨big_8 (List.mem_of_getElem? (i := 113) rfl) rfl, List.forall_mem_cons.mpr ⟨big_8 (List.mem_of_getElem? (i := 115) rfl) rfl, List.forall_mem_cons.mpr ⟨big_8 (List.mem_of_getElem? (i := 117) rfl) rfl, List.forall_mem_cons.mpr ⟨big_8 (List.mem_of_getElem? (i := 119) rfl) rfl, List.forall_mem_cons.mpr ⟨big_8 (List.mem_of_getElem? (i := 121) rfl) rfl, List.forall_mem_cons.mpr ⟨big_8 (List.mem_of_getElem? (i := 123) rfl) rfl, List.forall_mem_cons.mpr ⟨big_8 (List.mem_of_getElem? (i := 125) rfl) rfl, List.forall_mem_cons.mpr ⟨big_8 (List.mem_of_getElem? (i := 127) rfl) rfl, List.forall_mem_cons.mpr ⟨big_8 (List.mem_of_getElem? (i := 129) rfl) rfl, List.forall_mem_cons.mpr ⟨big_8 (List.mem_of_getElem? (i := 131) rfl) rfl, List.forall_mem_cons.mpr ⟨big_8 (List.mem_of_getElem? (i := 133) rfl) rfl, List.forall_mem_cons.mpr ⟨big_8 (List.mem_of_getElem? (i := 135) rfl) rfl, List.forall_mem_cons.mpr ⟨big_8 (List.mem_of_getElem? (i := 137) rfl) rfl, List.forall_mem_cons.mpr ⟨big_8 (List.mem_of_getElem? (i := 139) rfl) rfl, List.forall_mem_cons.mpr ⟨big_8 (List.mem_of_getElem? (i := 141) rfl) rfl, List.forall_mem_cons.mpr ⟨big_8 (List.mem_of_getElem? (i := 143) rfl) rfl, List.forall_mem_cons.mpr ⟨big_8 (List.mem_of_getElem? (i := 145) rfl) rfl, fun _ h => absurd h List.not_mem_nil⟩⟩⟩⟩⟩⟩⟩⟩⟩⟩⟩⟩⟩⟩⟩⟩⟩⟩⟩⟩⟩⟩⟩⟩⟩⟩⟩⟩⟩⟩⟩⟩⟩⟩⟩⟩⟩⟩⟩⟩⟩⟩⟩⟩⟩⟩⟩⟩⟩⟩⟩⟩⟩⟩⟩⟩⟩⟩⟩⟩⟩⟩⟩⟩⟩⟩⟩⟩⟩⟩⟩⟩⟩⟩⟩
theorem fl_0_9 : FL RX0 9 0 1 := ⟨RX0, TX0, 7, tyX0, rfl, by decide, wsb_0, big_1 (List.mem_of_getElem? (i := 175) rfl) rfl, tyX0_ok, nmX0⟩
theorem fl_0_15 : FL RX0 15 0 2 := ⟨RX0, TX0, 7, tyX0, rfl, by decide, wsb_0, big_1 (List.mem_of_getElem? (i := 177) rfl) rfl, tyX0_ok, nmX0⟩
theorem fl_0_18 : FL RX0 18 0 3 := ⟨RX0, TX0, 7, tyX0, rfl, by decide, wsb_0, big_1 (List.mem_of_getElem? (i := 179) rfl) rfl, tyX0_ok, nmX0⟩
theorem fl_0_21 : FL RX0 21 0 4 := ⟨RX0, TX0, 7, tyX0, rfl, by decide, wsb_0, big_1 (List.mem_of_getElem? (i := 181) rfl) rfl, tyX0_ok, nmX0⟩
theorem fl_0_25 : FL RX0 25 0 5 := ⟨RX0, TX0, 7, tyX0, rfl, by decide, wsb_0, big_1 (List.mem_of_getElem? (i := 183) rfl) rfl, tyX0_ok, nmX0⟩
theorem fl_0_28 : FL RX0 28 0 0 := ⟨RX0, TX0, 7, tyX0, rfl, by decide, wsb_0, big_1 (List.mem_of_getElem? (i := 172) rfl) rfl, tyX0_ok, nmX0⟩
theorem fl_0_31 : FN RX0 31 5 2 := ⟨RX5, TX5, 9, tyX5, RX10, rfl, by decide, wsb_5, nst_1 (List.mem_of_getElem? (i := 91) rfl) rfl, tyX5_ok, nmX5⟩
theorem fl_0_35 : FN RX0 35 5 3 := ⟨RX5, TX5, 9, tyX5, RX10, rfl, by decide, wsb_5, nst_1 (List.mem_of_getElem? (i := 95) rfl) rfl, tyX5_ok, nmX5⟩
theorem fl_0_41 : FL RX0 41 0 6 := ⟨RX0, TX0, 7, tyX0, rfl, by decide, wsb_0, big_1 (List.mem_of_getElem? (i := 185) rfl) rfl, tyX0_ok, nmX0⟩
theorem fl_1_9 : FL RX1 9 1 7 := ⟨RX1, TX1, 9, tyX1, rfl, by decide, wsb_1, big_2 (List.mem_of_getElem? (i := 25) rfl) rfl, tyX1_ok, nmX1⟩
theorem fl_1_15 : FL RX1 15 1 8 := ⟨RX1, TX1, 9, tyX1, rfl, by decide, wsb_1, big_2 (List.mem_of_getElem? (i := 26) rfl) rfl, tyX1_ok, nmX1⟩
theorem fl_1_18 : FL RX1 18 1 0 := ⟨RX1, TX1, 9, tyX1, rfl, by decide, wsb_1, big_2 (List.mem_of_getElem? (i := 11) rfl) rfl, tyX1_ok, nmX1⟩
theorem fl_1_22 : FL RX1 22 1 1 := ⟨RX1, TX1, 9, tyX1, rfl, by decide, wsb_1, big_2 (List.mem_of_getElem? (i := 13) rfl) rfl, tyX1_ok, nmX1⟩
theorem fl_1_25 : FL RX1 25 1 2 := ⟨RX1, TX1, 9, tyX1, rfl, by decide, wsb_1, big_2 (List.mem_of_getElem? (i := 15) rfl) rfl, tyX1_ok, nmX1⟩
theorem fl_1_28 : FL RX1 28 1 5 := ⟨RX1, TX1, 9, tyX1, rfl, by decide, wsb_1, big_2 (List.mem_of_getElem? (i := 21) rfl) rfl, tyX1_ok, nmX1⟩
theorem fl_1_31 : FL RX1 31 1 6 := ⟨RX1, TX1, 9, tyX1, rfl, by decide, wsb_1, big_2 (List.mem_of_getElem? (i := 23) rfl) rfl, tyX1_ok, nmX1⟩
theorem fl_1_34 : FL RX1 34 1 3 := ⟨RX1, TX1, 9, tyX1, rfl, by decide, wsb_1, big_2 (List.mem_of_getElem? (i := 17) rfl) rfl, tyX1_ok, nmX1⟩
theorem fl_1_37 : FL RX1 37 1 4 := ⟨RX1, TX1, 9, tyX1, rfl, by decide, wsb_1, big_2 (List.mem_of_getElem? (i := 19) rfl) rfl, tyX1_ok, nmX1⟩
theorem fl_10_12 : FL RX10 12 10 0 := ⟨RX10, TX10, 16, tyX10, rfl, by decide, wsb_10, big_2 (List.mem_of_getElem? (i := 134) rfl) rfl, tyX10_ok, nmX10⟩
theorem fl_10_19 : FL RX10 19 10 1 := ⟨RX10, TX10, 16, tyX10, rfl, by decide, wsb_10, big_2 (List.mem_of_getElem? (i := 135) rfl) rfl, tyX10_ok, nmX10⟩
theorem fl_10_26 : FL RX10 26 10 2 := ⟨RX10, TX10, 16, tyX10, rfl, by decide, wsb_10, big_2 (List.mem_of_getElem? (i := 136) rfl) rfl, tyX10_ok, nmX10⟩
theorem fl_10_33 : FL RX10 33 10 3 := ⟨RX10, TX10, 16, tyX10, rfl, by decide, wsb_10, big_2 (List.mem_of_getElem? (i := 137) rfl) rfl, tyX10_ok, nmX10⟩
theorem fl_10_40 : FL RX10 40 10 4 := ⟨RX10, TX10, 16, tyX10, rfl, by decide, wsb_10, big_2 (List.mem_of_getElem? (i := 138) rfl) rfl, tyX10_ok, nmX10⟩
theorem fl_10_47 : FL RX10 47 10 5 := ⟨RX10, TX10, 16, tyX10, rfl, by decide, wsb_10, big_2 (List.mem_of_getElem? (i := 139) rfl) rfl, tyX10_ok, nmX10⟩
theorem fl_10_54 : FL RX10 54 10 6 := ⟨RX10, TX10, 16, tyX10, rfl, by decide, wsb_10, big_2 (List.mem_of_getElem? (i := 140) rfl) rfl, tyX10_ok, nmX10⟩
theorem fl_10_61 : FL RX10 61 10 7 := ⟨RX10, TX10, 16, tyX10, rfl, by decide, wsb_10, big_2 (List.mem_of_getElem? (i := 141) rfl) rfl, tyX10_ok, nmX10⟩
theorem fl_10_67 : FL RX10 67 10 8 := ⟨RX10, TX10, 16, tyX10, rfl, by decide, wsb_10, big_2 (List.mem_of_getElem? (i := 142) rfl) rfl, tyX10_ok, nmX10⟩
theorem fl_10_71 : FL RX10 71 10 9 := ⟨RX10, TX10, 16, tyX10, rfl, by decide, wsb_10, big_2 (List.mem_of_getElem? (i := 143) rfl) rfl, tyX10_ok, nmX10⟩
theorem fl_10_75 : FL RX10 75 10 10 := ⟨RX10, TX10, 16, tyX10, rfl, by decide, wsb_10, big_2 (List.mem_of_getElem? (i := 144) rfl) rfl, tyX10_ok, nmX10⟩
theorem fl_10_78 : FL RX10 78 10 11 := ⟨RX10, TX10, 16, tyX10, rfl, by decide, wsb_10, big_2 (List.mem_of_getElem? (i := 145) rfl) rfl, tyX10_ok, nmX10⟩
theorem fl_10_81 : FL RX10 81 10 12 := ⟨RX10, TX10, 16, tyX10, rfl, by decide, wsb_10, big_2 (List.mem_of_getElem? (i := 146) rfl) rfl, tyX10_ok, nmX10⟩
theorem fl_10_84 : FL RX10 84 10 13 := ⟨RX10, TX10, 16, tyX10, rfl, by decide, wsb_10, big_2 (List.mem_of_getElem? (i := 147) rfl) rfl, tyX10_ok, nmX10⟩
theorem fl_10_87 : FL RX10 87 10 14 := ⟨RX10, TX10, 16, tyX10, rfl, by decide, wsb_10, big_2 (List.mem_of_getElem? (i := 148) rfl) rfl, tyX10_ok, nmX10⟩
theorem fl_10_116 : FN RX10 116 5 1 := ⟨RX5, TX5, 9, tyX5, RX10, rfl, by decide, wsb_5, nst_1 (List.mem_of_getElem? (i := 88) rfl) rfl, tyX5_ok, nmX5⟩
theorem fl_10_119 : FN RX10 119 5 2 := ⟨RX5, TX5, 9, tyX5, RX10, rfl, by decide, wsb_5, nst_1 (List.mem_of_getElem? (i := 92) rfl) rfl, tyX5_ok, nmX5⟩
theorem fl_10_122 : FN RX10 122 5 3 := ⟨RX5, TX5, 9, tyX5, RX10, rfl, by decide, wsb_5, nst_1 (List.mem_of_getElem? (i := 96) rfl) rfl, tyX5_ok, nmX5⟩
theorem fl_10_125 : FN RX10 125 5 4 := ⟨RX5, TX5, 9, tyX5, RX10, rfl, by decide, wsb_5, nst_1 (List.mem_of_getElem? (i := 99) rfl) rfl, tyX5_ok, nmX5⟩
theorem fl_10_128 : FN RX10 128 5 5 := ⟨RX5, TX5, 9, tyX5, RX10, rfl, by decide, wsb_5, nst_1 (List.mem_of_getElem? (i := 103) rfl) rfl, tyX5_ok, nmX5⟩
theorem fl_10_131 : FN RX10 131 5 6 := ⟨RX5, TX5, 9, tyX5, RX10, rfl, by decide, wsb_5, nst_1 (List.mem_of_getElem? (i := 105) rfl) rfl, tyX5_ok, nmX5⟩
theorem fl_10_136 : FN RX10 136 5 0 := ⟨RX5, TX5, 9, tyX5, RX10, rfl, by decide, wsb_5, nst_1 (List.mem_of_getElem? (i := 86) rfl) rfl, tyX5_ok, nmX5⟩
theorem fl_10_167 : FN RX10 167 5 7 := ⟨RX5, TX5, 9, tyX5, RX10, rfl, by decide, wsb_5, nst_1 (List.mem_of_getElem? (i := 108) rfl) rfl, tyX5_ok, nmX5⟩
theorem fl_10_170 : FN RX10 170 5 8 := ⟨RX5, TX5, 9, tyX5, RX10, rfl, by decide, wsb_5, nst_1 (List.mem_of_getElem? (i := 111) rfl) rfl, tyX5_ok, nmX5⟩
theorem fl_10_191 : FN RX10 191 7 0 := ⟨RX7, TX7, 6, tyX7, RX10, rfl, by decide, wsb_7, nst_1 (List.mem_of_getElem? (i := 139) rfl) rfl, tyX7_ok, nmX7⟩
theorem fl_10_195 : FN RX10 195 7 1 := ⟨RX7, TX7, 6, tyX7, RX10, rfl, by decide, wsb_7, nst_1 (List.mem_of_getElem? (i := 142) rfl) rfl, tyX7_ok, nmX7⟩
theorem fl_10_202 : FN RX10 202 7 2 := ⟨RX7, TX7, 6, tyX7, RX10, rfl, by decide, wsb_7, nst_1 (List.mem_of_getElem? (i := 145) rfl) rfl, tyX7_ok, nmX7⟩
theorem fl_10_206 : FN RX10 206 9 0 := ⟨RX9, TX9, 10, tyX9, RX10, rfl, by decide, wsb_9, nst_1 (List.mem_of_getElem? (i := 209) rfl) rfl, tyX9_ok, nmX9⟩
theorem fl_10_219 : FN RX10 219 1 0 := ⟨RX1, TX1, 9, tyX1, RX10, rfl, by decide, wsb_1, nst_2 (List.mem_of_getElem? (i := 12) rfl) rfl, tyX1_ok, nmX1⟩
theorem fl_10_220 : FN RX10 220 1 1 := ⟨RX1, TX1, 9, tyX1, RX10, rfl, by decide, wsb_1, nst_2 (List.mem_of_getElem? (i := 14) rfl) rfl, tyX1_ok, nmX1⟩
theorem fl_10_223 : FN RX10 223 1 2 := ⟨RX1, TX1, 9, tyX1, RX10, rfl, by decide, wsb_1, nst_2 (List.mem_of_getElem? (i := 16) rfl) rfl, tyX1_ok, nmX1⟩
theorem fl_10_226 : FN RX10 226 1 3 := ⟨RX1, TX1, 9, tyX1, RX10, rfl, by decide, wsb_1, nst_2 (List.mem_of_getElem? (i := 18) rfl) rfl, tyX1_ok, nmX1⟩
theorem fl_10_229 : FN RX10 229 1 4 := ⟨RX1, TX1, 9, tyX1, RX10, rfl, by decide, wsb_1, nst_2 (List.mem_of_getElem? (i := 20) rfl) rfl, tyX1_ok, nmX1⟩
theorem fl_10_232 : FN RX10 232 1 5 := ⟨RX1, TX1, 9, tyX1, RX10, rfl, by decide, wsb_1, nst_2 (List.mem_of_getElem? (i := 22) rfl) rfl, tyX1_ok, nmX1⟩
theorem fl_10_235 : FN RX10 235 1 6 := ⟨RX1, TX1, 9, tyX1, RX10, rfl, by decide, wsb_1, nst_2 (List.mem_of_getElem? (i := 24) rfl) rfl, tyX1_ok, nmX1⟩
theorem fl_10_268 : FN RX10 268 3 0 := ⟨RX3, TX3, 9, tyX3, RX10, rfl, by decide, wsb_3, nst_3 (List.mem_of_getElem? (i := 212) rfl) rfl, tyX3_ok, nmX3⟩
theorem fl_10_275 : FN RX10 275 3 1 := ⟨RX3, TX3, 9, tyX3, RX10, rfl, by decide, wsb_3, nst_3 (List.mem_of_getElem? (i := 213) rfl) rfl, tyX3_ok, nmX3⟩
theorem fl_10_278 : FN RX10 278 3 2 := ⟨RX3, TX3, 9, tyX3, RX10, rfl, by decide, wsb_3, nst_3 (List.mem_of_getElem? (i := 214) rfl) rfl, tyX3_ok, nmX3⟩
theorem fl_10_288 : FN RX10 288 3 3 := ⟨RX3, TX3, 9, tyX3, RX10, rfl, by decide, wsb_3, nst_3 (List.mem_of_getElem? (i := 216) rfl) rfl, tyX3_ok, nmX3⟩
theorem fl_10_291 : FL RX10 291 10 15 := ⟨RX10, TX10, 16, tyX10, rfl, by decide, wsb_10, big_2 (List.mem_of_getElem? (i := 149) rfl) rfl, tyX10_ok, nmX10⟩
theorem fl_10_314 : FN RX10 314 9 1 := ⟨RX9, TX9, 10, tyX9, RX10, rfl, by decide, wsb_9, nst_1 (List.mem_of_getElem? (i := 211) rfl) rfl, tyX9_ok, nmX9⟩
theorem fl_10_317 : FN RX10 317 9 7 := ⟨RX9, TX9, 10, tyX9, RX10, rfl, by decide, wsb_9, nst_1 (List.mem_of_getElem? (i := 219) rfl) rfl, tyX9_ok, nmX9⟩
theorem fl_10_320 : FN RX10 320 9 8 := ⟨RX9, TX9, 10, tyX9, RX10, rfl, by decide, wsb_9, nst_1 (List.mem_of_getElem? (i := 221) rfl) rfl, tyX9_ok, nmX9⟩
theorem fl_10_323 : FN RX10 323 9 6 := ⟨RX9, TX9, 10, tyX9, RX10, rfl, by decide, wsb_9, nst_1 (List.mem_of_getElem? (i := 217) rfl) rfl, tyX9_ok, nmX9⟩
theorem fl_10_326 : FN RX10 326 9 9 := ⟨RX9, TX9, 10, tyX9, RX10, rfl, by decide, wsb_9, nst_1 (List.mem_of_getElem? (i := 223) rfl) rfl, tyX9_ok, nmX9⟩
theorem fl_10_380 : FN RX10 380 6 0 := ⟨RX6, TX6, 15, tyX6, RX10, rfl, by decide, wsb_6, nst_2 (List.mem_of_getElem? (i := 53) rfl) rfl, tyX6_ok, nmX6⟩
theorem fl_10_383 : FN RX10 383 6 11 := ⟨RX6, TX6, 15, tyX6, RX10, rfl, by decide, wsb_6, nst_2 (List.mem_of_getElem? (i := 65) rfl) rfl, tyX6_ok, nmX6⟩
theorem fl_10_415 : FN RX10 415 7 3 := ⟨RX7, TX7, 6, tyX7, RX10, rfl, by decide, wsb_7, nst_1 (List.mem_of_getElem? (i := 147) rfl) rfl, tyX7_ok, nmX7⟩
theorem fl_10_419 : FN RX10 419 7 4 := ⟨RX7, TX7, 6, tyX7, RX10, rfl, by decide, wsb_7, nst_1 (List.mem_of_getElem? (i := 149) rfl) rfl, tyX7_ok, nmX7⟩
theorem fl_10_422 : FN RX10 422 7 5 := ⟨RX7, TX7, 6, tyX7, RX10, rfl, by decide, wsb_7, nst_1 (List.mem_of_getElem? (i := 151) rfl) rfl, tyX7_ok, nmX7⟩
theorem fl_10_460 : FN RX10 460 0 4 := ⟨RX0, TX0, 7, tyX0, RX10, rfl, by decide, wsb_0, nst_1 (List.mem_of_getElem? (i := 182) rfl) rfl, tyX0_ok, nmX0⟩
theorem fl_10_462 : FN RX10 462 0 5 := ⟨RX0, TX0, 7, tyX0, RX10, rfl, by decide, wsb_0, nst_1 (List.mem_of_getElem? (i := 184) rfl) rfl, tyX0_ok, nmX0⟩
theorem fl_10_467 : FN RX10 467 0 0 := ⟨RX0, TX0, 7, tyX0, RX10, rfl, by decide, wsb_0, nst_1 (List.mem_of_getElem? (i := 174) rfl) rfl, tyX0_ok, nmX0⟩
theorem fl_10_468 : FN RX10 468 0 3 := ⟨RX0, TX0, 7, tyX0, RX10, rfl, by decide, wsb_0, nst_1 (List.mem_of_getElem? (i := 180) rfl) rfl, tyX0_ok, nmX0⟩
theorem fl_10_469 : FN RX10 469 0 6 := ⟨RX0, TX0, 7, tyX0, RX10, rfl, by decide, wsb_0, nst_1 (List.mem_of_getElem? (i := 186) rfl) rfl, tyX0_ok, nmX0⟩
theorem fl_10_478 : FN RX10 478 0 2 := ⟨RX0, TX0, 7, tyX0, RX10, rfl, by decide, wsb_0, nst_1 (List.mem_of_getElem? (i := 178) rfl) rfl, tyX0_ok, nmX0⟩
theorem fl_10_485 : FN RX10 485 2 0 := ⟨RX2, TX2, 7, tyX2, RX10, rfl, by decide, wsb_2, nst_2 (List.mem_of_getElem? (i := 112) rfl) rfl, tyX2_ok, nmX2⟩
theorem fl_10_492 : FN RX10 492 8 1 := ⟨RX8, TX8, 2, tyX8, RX10, rfl, by decide, wsb_8, nst_1 (List.mem_of_getElem? (i := 38) rfl) rfl, tyX8_ok, nmX8⟩
theorem fl_10_495 : FN RX10 495 4 1 := ⟨RX4, TX4, 8, tyX4, RX10, rfl, by decide, wsb_4, nst_1 (List.mem_of_getElem? (i := 53) rfl) rfl, tyX4_ok, nmX4⟩
theorem fl_10_498 : FN RX10 498 8 0 := ⟨RX8, TX8, 2, tyX8, RX10, rfl, by decide, wsb_8, nst_1 (List.mem_of_getElem? (i := 36) rfl) rfl, tyX8_ok, nmX8⟩
theorem fl_11_3 : FL RX11 3 11 0 := ⟨RX11, TX11, 75, tyX11, rfl, by decide, wsb_11, big_7 (List.mem_of_getElem? (i := 162) rfl) rfl, tyX11_ok, nmX11⟩
theorem fl_11_7 : FL RX11 7 11 2 := ⟨RX11, TX11, 75, tyX11, rfl, by decide, wsb_11, big_7 (List.mem_of_getElem? (i := 164) rfl) rfl, tyX11_ok, nmX11⟩
theorem fl_11_11 : FL RX11 11 11 1 := ⟨RX11, TX11, 75, tyX11, rfl, by decide, wsb_11, big_7 (List.mem_of_getElem? (i := 163) rfl) rfl, tyX11_ok, nmX11⟩
theorem fl_11_22 : FL RX11 22 11 19 := ⟨RX11, TX11, 75, tyX11, rfl, by decide, wsb_11, big_7 (List.mem_of_getElem? (i := 181) rfl) rfl, tyX11_ok, nmX11⟩
theorem fl_11_25 : FL RX11 25 11 18 := ⟨RX11, TX11, 75, tyX11, rfl, by decide, wsb_11, big_7 (List.mem_of_getElem? (i := 180) rfl) rfl, tyX11_ok, nmX11⟩
theorem fl_11_33 : FL RX11 33 11 20 := ⟨RX11, TX11, 75, tyX11, rfl, by decide, wsb_11, big_7 (List.mem_of_getElem? (i := 182) rfl) rfl, tyX11_ok, nmX11⟩
theorem fl_11_36 : FL RX11 36 11 21 := ⟨RX11, TX11, 75, tyX11, rfl, by decide, wsb_11, big_7 (List.mem_of_getElem? (i := 183) rfl) rfl, tyX11_ok, nmX11⟩
theorem fl_11_59 : FL RX11 59 11 22 := ⟨RX11, TX11, 75, tyX11, rfl, by decide, wsb_11, big_7 (List.mem_of_getElem? (i := 184) rfl) rfl, tyX11_ok, nmX11⟩
theorem fl_11_63 : FL RX11 63 11 3 := ⟨RX11, TX11, 75, tyX11, rfl, by decide, wsb_11, big_7 (List.mem_of_getElem? (i := 165) rfl) rfl, tyX11_ok, nmX11⟩
theorem fl_11_66 : FL RX11 66 11 4 := ⟨RX11, TX11, 75, tyX11, rfl, by decide, wsb_11, big_7 (List.mem_of_getElem? (i := 166) rfl) rfl, tyX11_ok, nmX11⟩
theorem fl_11_69 : FL RX11 69 11 5 := ⟨RX11, TX11, 75, tyX11, rfl, by decide, wsb_11, big_7 (List.mem_of_getElem? (i := 167) rfl) rfl, tyX11_ok, nmX11⟩
theorem fl_11_76 : FL RX11 76 11 6 := ⟨RX11, TX11, 75, tyX11, rfl, by decide, wsb_11, big_7 (List.mem_of_getElem? (i := 168) rfl) rfl, tyX11_ok, nmX11⟩
theorem fl_11_79 : FL RX11 79 11 7 := ⟨RX11, TX11, 75, tyX11, rfl, by decide, wsb_11, big_7 (List.mem_of_getElem? (i := 169) rfl) rfl, tyX11_ok, nmX11⟩
theorem fl_11_82 : FL RX11 82 11 8 := ⟨RX11, TX11, 75, tyX11, rfl, by decide, wsb_11, big_7 (List.mem_of_getElem? (i := 170) rfl) rfl, tyX11_ok, nmX11⟩
theorem fl_11_85 : FL RX11 85 11 9 := ⟨RX11, TX11, 75, tyX11, rfl, by decide, wsb_11, big_7 (List.mem_of_getElem? (i := 171) rfl) rfl, tyX11_ok, nmX11⟩
theorem fl_11_88 : FL RX11 88 11 10 := ⟨RX11, TX11, 75, tyX11, rfl, by decide, wsb_11, big_7 (List.mem_of_getElem? (i := 172) rfl) rfl, tyX11_ok, nmX11⟩
theorem fl_11_91 : FL RX11 91 11 11 := ⟨RX11, TX11, 75, tyX11, rfl, by decide, wsb_11, big_7 (List.mem_of_getElem? (i := 173) rfl) rfl, tyX11_ok, nmX11⟩
theorem fl_11_94 : FL RX11 94 11 12 := ⟨RX11, TX11, 75, tyX11, rfl, by decide, wsb_11, big_7 (List.mem_of_getElem? (i := 174) rfl) rfl, tyX11_ok, nmX11⟩
theorem fl_11_97 : FL RX11 97 11 13 := ⟨RX11, TX11, 75, tyX11, rfl, by decide, wsb_11, big_7 (List.mem_of_getElem? (i := 175) rfl) rfl, tyX11_ok, nmX11⟩
theorem fl_11_101 : FL RX11 101 11 16 := ⟨RX11, TX11, 75, tyX11, rfl, by decide, wsb_11, big_7 (List.mem_of_getElem? (i := 178) rfl) rfl, tyX11_ok, nmX11⟩
theorem fl_11_104 : FL RX11 104 11 17 := ⟨RX11, TX11, 75, tyX11, rfl, by decide, wsb_11, big_7 (List.mem_of_getElem? (i := 179) rfl) rfl, tyX11_ok, nmX11⟩
theorem fl_11_135 : FL RX11 135 11 23 := ⟨RX11, TX11, 75, tyX11, rfl, by decide, wsb_11, big_7 (List.mem_of_getElem? (i := 185) rfl) rfl, tyX11_ok, nmX11⟩
theorem fl_11_146 : FL RX11 146 11 24 := ⟨RX11, TX11, 75, tyX11, rfl, by decide, wsb_11, big_7 (List.mem_of_getElem? (i := 186) rfl) rfl, tyX11_ok, nmX11⟩
theorem fl_11_149 : FL RX11 149 11 25 := ⟨RX11, TX11, 75, tyX11, rfl, by decide, wsb_11, big_7 (List.mem_of_getElem? (i := 187) rfl) rfl, tyX11_ok, nmX11⟩
theorem fl_11_152 : FL RX11 152 11 26 := ⟨RX11, TX11, 75, tyX11, rfl, by decide, wsb_11, big_7 (List.mem_of_getElem? (i := 188) rfl) rfl, tyX11_ok, nmX11⟩
theorem fl_11_155 : FL RX11 155 11 27 := ⟨RX11, TX11, 75, tyX11, rfl, by decide, wsb_11, big_7 (List.mem_of_getElem? (i := 189) rfl) rfl, tyX11_ok, nmX11⟩
theorem fl_11_158 : FL RX11 158 11 28 := ⟨RX11, TX11, 75, tyX11, rfl, by decide, wsb_11, big_7 (List.mem_of_getElem? (i := 190) rfl) rfl, tyX11_ok, nmX11⟩
theorem fl_11_161 : FL RX11 161 11 29 := ⟨RX11, TX11, 75, tyX11, rfl, by decide, wsb_11, big_7 (List.mem_of_getElem? (i := 191) rfl) rfl, tyX11_ok, nmX11⟩
theorem fl_11_166 : FL RX11 166 11 30 := ⟨RX11, TX11, 75, tyX11, rfl, by decide, wsb_11, big_7 (List.mem_of_getElem? (i := 192) rfl) rfl, tyX11_ok, nmX11⟩
theorem fl_11_187 : FL RX11 187 11 32 := ⟨RX11, TX11, 75, tyX11, rfl, by decide, wsb_11, big_7 (List.mem_of_getElem? (i := 194) rfl) rfl, tyX11_ok, nmX11⟩
theorem fl_11_190 : FL RX11 190 11 31 := ⟨RX11, TX11, 75, tyX11, rfl, by decide, wsb_11, big_7 (List.mem_of_getElem? (i := 193) rfl) rfl, tyX11_ok, nmX11⟩
theorem fl_11_193 : FL RX11 193 11 33 := ⟨RX11, TX11, 75, tyX11, rfl, by decide, wsb_11, big_7 (List.mem_of_getElem? (i := 195) rfl) rfl, tyX11_ok, nmX11⟩
theorem fl_11_196 : FL RX11 196 11 34 := ⟨RX11, TX11, 75, tyX11, rfl, by decide, wsb_11, big_7 (List.mem_of_getElem? (i := 196) rfl) rfl, tyX11_ok, nmX11⟩
theorem fl_11_199 : FL RX11 199 11 35 := ⟨RX11, TX11, 75, tyX11, rfl, by decide, wsb_11, big_7 (List.mem_of_getElem? (i := 197) rfl) rfl, tyX11_ok, nmX11⟩
theorem fl_11_202 : FL RX11 202 11 36 := ⟨RX11, TX11, 75, tyX11, rfl, by decide, wsb_11, big_7 (List.mem_of_getElem? (i := 198) rfl) rfl, tyX11_ok, nmX11⟩
theorem fl_11_205 : FL RX11 205 11 37 := ⟨RX11, TX11, 75, tyX11, rfl, by decide, wsb_11, big_7 (List.mem_of_getElem? (i := 199) rfl) rfl, tyX11_ok, nmX11⟩
theorem fl_11_223 : FL RX11 223 11 40 := ⟨RX11, TX11, 75, tyX11, rfl, by decide, wsb_11, big_7 (List.mem_of_getElem? (i := 202) rfl) rfl, tyX11_ok, nmX11⟩
theorem fl_11_227 : FL RX11 227 11 38 := ⟨RX11, TX11, 75, tyX11, rfl, by decide, wsb_11, big_7 (List.mem_of_getElem? (i := 200) rfl) rfl, tyX11_ok, nmX11⟩
theorem fl_11_230 : FL RX11 230 11 39 := ⟨RX11, TX11, 75, tyX11, rfl, by decide, wsb_11, big_7 (List.mem_of_getElem? (i := 201) rfl) rfl, tyX11_ok, nmX11⟩
theorem fl_11_237 : FL RX11 237 11 41 := ⟨RX11, TX11, 75, tyX11, rfl, by decide, wsb_11, big_7 (List.mem_of_getElem? (i := 203) rfl) rfl, tyX11_ok, nmX11⟩
theorem fl_11_240 : FL RX11 240 11 42 := ⟨RX11, TX11, 75, tyX11, rfl, by decide, wsb_11, big_7 (List.mem_of_getElem? (i := 204) rfl) rfl, tyX11_ok, nmX11⟩
theorem fl_11_243 : FL RX11 243 11 43 := ⟨RX11, TX11, 75, tyX11, rfl, by decide, wsb_11, big_7 (List.mem_of_getElem? (i := 205) rfl) rfl, tyX11_ok, nmX11⟩
theorem fl_11_260 : FL RX11 260 11 45 := ⟨RX11, TX11, 75, tyX11, rfl, by decide, wsb_11, big_7 (List.mem_of_getElem? (i := 207) rfl) rfl, tyX11_ok, nmX11⟩
theorem fl_11_273 : FL RX11 273 11 44 := ⟨RX11, TX11, 75, tyX11, rfl, by decide, wsb_11, big_7 (List.mem_of_getElem? (i := 206) rfl) rfl, tyX11_ok, nmX11⟩
theorem fl_11_301 : FL RX11 301 11 46 := ⟨RX11, TX11, 75, tyX11, rfl, by decide, wsb_11, big_7 (List.mem_of_getElem? (i := 208) rfl) rfl, tyX11_ok, nmX11⟩
theorem fl_11_304 : FL RX11 304 11 47 := ⟨RX11, TX11, 75, tyX11, rfl, by decide, wsb_11, big_7 (List.mem_of_getElem? (i := 209) rfl) rfl, tyX11_ok, nmX11⟩
theorem fl_11_315 : FL RX11 315 11 48 := ⟨RX11, TX11, 75, tyX11, rfl, by decide, wsb_11, big_7 (List.mem_of_getElem? (i := 210) rfl) rfl, tyX11_ok, nmX11⟩
theorem fl_11_318 : FL RX11 318 11 49 := ⟨RX11, TX11, 75, tyX11, rfl, by decide, wsb_11, big_7 (List.mem_of_getElem? (i := 211) rfl) rfl, tyX11_ok, nmX11⟩
theorem fl_11_329 : FL RX11 329 11 50 := ⟨RX11, TX11, 75, tyX11, rfl, by decide, wsb_11, big_7 (List.mem_of_getElem? (i := 212) rfl) rfl, tyX11_ok, nmX11⟩
theorem fl_11_342 : FL RX11 342 11 51 := ⟨RX11, TX11, 75, tyX11, rfl, by decide, wsb_11, big_7 (List.mem_of_getElem? (i := 213) rfl) rfl, tyX11_ok, nmX11⟩
theorem fl_11_345 : FL RX11 345 11 52 := ⟨RX11, TX11, 75, tyX11, rfl, by decide, wsb_11, big_7 (List.mem_of_getElem? (i := 214) rfl) rfl, tyX11_ok, nmX11⟩
theorem fl_11_352 : FL RX11 352 11 63 := ⟨RX11, TX11, 75, tyX11, rfl, by decide, wsb_11, big_7 (List.mem_of_getElem? (i := 225) rfl) rfl, tyX11_ok, nmX11⟩
theorem fl_11_355 : FL RX11 355 11 64 := ⟨RX11, TX11, 75, tyX11, rfl, by decide, wsb_11, big_7 (List.mem_of_getElem? (i := 226) rfl) rfl, tyX11_ok, nmX11⟩
theorem fl_11_364 : FL RX11 364 11 14 := ⟨RX11, TX11, 75, tyX11, rfl, by decide, wsb_11, big_7 (List.mem_of_getElem? (i := 176) rfl) rfl, tyX11_ok, nmX11⟩
theorem fl_11_367 : FL RX11 367 11 15 := ⟨RX11, TX11, 75, tyX11, rfl, by decide, wsb_11, big_7 (List.mem_of_getElem? (i := 177) rfl) rfl, tyX11_ok, nmX11⟩
theorem fl_11_370 : FL RX11 370 11 58 := ⟨RX11, TX11, 75, tyX11, rfl, by decide, wsb_11, big_7 (List.mem_of_getElem? (i := 220) rfl) rfl, tyX11_ok, nmX11⟩
theorem fl_11_377 : FL RX11 377 11 60 := ⟨RX11, TX11, 75, tyX11, rfl, by decide, wsb_11, big_7 (List.mem_of_getElem? (i := 222) rfl) rfl, tyX11_ok, nmX11⟩
theorem fl_11_380 : FL RX11 380 11 61 := ⟨RX11, TX11, 75, tyX11, rfl, by decide, wsb_11, big_7 (List.mem_of_getElem? (i := 223) rfl) rfl, tyX11_ok, nmX11⟩
theorem fl_11_383 : FL RX11 383 11 62 := ⟨RX11, TX11, 75, tyX11, rfl, by decide, wsb_11, big_7 (List.mem_of_getElem? (i := 224) rfl) rfl, tyX11_ok, nmX11⟩
theorem fl_11_386 : FL RX11 386 11 57 := ⟨RX11, TX11, 75, tyX11, rfl, by decide, wsb_11, big_7 (List.mem_of_getElem? (i := 219) rfl) rfl, tyX11_ok, nmX11⟩
theorem fl_11_389 : FL RX11 389 11 56 := ⟨RX11, TX11, 75, tyX11, rfl, by decide, wsb_11, big_7 (List.mem_of_getElem? (i := 218) rfl) rfl, tyX11_ok, nmX11⟩
theorem fl_11_392 : FL RX11 392 11 53 := ⟨RX11, TX11, 75, tyX11, rfl, by decide, wsb_11, big_7 (List.mem_of_getElem? (i := 215) rfl) rfl, tyX11_ok, nmX11⟩
theorem fl_11_395 : FL RX11 395 11 54 := ⟨RX11, TX11, 75, tyX11, rfl, by decide, wsb_11, big_7 (List.mem_of_getElem? (i := 216) rfl) rfl, tyX11_ok, nmX11⟩
theorem fl_11_398 : FL RX11 398 11 55 := ⟨RX11, TX11, 75, tyX11, rfl, by decide, wsb_11, big_7 (List.mem_of_getElem? (i := 217) rfl) rfl, tyX11_ok, nmX11⟩
theorem fl_11_401 : FL RX11 401 11 59 := ⟨RX11, TX11, 75, tyX11, rfl, by decide, wsb_11, big_7 (List.mem_of_getElem? (i := 221) rfl) rfl, tyX11_ok, nmX11⟩
theorem fl_11_421 : FL RX11 421 11 65 := ⟨RX11, TX11, 75, tyX11, rfl, by decide, wsb_11, big_7 (List.mem_of_getElem? (i := 227) rfl) rfl, tyX11_ok, nmX11⟩
theorem fl_11_445 : FL RX11 445 11 66 := ⟨RX11, TX11, 75, tyX11, rfl, by decide, wsb_11, big_7 (List.mem_of_getElem? (i := 228) rfl) rfl, tyX11_ok, nmX11⟩
theorem fl_11_456 : FL RX11 456 11 67 := ⟨RX11, TX11, 75, tyX11, rfl, by decide, wsb_11, big_7 (List.mem_of_getElem? (i := 229) rfl) rfl, tyX11_ok, nmX11⟩
theorem fl_11_459 : FL RX11 459 11 68 := ⟨RX11, TX11, 75, tyX11, rfl, by decide, wsb_11, big_7 (List.mem_of_getElem? (i := 230) rfl) rfl, tyX11_ok, nmX11⟩
theorem fl_11_471 : FL RX11 471 11 70 := ⟨RX11, TX11, 75, tyX11, rfl, by decide, wsb_11, big_7 (List.mem_of_getElem? (i := 232) rfl) rfl, tyX11_ok, nmX11⟩
theorem fl_11_474 : FL RX11 474 11 71 := ⟨RX11, TX11, 75, tyX11, rfl, by decide, wsb_11, big_7 (List.mem_of_getElem? (i := 233) rfl) rfl, tyX11_ok, nmX11⟩
theorem fl_11_477 : FL RX11 477 11 69 := ⟨RX11, TX11, 75, tyX11, rfl, by decide, wsb_11, big_7 (List.mem_of_getElem? (i := 231) rfl) rfl, tyX11_ok, nmX11⟩
theorem fl_11_486 : FL RX11 486 11 73 := ⟨RX11, TX11, 75, tyX11, rfl, by decide, wsb_11, big_7 (List.mem_of_getElem? (i := 235) rfl) rfl, tyX11_ok, nmX11⟩
theorem fl_11_489 : FL RX11 489 11 74 := ⟨RX11, TX11, 75, tyX11, rfl, by decide, wsb_11, big_7 (List.mem_of_getElem? (i := 236) rfl) rfl, tyX11_ok, nmX11⟩
theorem fl_11_492 : FL RX11 492 11 72 := ⟨RX11, TX11, 75, tyX11, rfl, by decide, wsb_11, big_7 (List.mem_of_getElem? (i := 234) rfl) rfl, tyX11_ok, nmX11⟩
theorem fl_2_9 : FL RX2 9 2 1 := ⟨RX2, TX2, 7, tyX2, rfl, by decide, wsb_2, big_2 (List.mem_of_getElem? (i := 113) rfl) rfl, tyX2_ok, nmX2⟩
theorem fl_2_15 : FL RX2 15 2 2 := ⟨RX2, TX2, 7, tyX2, rfl, by decide, wsb_2, big_2 (List.mem_of_getElem? (i := 114) rfl) rfl, tyX2_ok, nmX2⟩
theorem fl_2_21 : FL RX2 21 2 3 := ⟨RX2, TX2, 7, tyX2, rfl, by decide, wsb_2, big_2 (List.mem_of_getElem? (i := 115) rfl) rfl, tyX2_ok, nmX2⟩
theorem fl_2_28 : FL RX2 28 2 4 := ⟨RX2, TX2, 7, tyX2, rfl, by decide, wsb_2, big_2 (List.mem_of_getElem? (i := 116) rfl) rfl, tyX2_ok, nmX2⟩
theorem fl_2_32 : FL RX2 32 2 0 := ⟨RX2, TX2, 7, tyX2, rfl, by decide, wsb_2, big_2 (List.mem_of_getElem? (i := 111) rfl) rfl, tyX2_ok, nmX2⟩
theorem fl_2_36 : FN RX2 36 5 5 := ⟨RX5, TX5, 9, tyX5, RX10, rfl, by decide, wsb_5, nst_1 (List.mem_of_getElem? (i := 102) rfl) rfl, tyX5_ok, nmX5⟩
theorem fl_2_51 : FN RX2 51 5 7 := ⟨RX5, TX5, 9, tyX5, RX10, rfl, by decide, wsb_5, nst_1 (List.mem_of_getElem? (i := 107) rfl) rfl, tyX5_ok, nmX5⟩
theorem fl_2_55 : FL RX2 55 2 5 := ⟨RX2, TX2, 7, tyX2, rfl, by decide, wsb_2, big_2 (List.mem_of_getElem? (i := 117) rfl) rfl, tyX2_ok, nmX2⟩
theorem fl_2_56 : FN RX2 56 5 8 := ⟨RX5, TX5, 9, tyX5, RX10, rfl, by decide, wsb_5, nst_1 (List.mem_of_getElem? (i := 109) rfl) rfl, tyX5_ok, nmX5⟩
theorem fl_2_59 : FL RX2 59 2 6 := ⟨RX2, TX2, 7, tyX2, rfl, by decide, wsb_2, big_2 (List.mem_of_getElem? (i := 118) rfl) rfl, tyX2_ok, nmX2⟩
theorem fl_3_9 : FL RX3 9 3 3 := ⟨RX3, TX3, 9, tyX3, rfl, by decide, wsb_3, big_3 (List.mem_of_getElem? (i := 215) rfl) rfl, tyX3_ok, nmX3⟩
theorem fl_3_15 : FL RX3 15 3 4 := ⟨RX3, TX3, 9, tyX3, rfl, by decide, wsb_3, big_3 (List.mem_of_getElem? (i := 217) rfl) rfl, tyX3_ok, nmX3⟩
theorem fl_3_18 : FL RX3 18 3 5 := ⟨RX3, TX3, 9, tyX3, rfl, by decide, wsb_3, big_3 (List.mem_of_getElem? (i := 218) rfl) rfl, tyX3_ok, nmX3⟩
theorem fl_3_22 : FL RX3 22 3 6 := ⟨RX3, TX3, 9, tyX3, rfl, by decide, wsb_3, big_3 (List.mem_of_getElem? (i := 219) rfl) rfl, tyX3_ok, nmX3⟩
theorem fl_3_26 : FL RX3 26 3 7 := ⟨RX3, TX3, 9, tyX3, rfl, by decide, wsb_3, big_3 (List.mem_of_getElem? (i := 220) rfl) rfl, tyX3_ok, nmX3⟩
theorem fl_3_29 : FL RX3 29 3 8 := ⟨RX3, TX3, 9, tyX3, rfl, by decide, wsb_3, big_3 (List.mem_of_getElem? (i := 221) rfl) rfl, tyX3_ok, nmX3⟩
theorem fl_3_32 : FL RX3 32 3 0 := ⟨RX3, TX3, 9, tyX3, rfl, by decide, wsb_3, big_3 (List.mem_of_getElem? (i := 211) rfl) rfl, tyX3_ok, nmX3⟩
theorem fl_4_9 : FL RX4 9 4 0 := ⟨RX4, TX4, 8, tyX4, rfl, by decide, wsb_4, big_1 (List.mem_of_getElem? (i := 51) rfl) rfl, tyX4_ok, nmX4⟩
theorem fl_4_15 : FL RX4 15 4 1 := ⟨RX4, TX4, 8, tyX4, rfl, by decide, wsb_4, big_1 (List.mem_of_getElem? (i := 52) rfl) rfl, tyX4_ok, nmX4⟩
theorem fl_4_25 : FL RX4 25 4 2 := ⟨RX4, TX4, 8, tyX4, rfl, by decide, wsb_4, big_1 (List.mem_of_getElem? (i := 54) rfl) rfl, tyX4_ok, nmX4⟩
theorem fl_4_28 : FL RX4 28 4 3 := ⟨RX4, TX4, 8, tyX4, rfl, by decide, wsb_4, big_1 (List.mem_of_getElem? (i := 55) rfl) rfl, tyX4_ok, nmX4⟩
theorem fl_4_31 : FL RX4 31 4 5 := ⟨RX4, TX4, 8, tyX4, rfl, by decide, wsb_4, big_1 (List.mem_of_getElem? (i := 57) rfl) rfl, tyX4_ok, nmX4⟩
theorem fl_4_34 : FL RX4 34 4 6 := ⟨RX4, TX4, 8, tyX4, rfl, by decide, wsb_4, big_1 (List.mem_of_getElem? (i := 58) rfl) rfl, tyX4_ok, nmX4⟩
theorem fl_4_37 : FL RX4 37 4 7 := ⟨RX4, TX4, 8, tyX4, rfl, by decide, wsb_4, big_1 (List.mem_of_getElem? (i := 59) rfl) rfl, tyX4_ok, nmX4⟩
theorem fl_4_44 : FN RX4 44 5 0 := ⟨RX5, TX5, 9, tyX5, RX10, rfl, by decide, wsb_5, nst_1 (List.mem_of_getElem? (i := 85) rfl) rfl, tyX5_ok, nmX5⟩
theorem fl_4_49 : FN RX4 49 7 0 := ⟨RX7, TX7, 6, tyX7, RX10, rfl, by decide, wsb_7, nst_1 (List.mem_of_getElem? (i := 138) rfl) rfl, tyX7_ok, nmX7⟩
theorem fl_4_52 : FN RX4 52 0 0 := ⟨RX0, TX0, 7, tyX0, RX10, rfl, by decide, wsb_0, nst_1 (List.mem_of_getElem? (i := 173) rfl) rfl, tyX0_ok, nmX0⟩
theorem fl_4_75 : FN RX4 75 5 1 := ⟨RX5, TX5, 9, tyX5, RX10, rfl, by decide, wsb_5, nst_1 (List.mem_of_getElem? (i := 89) rfl) rfl, tyX5_ok, nmX5⟩
theorem fl_4_78 : FL RX4 78 4 4 := ⟨RX4, TX4, 8, tyX4, rfl, by decide, wsb_4, big_1 (List.mem_of_getElem? (i := 56) rfl) rfl, tyX4_ok, nmX4⟩
theorem fl_4_85 : FN RX4 85 5 2 := ⟨RX5, TX5, 9, tyX5, RX10, rfl, by decide, wsb_5, nst_1 (List.mem_of_getElem? (i := 93) rfl) rfl, tyX5_ok, nmX5⟩
theorem fl_4_88 : FN RX4 88 5 3 := ⟨RX5, TX5, 9, tyX5, RX10, rfl, by decide, wsb_5, nst_1 (List.mem_of_getElem? (i := 97) rfl) rfl, tyX5_ok, nmX5⟩
theorem fl_4_91 : FN RX4 91 5 4 := ⟨RX5, TX5, 9, tyX5, RX10, rfl, by decide, wsb_5, nst_1 (List.mem_of_getElem? (i := 100) rfl) rfl, tyX5_ok, nmX5⟩
theorem fl_4_94 : FN RX4 94 7 1 := ⟨RX7, TX7, 6, tyX7, RX10, rfl, by decide, wsb_7, nst_1 (List.mem_of_getElem? (i := 141) rfl) rfl, tyX7_ok, nmX7⟩
theorem fl_4_97 : FN RX4 97 7 2 := ⟨RX7, TX7, 6, tyX7, RX10, rfl, by decide, wsb_7, nst_1 (List.mem_of_getElem? (i := 144) rfl) rfl, tyX7_ok, nmX7⟩
theorem fl_4_100 : FN RX4 100 0 1 := ⟨RX0, TX0, 7, tyX0, RX10, rfl, by decide, wsb_0, nst_1 (List.mem_of_getElem? (i := 176) rfl) rfl, tyX0_ok, nmX0⟩
theorem fl_5_9 : FL RX5 9 5 1 := ⟨RX5, TX5, 9, tyX5, rfl, by decide, wsb_5, big_1 (List.mem_of_getElem? (i := 87) rfl) rfl, tyX5_ok, nmX5⟩
theorem fl_5_15 : FL RX5 15 5 2 := ⟨RX5, TX5, 9, tyX5, rfl, by decide, wsb_5, big_1 (List.mem_of_getElem? (i := 90) rfl) rfl, tyX5_ok, nmX5⟩
theorem fl_5_18 : FL RX5 18 5 3 := ⟨RX5, TX5, 9, tyX5, rfl, by decide, wsb_5, big_1 (List.mem_of_getElem? (i := 94) rfl) rfl, tyX5_ok, nmX5⟩
theorem fl_5_21 : FL RX5 21 5 4 := ⟨RX5, TX5, 9, tyX5, rfl, by decide, wsb_5, big_1 (List.mem_of_getElem? (i := 98) rfl) rfl, tyX5_ok, nmX5⟩
theorem fl_5_24 : FL RX5 24 5 5 := ⟨RX5, TX5, 9, tyX5, rfl, by decide, wsb_5, big_1 (List.mem_of_getElem? (i := 101) rfl) rfl, tyX5_ok, nmX5⟩
theorem fl_5_27 : FL RX5 27 5 6 := ⟨RX5, TX5, 9, tyX5, rfl, by decide, wsb_5, big_1 (List.mem_of_getElem? (i := 104) rfl) rfl, tyX5_ok, nmX5⟩
theorem fl_5_30 : FL RX5 30 5 7 := ⟨RX5, TX5, 9, tyX5, rfl, by decide, wsb_5, big_1 (List.mem_of_getElem? (i := 106) rfl) rfl, tyX5_ok, nmX5⟩
theorem fl_5_34 : FL RX5 34 5 0 := ⟨RX5, TX5, 9, tyX5, rfl, by decide, wsb_5, big_1 (List.mem_of_getElem? (i := 84) rfl) rfl, tyX5_ok, nmX5⟩
theorem fl_5_45 : FL RX5 45 5 8 := ⟨RX5, TX5, 9, tyX5, rfl, by decide, wsb_5, big_1 (List.mem_of_getElem? (i := 110) rfl) rfl, tyX5_ok, nmX5⟩
theorem fl_6_9 : FL RX6 9 6 3 := ⟨RX6, TX6, 15, tyX6, rfl, by decide, wsb_6, big_2 (List.mem_of_getElem? (i := 56) rfl) rfl, tyX6_ok, nmX6⟩
theorem fl_6_15 : FL RX6 15 6 4 := ⟨RX6, TX6, 15, tyX6, rfl, by decide, wsb_6, big_2 (List.mem_of_getElem? (i := 57) rfl) rfl, tyX6_ok, nmX6⟩
theorem fl_6_18 : FL RX6 18 6 5 := ⟨RX6, TX6, 15, tyX6, rfl, by decide, wsb_6, big_2 (List.mem_of_getElem? (i := 58) rfl) rfl, tyX6_ok, nmX6⟩
theorem fl_6_22 : FL RX6 22 6 6 := ⟨RX6, TX6, 15, tyX6, rfl, by decide, wsb_6, big_2 (List.mem_of_getElem? (i := 59) rfl) rfl, tyX6_ok, nmX6⟩
theorem fl_6_25 : FL RX6 25 6 7 := ⟨RX6, TX6, 15, tyX6, rfl, by decide, wsb_6, big_2 (List.mem_of_getElem? (i := 60) rfl) rfl, tyX6_ok, nmX6⟩
theorem fl_6_28 : FL RX6 28 6 8 := ⟨RX6, TX6, 15, tyX6, rfl, by decide, wsb_6, big_2 (List.mem_of_getElem? (i := 61) rfl) rfl, tyX6_ok, nmX6⟩
theorem fl_6_31 : FL RX6 31 6 9 := ⟨RX6, TX6, 15, tyX6, rfl, by decide, wsb_6, big_2 (List.mem_of_getElem? (i := 62) rfl) rfl, tyX6_ok, nmX6⟩
theorem fl_6_34 : FL RX6 34 6 10 := ⟨RX6, TX6, 15, tyX6, rfl, by decide, wsb_6, big_2 (List.mem_of_getElem? (i := 63) rfl) rfl, tyX6_ok, nmX6⟩
theorem fl_6_37 : FL RX6 37 6 11 := ⟨RX6, TX6, 15, tyX6, rfl, by decide, wsb_6, big_2 (List.mem_of_getElem? (i := 64) rfl) rfl, tyX6_ok, nmX6⟩
theorem fl_6_40 : FL RX6 40 6 0 := ⟨RX6, TX6, 15, tyX6, rfl, by decide, wsb_6, big_2 (List.mem_of_getElem? (i := 52) rfl) rfl, tyX6_ok, nmX6⟩
theorem fl_6_44 : FL RX6 44 6 1 := ⟨RX6, TX6, 15, tyX6, rfl, by decide, wsb_6, big_2 (List.mem_of_getElem? (i := 54) rfl) rfl, tyX6_ok, nmX6⟩
theorem fl_6_47 : FL RX6 47 6 2 := ⟨RX6, TX6, 15, tyX6, rfl, by decide, wsb_6, big_2 (List.mem_of_getElem? (i := 55) rfl) rfl, tyX6_ok, nmX6⟩
theorem fl_6_59 : FL RX6 59 6 12 := ⟨RX6, TX6, 15, tyX6, rfl, by decide, wsb_6, big_2 (List.mem_of_getElem? (i := 66) rfl) rfl, tyX6_ok, nmX6⟩
theorem fl_6_62 : FL RX6 62 6 13 := ⟨RX6, TX6, 15, tyX6, rfl, by decide, wsb_6, big_2 (List.mem_of_getElem? (i := 67) rfl) rfl, tyX6_ok, nmX6⟩
theorem fl_6_69 : FL RX6 69 6 14 := ⟨RX6, TX6, 15, tyX6, rfl, by decide, wsb_6, big_2 (List.mem_of_getElem? (i := 68) rfl) rfl, tyX6_ok, nmX6⟩
theorem fl_7_9 : FL RX7 9 7 1 := ⟨RX7, TX7, 6, tyX7, rfl, by decide, wsb_7, big_1 (List.mem_of_getElem? (i := 140) rfl) rfl, tyX7_ok, nmX7⟩
theorem fl_7_15 : FL RX7 15 7 2 := ⟨RX7, TX7, 6, tyX7, rfl, by decide, wsb_7, big_1 (List.mem_of_getElem? (i := 143) rfl) rfl, tyX7_ok, nmX7⟩
theorem fl_7_18 : FL RX7 18 7 3 := ⟨RX7, TX7, 6, tyX7, rfl, by decide, wsb_7, big_1 (List.mem_of_getElem? (i := 146) rfl) rfl, tyX7_ok, nmX7⟩
theorem fl_7_22 : FL RX7 22 7 4 := ⟨RX7, TX7, 6, tyX7, rfl, by decide, wsb_7, big_1 (List.mem_of_getElem? (i := 148) rfl) rfl, tyX7_ok, nmX7⟩
theorem fl_7_25 : FL RX7 25 7 5 := ⟨RX7, TX7, 6, tyX7, rfl, by decide, wsb_7, big_1 (List.mem_of_getElem? (i := 150) rfl) rfl, tyX7_ok, nmX7⟩
theorem fl_7_28 : FL RX7 28 7 0 := ⟨RX7, TX7, 6, tyX7, rfl, by decide, wsb_7, big_1 (List.mem_of_getElem? (i := 137) rfl) rfl, tyX7_ok, nmX7⟩
theorem fl_8_9 : FL RX8 9 8 0 := ⟨RX8, TX8, 2, tyX8, rfl, by decide, wsb_8, big_1 (List.mem_of_getElem? (i := 35) rfl) rfl, tyX8_ok, nmX8⟩
theorem fl_8_15 : FL RX8 15 8 1 := ⟨RX8, TX8, 2, tyX8, rfl, by decide, wsb_8, big_1 (List.mem_of_getElem? (i := 37) rfl) rfl, tyX8_ok, nmX8⟩
theorem fl_9_9 : FL RX9 9 9 1 := ⟨RX9, TX9, 10, tyX9, rfl, by decide, wsb_9, big_1 (List.mem_of_getElem? (i := 210) rfl) rfl, tyX9_ok, nmX9⟩
theorem fl_9_15 : FL RX9 15 9 2 := ⟨RX9, TX9, 10, tyX9, rfl, by decide, wsb_9, big_1 (List.mem_of_getElem? (i := 212) rfl) rfl, tyX9_ok, nmX9⟩
theorem fl_9_19 : FL RX9 19 9 3 := ⟨RX9, TX9, 10, tyX9, rfl, by decide, wsb_9, big_1 (List.mem_of_getElem? (i := 213) rfl) rfl, tyX9_ok, nmX9⟩
theorem fl_9_22 : FL RX9 22 9 4 := ⟨RX9, TX9, 10, tyX9, rfl, by decide, wsb_9, big_1 (List.mem_of_getElem? (i := 214) rfl) rfl, tyX9_ok, nmX9⟩
theorem fl_9_25 : FL RX9 25 9 5 := ⟨RX9, TX9, 10, tyX9, rfl, by decide, wsb_9, big_1 (List.mem_of_getElem? (i := 215) rfl) rfl, tyX9_ok, nmX9⟩
theorem fl_9_28 : FL RX9 28 9 6 := ⟨RX9, TX9, 10, tyX9, rfl, by decide, wsb_9, big_1 (List.mem_of_getElem? (i := 216) rfl) rfl, tyX9_ok, nmX9⟩
theorem fl_9_31 : FL RX9 31 9 7 := ⟨RX9, TX9, 10, tyX9, rfl, by decide, wsb_9, big_1 (List.mem_of_getElem? (i := 218) rfl) rfl, tyX9_ok, nmX9⟩
theorem fl_9_34 : FL RX9 34 9 8 := ⟨RX9, TX9, 10, tyX9, rfl, by decide, wsb_9, big_1 (List.mem_of_getElem? (i := 220) rfl) rfl, tyX9_ok, nmX9⟩
theorem fl_9_37 : FL RX9 37 9 9 := ⟨RX9, TX9, 10, tyX9, rfl, by decide, wsb_9, big_1 (List.mem_of_getElem? (i := 222) rfl) rfl, tyX9_ok, nmX9⟩
theorem fl_9_44 : FL RX9 44 9 0 := ⟨RX9, TX9, 10, tyX9, rfl, by decide, wsb_9, big_1 (List.mem_of_getElem? (i := 208) rfl) rfl, tyX9_ok, nmX9⟩
theorem oi_0 : Cond.methodLink RX0 3 Lib.objectInit ∈ BIG := big_1 (List.mem_of_getElem? (i := 171) rfl) rfl
theorem cd_X0_seatFrom : Cond.code yX0_seatFrom cX0_seatFrom 8 none ∈ BIG := big_5 (List.mem_of_getElem? (i := 71) rfl) rfl
theorem k_0_45 : LkV RX0 45 RX0 yX0_seatFrom cX0_seatFrom 8 none 5 := ⟨big_5 (List.mem_of_getElem? (i := 68) rfl) rfl, big_5 (List.mem_of_getElem? (i := 70) rfl) rfl, big_0 (List.mem_of_getElem? (i := 43) rfl) rfl, big_1 (List.mem_of_getElem? (i := 6) rfl) rfl, cd_X0_seatFrom, rfl, by decide, by decide, by decide⟩
theorem cd_X10_sizeOf : Cond.code yX10_sizeOf cX10_sizeOf 4 (some .long) ∈ BIG := big_3 (List.mem_of_getElem? (i := 93) rfl) rfl
theorem k_0_49 : LnS RX0 49 yX10_sizeOf cX10_sizeOf 4 (some .long) 2 := ⟨⟨RX10, nst_5 (List.mem_of_getElem? (i := 72) rfl) rfl⟩, big_3 (List.mem_of_getElem? (i := 92) rfl) rfl, big_1 (List.mem_of_getElem? (i := 1) rfl) rfl, cd_X10_sizeOf, by decide, by decide, by decide⟩
theorem cd_X10_copy : Cond.code yX10_copy cX10_copy 3 none ∈ BIG := big_5 (List.mem_of_getElem? (i := 75) rfl) rfl
theorem k_0_53 : LnS RX0 53 yX10_copy cX10_copy 3 none 2 := ⟨⟨RX10, nst_5 (List.mem_of_getElem? (i := 73) rfl) rfl⟩, big_5 (List.mem_of_getElem? (i := 74) rfl) rfl, big_1 (List.mem_of_getElem? (i := 1) rfl) rfl, cd_X10_copy, by decide, by decide, by decide⟩
theorem cd_X0_moved : Cond.code yX0_moved cX0_moved 4 (some .int) ∈ BIG := big_5 (List.mem_of_getElem? (i := 88) rfl) rfl
theorem k_0_57 : LkV RX0 57 RX0 yX0_moved cX0_moved 4 (some .int) 3 := ⟨big_5 (List.mem_of_getElem? (i := 85) rfl) rfl, big_5 (List.mem_of_getElem? (i := 87) rfl) rfl, big_0 (List.mem_of_getElem? (i := 44) rfl) rfl, big_1 (List.mem_of_getElem? (i := 6) rfl) rfl, cd_X0_moved, rfl, by decide, by decide, by decide⟩
theorem oi_1 : Cond.methodLink RX1 3 Lib.objectInit ∈ BIG := big_2 (List.mem_of_getElem? (i := 10) rfl) rfl
theorem cd_J9_min_7cf53 : Cond.code yJ9_min_7cf53 cJ9_min_7cf53 2 (some .int) ∈ BIG := big_2 (List.mem_of_getElem? (i := 209) rfl) rfl
theorem k_1_40 : LkS RX1 40 yJ9_min_7cf53 cJ9_min_7cf53 2 (some .int) 2 := ⟨big_3 (List.mem_of_getElem? (i := 159) rfl) rfl, big_2 (List.mem_of_getElem? (i := 208) rfl) rfl, big_1 (List.mem_of_getElem? (i := 12) rfl) rfl, cd_J9_min_7cf53, by decide, by decide, by decide⟩
theorem cd_J9_max_7cf53 : Cond.code yJ9_max_7cf53 cJ9_max_7cf53 2 (some .int) ∈ BIG := big_3 (List.mem_of_getElem? (i := 28) rfl) rfl
theorem k_1_46 : LkS RX1 46 yJ9_max_7cf53 cJ9_max_7cf53 2 (some .int) 2 := ⟨big_3 (List.mem_of_getElem? (i := 160) rfl) rfl, big_3 (List.mem_of_getElem? (i := 27) rfl) rfl, big_1 (List.mem_of_getElem? (i := 12) rfl) rfl, cd_J9_max_7cf53, by decide, by decide, by decide⟩
theorem k_1_51 : LnS RX1 51 yX10_sizeOf cX10_sizeOf 4 (some .long) 2 := ⟨⟨RX10, nst_3 (List.mem_of_getElem? (i := 170) rfl) rfl⟩, big_3 (List.mem_of_getElem? (i := 92) rfl) rfl, big_1 (List.mem_of_getElem? (i := 1) rfl) rfl, cd_X10_sizeOf, by decide, by decide, by decide⟩
theorem cd_J9_max_f86c9 : Cond.code yJ9_max_f86c9 cJ9_max_f86c9 4 (some .long) ∈ BIG := big_3 (List.mem_of_getElem? (i := 173) rfl) rfl
theorem k_1_55 : LkS RX1 55 yJ9_max_f86c9 cJ9_max_f86c9 4 (some .long) 2 := ⟨big_3 (List.mem_of_getElem? (i := 171) rfl) rfl, big_3 (List.mem_of_getElem? (i := 172) rfl) rfl, big_1 (List.mem_of_getElem? (i := 12) rfl) rfl, cd_J9_max_f86c9, by decide, by decide, by decide⟩
theorem oi_10 : Cond.methodLink RX10 3 Lib.objectInit ∈ BIG := big_1 (List.mem_of_getElem? (i := 26) rfl) rfl
theorem cd_X8_init : Cond.code yX8_init cX8_init 1 none ∈ BIG := big_1 (List.mem_of_getElem? (i := 33) rfl) rfl
theorem k_10_11 : LnI RX10 11 yX8_init cX8_init 1 0 := ⟨⟨RX10, nst_1 (List.mem_of_getElem? (i := 31) rfl) rfl⟩, big_1 (List.mem_of_getElem? (i := 32) rfl) rfl, big_1 (List.mem_of_getElem? (i := 2) rfl) rfl, cd_X8_init, rfl, by decide, by decide, by decide⟩
theorem cd_X4_init : Cond.code yX4_init cX4_init 1 none ∈ BIG := big_1 (List.mem_of_getElem? (i := 49) rfl) rfl
theorem k_10_18 : LnI RX10 18 yX4_init cX4_init 1 0 := ⟨⟨RX10, nst_1 (List.mem_of_getElem? (i := 47) rfl) rfl⟩, big_1 (List.mem_of_getElem? (i := 48) rfl) rfl, big_1 (List.mem_of_getElem? (i := 3) rfl) rfl, cd_X4_init, rfl, by decide, by decide, by decide⟩
theorem cd_X5_init : Cond.code yX5_init cX5_init 1 none ∈ BIG := big_1 (List.mem_of_getElem? (i := 82) rfl) rfl
theorem k_10_25 : LnI RX10 25 yX5_init cX5_init 1 0 := ⟨⟨RX10, nst_1 (List.mem_of_getElem? (i := 80) rfl) rfl⟩, big_1 (List.mem_of_getElem? (i := 81) rfl) rfl, big_1 (List.mem_of_getElem? (i := 4) rfl) rfl, cd_X5_init, rfl, by decide, by decide, by decide⟩
theorem cd_X7_init : Cond.code yX7_init cX7_init 1 none ∈ BIG := big_1 (List.mem_of_getElem? (i := 135) rfl) rfl
theorem k_10_32 : LnI RX10 32 yX7_init cX7_init 1 0 := ⟨⟨RX10, nst_1 (List.mem_of_getElem? (i := 133) rfl) rfl⟩, big_1 (List.mem_of_getElem? (i := 134) rfl) rfl, big_1 (List.mem_of_getElem? (i := 5) rfl) rfl, cd_X7_init, rfl, by decide, by decide, by decide⟩
theorem cd_X0_init : Cond.code yX0_init cX0_init 1 none ∈ BIG := big_1 (List.mem_of_getElem? (i := 170) rfl) rfl
theorem k_10_39 : LnI RX10 39 yX0_init cX0_init 1 0 := ⟨⟨RX10, nst_1 (List.mem_of_getElem? (i := 168) rfl) rfl⟩, big_1 (List.mem_of_getElem? (i := 169) rfl) rfl, big_1 (List.mem_of_getElem? (i := 6) rfl) rfl, cd_X0_init, rfl, by decide, by decide, by decide⟩
theorem cd_X9_init : Cond.code yX9_init cX9_init 1 none ∈ BIG := big_1 (List.mem_of_getElem? (i := 206) rfl) rfl
theorem k_10_46 : LnI RX10 46 yX9_init cX9_init 1 0 := ⟨⟨RX10, nst_1 (List.mem_of_getElem? (i := 204) rfl) rfl⟩, big_1 (List.mem_of_getElem? (i := 205) rfl) rfl, big_1 (List.mem_of_getElem? (i := 7) rfl) rfl, cd_X9_init, rfl, by decide, by decide, by decide⟩
theorem cd_X1_init : Cond.code yX1_init cX1_init 1 none ∈ BIG := big_2 (List.mem_of_getElem? (i := 9) rfl) rfl
theorem k_10_53 : LnI RX10 53 yX1_init cX1_init 1 0 := ⟨⟨RX10, nst_2 (List.mem_of_getElem? (i := 7) rfl) rfl⟩, big_2 (List.mem_of_getElem? (i := 8) rfl) rfl, big_1 (List.mem_of_getElem? (i := 8) rfl) rfl, cd_X1_init, rfl, by decide, by decide, by decide⟩
theorem cd_X6_init : Cond.code yX6_init cX6_init 1 none ∈ BIG := big_2 (List.mem_of_getElem? (i := 50) rfl) rfl
theorem k_10_60 : LnI RX10 60 yX6_init cX6_init 1 0 := ⟨⟨RX10, nst_2 (List.mem_of_getElem? (i := 48) rfl) rfl⟩, big_2 (List.mem_of_getElem? (i := 49) rfl) rfl, big_1 (List.mem_of_getElem? (i := 9) rfl) rfl, cd_X6_init, rfl, by decide, by decide, by decide⟩
theorem cd_X2_init : Cond.code yX2_init cX2_init 1 none ∈ BIG := big_2 (List.mem_of_getElem? (i := 105) rfl) rfl
theorem k_10_90 : LnI RX10 90 yX2_init cX2_init 1 0 := ⟨⟨RX10, nst_2 (List.mem_of_getElem? (i := 103) rfl) rfl⟩, big_2 (List.mem_of_getElem? (i := 104) rfl) rfl, big_1 (List.mem_of_getElem? (i := 10) rfl) rfl, cd_X2_init, rfl, by decide, by decide, by decide⟩
theorem cd_X4_append : Cond.code yX4_append cX4_append 3 (some .int) ∈ BIG := big_2 (List.mem_of_getElem? (i := 190) rfl) rfl
theorem k_10_91 : LkV RX10 91 RX4 yX4_append cX4_append 3 (some .int) 1 := ⟨big_2 (List.mem_of_getElem? (i := 187) rfl) rfl, big_2 (List.mem_of_getElem? (i := 188) rfl) rfl, big_2 (List.mem_of_getElem? (i := 189) rfl) rfl, big_1 (List.mem_of_getElem? (i := 3) rfl) rfl, cd_X4_append, rfl, by decide, by decide, by decide⟩
theorem cd_X4_cutTo : Cond.code yX4_cutTo cX4_cutTo 2 (some .boolean) ∈ BIG := big_2 (List.mem_of_getElem? (i := 198) rfl) rfl
theorem k_10_95 : LkV RX10 95 RX4 yX4_cutTo cX4_cutTo 2 (some .boolean) 1 := ⟨big_2 (List.mem_of_getElem? (i := 195) rfl) rfl, big_2 (List.mem_of_getElem? (i := 196) rfl) rfl, big_2 (List.mem_of_getElem? (i := 197) rfl) rfl, big_1 (List.mem_of_getElem? (i := 3) rfl) rfl, cd_X4_cutTo, rfl, by decide, by decide, by decide⟩
theorem cd_X4_readLines : Cond.code yX4_readLines cX4_readLines 5 (some .int) ∈ BIG := big_2 (List.mem_of_getElem? (i := 206) rfl) rfl
theorem k_10_99 : LkV RX10 99 RX4 yX4_readLines cX4_readLines 5 (some .int) 3 := ⟨big_2 (List.mem_of_getElem? (i := 203) rfl) rfl, big_2 (List.mem_of_getElem? (i := 204) rfl) rfl, big_2 (List.mem_of_getElem? (i := 205) rfl) rfl, big_1 (List.mem_of_getElem? (i := 3) rfl) rfl, cd_X4_readLines, rfl, by decide, by decide, by decide⟩
theorem cd_X4_empty : Cond.code yX4_empty cX4_empty 1 none ∈ BIG := big_3 (List.mem_of_getElem? (i := 5) rfl) rfl
theorem k_10_103 : LkV RX10 103 RX4 yX4_empty cX4_empty 1 none 0 := ⟨big_3 (List.mem_of_getElem? (i := 2) rfl) rfl, big_3 (List.mem_of_getElem? (i := 3) rfl) rfl, big_3 (List.mem_of_getElem? (i := 4) rfl) rfl, big_1 (List.mem_of_getElem? (i := 3) rfl) rfl, cd_X4_empty, rfl, by decide, by decide, by decide⟩
theorem cd_X5_isHole : Cond.code yX5_isHole cX5_isHole 2 (some .boolean) ∈ BIG := big_3 (List.mem_of_getElem? (i := 13) rfl) rfl
theorem k_10_106 : LkV RX10 106 RX5 yX5_isHole cX5_isHole 2 (some .boolean) 1 := ⟨big_3 (List.mem_of_getElem? (i := 10) rfl) rfl, big_3 (List.mem_of_getElem? (i := 11) rfl) rfl, big_3 (List.mem_of_getElem? (i := 12) rfl) rfl, big_1 (List.mem_of_getElem? (i := 4) rfl) rfl, cd_X5_isHole, rfl, by decide, by decide, by decide⟩
theorem cd_X10_entryOf : Cond.code yX10_entryOf cX10_entryOf 2 (some .int) ∈ BIG := big_3 (List.mem_of_getElem? (i := 24) rfl) rfl
theorem k_10_140 : LkS RX10 140 yX10_entryOf cX10_entryOf 2 (some .int) 2 := ⟨big_3 (List.mem_of_getElem? (i := 22) rfl) rfl, big_3 (List.mem_of_getElem? (i := 23) rfl) rfl, big_1 (List.mem_of_getElem? (i := 1) rfl) rfl, cd_X10_entryOf, by decide, by decide, by decide⟩
theorem k_10_144 : LkS RX10 144 yJ9_min_7cf53 cJ9_min_7cf53 2 (some .int) 2 := ⟨big_3 (List.mem_of_getElem? (i := 25) rfl) rfl, big_2 (List.mem_of_getElem? (i := 208) rfl) rfl, big_1 (List.mem_of_getElem? (i := 12) rfl) rfl, cd_J9_min_7cf53, by decide, by decide, by decide⟩
theorem k_10_149 : LkS RX10 149 yJ9_max_7cf53 cJ9_max_7cf53 2 (some .int) 2 := ⟨big_3 (List.mem_of_getElem? (i := 26) rfl) rfl, big_3 (List.mem_of_getElem? (i := 27) rfl) rfl, big_1 (List.mem_of_getElem? (i := 12) rfl) rfl, cd_J9_max_7cf53, by decide, by decide, by decide⟩
theorem cd_X5_ouncesInAll : Cond.code yX5_ouncesInAll cX5_ouncesInAll 3 (some .int) ∈ BIG := big_3 (List.mem_of_getElem? (i := 32) rfl) rfl
theorem k_10_152 : LkV RX10 152 RX5 yX5_ouncesInAll cX5_ouncesInAll 3 (some .int) 0 := ⟨big_3 (List.mem_of_getElem? (i := 29) rfl) rfl, big_3 (List.mem_of_getElem? (i := 30) rfl) rfl, big_3 (List.mem_of_getElem? (i := 31) rfl) rfl, big_1 (List.mem_of_getElem? (i := 4) rfl) rfl, cd_X5_ouncesInAll, rfl, by decide, by decide, by decide⟩
theorem cd_X10_isOneOfTwo : Cond.code yX10_isOneOfTwo cX10_isOneOfTwo 1 (some .boolean) ∈ BIG := big_3 (List.mem_of_getElem? (i := 39) rfl) rfl
theorem k_10_156 : LkS RX10 156 yX10_isOneOfTwo cX10_isOneOfTwo 1 (some .boolean) 1 := ⟨big_3 (List.mem_of_getElem? (i := 37) rfl) rfl, big_3 (List.mem_of_getElem? (i := 38) rfl) rfl, big_1 (List.mem_of_getElem? (i := 1) rfl) rfl, cd_X10_isOneOfTwo, by decide, by decide, by decide⟩
theorem cd_X10_isWithin : Cond.code yX10_isWithin cX10_isWithin 2 (some .boolean) ∈ BIG := big_3 (List.mem_of_getElem? (i := 42) rfl) rfl
theorem k_10_159 : LkS RX10 159 yX10_isWithin cX10_isWithin 2 (some .boolean) 2 := ⟨big_3 (List.mem_of_getElem? (i := 40) rfl) rfl, big_3 (List.mem_of_getElem? (i := 41) rfl) rfl, big_1 (List.mem_of_getElem? (i := 1) rfl) rfl, cd_X10_isWithin, by decide, by decide, by decide⟩
theorem cd_X10_setMass : Cond.code yX10_setMass cX10_setMass 4 (some .boolean) ∈ BIG := big_3 (List.mem_of_getElem? (i := 49) rfl) rfl
theorem k_10_163 : LkS RX10 163 yX10_setMass cX10_setMass 4 (some .boolean) 4 := ⟨big_3 (List.mem_of_getElem? (i := 47) rfl) rfl, big_3 (List.mem_of_getElem? (i := 48) rfl) rfl, big_1 (List.mem_of_getElem? (i := 1) rfl) rfl, cd_X10_setMass, by decide, by decide, by decide⟩
theorem cd_X7_isSpeed : Cond.code yX7_isSpeed cX7_isSpeed 2 (some .boolean) ∈ BIG := big_3 (List.mem_of_getElem? (i := 65) rfl) rfl
theorem k_10_173 : LkV RX10 173 RX7 yX7_isSpeed cX7_isSpeed 2 (some .boolean) 1 := ⟨big_3 (List.mem_of_getElem? (i := 62) rfl) rfl, big_3 (List.mem_of_getElem? (i := 63) rfl) rfl, big_3 (List.mem_of_getElem? (i := 64) rfl) rfl, big_1 (List.mem_of_getElem? (i := 5) rfl) rfl, cd_X7_isSpeed, rfl, by decide, by decide, by decide⟩
theorem cd_X10_feltTruly : Cond.code yX10_feltTruly cX10_feltTruly 7 (some .int) ∈ BIG := big_3 (List.mem_of_getElem? (i := 69) rfl) rfl
theorem k_10_176 : LkV RX10 176 RX10 yX10_feltTruly cX10_feltTruly 7 (some .int) 3 := ⟨big_3 (List.mem_of_getElem? (i := 66) rfl) rfl, big_3 (List.mem_of_getElem? (i := 68) rfl) rfl, big_0 (List.mem_of_getElem? (i := 8) rfl) rfl, big_1 (List.mem_of_getElem? (i := 1) rfl) rfl, cd_X10_feltTruly, rfl, by decide, by decide, by decide⟩
theorem cd_X8_start : Cond.code yX8_start cX8_start 1 none ∈ BIG := big_3 (List.mem_of_getElem? (i := 86) rfl) rfl
theorem k_10_180 : LkV RX10 180 RX8 yX8_start cX8_start 1 none 0 := ⟨big_3 (List.mem_of_getElem? (i := 83) rfl) rfl, big_3 (List.mem_of_getElem? (i := 84) rfl) rfl, big_3 (List.mem_of_getElem? (i := 85) rfl) rfl, big_1 (List.mem_of_getElem? (i := 2) rfl) rfl, cd_X8_start, rfl, by decide, by decide, by decide⟩
theorem cd_X8_add : Cond.code yX8_add cX8_add 3 none ∈ BIG := big_3 (List.mem_of_getElem? (i := 90) rfl) rfl
theorem k_10_183 : LkV RX10 183 RX8 yX8_add cX8_add 3 none 1 := ⟨big_3 (List.mem_of_getElem? (i := 87) rfl) rfl, big_3 (List.mem_of_getElem? (i := 88) rfl) rfl, big_3 (List.mem_of_getElem? (i := 89) rfl) rfl, big_1 (List.mem_of_getElem? (i := 2) rfl) rfl, cd_X8_add, rfl, by decide, by decide, by decide⟩
theorem k_10_187 : LkS RX10 187 yX10_sizeOf cX10_sizeOf 4 (some .long) 2 := ⟨big_3 (List.mem_of_getElem? (i := 91) rfl) rfl, big_3 (List.mem_of_getElem? (i := 92) rfl) rfl, big_1 (List.mem_of_getElem? (i := 1) rfl) rfl, cd_X10_sizeOf, by decide, by decide, by decide⟩
theorem cd_X5_leadWithPound : Cond.code yX5_leadWithPound cX5_leadWithPound 4 (some .int) ∈ BIG := big_3 (List.mem_of_getElem? (i := 73) rfl) rfl
theorem k_10_192 : LkV RX10 192 RX5 yX5_leadWithPound cX5_leadWithPound 4 (some .int) 2 := ⟨big_3 (List.mem_of_getElem? (i := 70) rfl) rfl, big_3 (List.mem_of_getElem? (i := 71) rfl) rfl, big_3 (List.mem_of_getElem? (i := 72) rfl) rfl, big_1 (List.mem_of_getElem? (i := 4) rfl) rfl, cd_X5_leadWithPound, rfl, by decide, by decide, by decide⟩
theorem cd_X10_besides : Cond.code yX10_besides cX10_besides 4 (some .int) ∈ BIG := big_3 (List.mem_of_getElem? (i := 82) rfl) rfl
theorem k_10_198 : LkV RX10 198 RX10 yX10_besides cX10_besides 4 (some .int) 3 := ⟨big_3 (List.mem_of_getElem? (i := 79) rfl) rfl, big_3 (List.mem_of_getElem? (i := 81) rfl) rfl, big_0 (List.mem_of_getElem? (i := 9) rfl) rfl, big_1 (List.mem_of_getElem? (i := 1) rfl) rfl, cd_X10_besides, rfl, by decide, by decide, by decide⟩
theorem cd_X9_addWhole : Cond.code yX9_addWhole cX9_addWhole 7 (some .int) ∈ BIG := big_3 (List.mem_of_getElem? (i := 106) rfl) rfl
theorem k_10_207 : LkV RX10 207 RX9 yX9_addWhole cX9_addWhole 7 (some .int) 5 := ⟨big_3 (List.mem_of_getElem? (i := 103) rfl) rfl, big_3 (List.mem_of_getElem? (i := 104) rfl) rfl, big_3 (List.mem_of_getElem? (i := 105) rfl) rfl, big_1 (List.mem_of_getElem? (i := 7) rfl) rfl, cd_X9_addWhole, rfl, by decide, by decide, by decide⟩
theorem cd_X9_addMuch : Cond.code yX9_addMuch cX9_addMuch 6 (some .int) ∈ BIG := big_3 (List.mem_of_getElem? (i := 120) rfl) rfl
theorem k_10_212 : LkV RX10 212 RX9 yX9_addMuch cX9_addMuch 6 (some .int) 4 := ⟨big_3 (List.mem_of_getElem? (i := 117) rfl) rfl, big_3 (List.mem_of_getElem? (i := 118) rfl) rfl, big_3 (List.mem_of_getElem? (i := 119) rfl) rfl, big_1 (List.mem_of_getElem? (i := 7) rfl) rfl, cd_X9_addMuch, rfl, by decide, by decide, by decide⟩
theorem cd_X10_gatherSpan : Cond.code yX10_gatherSpan cX10_gatherSpan 3 none ∈ BIG := big_3 (List.mem_of_getElem? (i := 132) rfl) rfl
theorem k_10_216 : LkV RX10 216 RX10 yX10_gatherSpan cX10_gatherSpan 3 none 0 := ⟨big_3 (List.mem_of_getElem? (i := 129) rfl) rfl, big_3 (List.mem_of_getElem? (i := 131) rfl) rfl, big_0 (List.mem_of_getElem? (i := 11) rfl) rfl, big_1 (List.mem_of_getElem? (i := 1) rfl) rfl, cd_X10_gatherSpan, rfl, by decide, by decide, by decide⟩
theorem cd_X1_widest : Cond.code yX1_widest cX1_widest 5 (some .long) ∈ BIG := big_3 (List.mem_of_getElem? (i := 168) rfl) rfl
theorem k_10_238 : LkV RX10 238 RX1 yX1_widest cX1_widest 5 (some .long) 0 := ⟨big_3 (List.mem_of_getElem? (i := 165) rfl) rfl, big_3 (List.mem_of_getElem? (i := 166) rfl) rfl, big_3 (List.mem_of_getElem? (i := 167) rfl) rfl, big_1 (List.mem_of_getElem? (i := 8) rfl) rfl, cd_X1_widest, rfl, by decide, by decide, by decide⟩
theorem cd_X10_prepareTrials : Cond.code yX10_prepareTrials cX10_prepareTrials 3 none ∈ BIG := big_3 (List.mem_of_getElem? (i := 136) rfl) rfl
theorem k_10_242 : LkV RX10 242 RX10 yX10_prepareTrials cX10_prepareTrials 3 none 0 := ⟨big_3 (List.mem_of_getElem? (i := 133) rfl) rfl, big_3 (List.mem_of_getElem? (i := 135) rfl) rfl, big_0 (List.mem_of_getElem? (i := 12) rfl) rfl, big_1 (List.mem_of_getElem? (i := 1) rfl) rfl, cd_X10_prepareTrials, rfl, by decide, by decide, by decide⟩
theorem cd_X1_start : Cond.code yX1_start cX1_start 1 none ∈ BIG := big_3 (List.mem_of_getElem? (i := 144) rfl) rfl
theorem k_10_245 : LkV RX10 245 RX1 yX1_start cX1_start 1 none 0 := ⟨big_3 (List.mem_of_getElem? (i := 141) rfl) rfl, big_3 (List.mem_of_getElem? (i := 142) rfl) rfl, big_3 (List.mem_of_getElem? (i := 143) rfl) rfl, big_1 (List.mem_of_getElem? (i := 8) rfl) rfl, cd_X1_start, rfl, by decide, by decide, by decide⟩
theorem cd_X9_firstAgainst : Cond.code yX9_firstAgainst cX9_firstAgainst 4 (some .int) ∈ BIG := big_3 (List.mem_of_getElem? (i := 148) rfl) rfl
theorem k_10_246 : LkV RX10 246 RX9 yX9_firstAgainst cX9_firstAgainst 4 (some .int) 2 := ⟨big_3 (List.mem_of_getElem? (i := 145) rfl) rfl, big_3 (List.mem_of_getElem? (i := 146) rfl) rfl, big_3 (List.mem_of_getElem? (i := 147) rfl) rfl, big_1 (List.mem_of_getElem? (i := 7) rfl) rfl, cd_X9_firstAgainst, rfl, by decide, by decide, by decide⟩
theorem cd_X1_take : Cond.code yX1_take cX1_take 3 none ∈ BIG := big_3 (List.mem_of_getElem? (i := 158) rfl) rfl
theorem k_10_249 : LkV RX10 249 RX1 yX1_take cX1_take 3 none 2 := ⟨big_3 (List.mem_of_getElem? (i := 155) rfl) rfl, big_3 (List.mem_of_getElem? (i := 156) rfl) rfl, big_3 (List.mem_of_getElem? (i := 157) rfl) rfl, big_1 (List.mem_of_getElem? (i := 8) rfl) rfl, cd_X1_take, rfl, by decide, by decide, by decide⟩
theorem cd_X9_allAgainst : Cond.code yX9_allAgainst cX9_allAgainst 7 (some .int) ∈ BIG := big_3 (List.mem_of_getElem? (i := 185) rfl) rfl
theorem k_10_253 : LkV RX10 253 RX9 yX9_allAgainst cX9_allAgainst 7 (some .int) 3 := ⟨big_3 (List.mem_of_getElem? (i := 182) rfl) rfl, big_3 (List.mem_of_getElem? (i := 183) rfl) rfl, big_3 (List.mem_of_getElem? (i := 184) rfl) rfl, big_1 (List.mem_of_getElem? (i := 7) rfl) rfl, cd_X9_allAgainst, rfl, by decide, by decide, by decide⟩
theorem cd_J6_bitCount_0f7a4 : Cond.code yJ6_bitCount_0f7a4 cJ6_bitCount_0f7a4 1 (some .int) ∈ BIG := big_3 (List.mem_of_getElem? (i := 188) rfl) rfl
theorem k_10_256 : LkS RX10 256 yJ6_bitCount_0f7a4 cJ6_bitCount_0f7a4 1 (some .int) 1 := ⟨big_3 (List.mem_of_getElem? (i := 186) rfl) rfl, big_3 (List.mem_of_getElem? (i := 187) rfl) rfl, big_1 (List.mem_of_getElem? (i := 18) rfl) rfl, cd_J6_bitCount_0f7a4, by decide, by decide, by decide⟩
theorem cd_X5_hasHoleOf : Cond.code yX5_hasHoleOf cX5_hasHoleOf 3 (some .boolean) ∈ BIG := big_3 (List.mem_of_getElem? (i := 199) rfl) rfl
theorem k_10_261 : LkV RX10 261 RX5 yX5_hasHoleOf cX5_hasHoleOf 3 (some .boolean) 1 := ⟨big_3 (List.mem_of_getElem? (i := 196) rfl) rfl, big_3 (List.mem_of_getElem? (i := 197) rfl) rfl, big_3 (List.mem_of_getElem? (i := 198) rfl) rfl, big_1 (List.mem_of_getElem? (i := 4) rfl) rfl, cd_X5_hasHoleOf, rfl, by decide, by decide, by decide⟩
theorem cd_X10_gatherPulls : Cond.code yX10_gatherPulls cX10_gatherPulls 1 (some (.object "StoneThatShakes$Pulls")) ∈ BIG := big_3 (List.mem_of_getElem? (i := 203) rfl) rfl
theorem k_10_264 : LkV RX10 264 RX10 yX10_gatherPulls cX10_gatherPulls 1 (some (.object "StoneThatShakes$Pulls")) 0 := ⟨big_3 (List.mem_of_getElem? (i := 200) rfl) rfl, big_3 (List.mem_of_getElem? (i := 202) rfl) rfl, big_0 (List.mem_of_getElem? (i := 15) rfl) rfl, big_1 (List.mem_of_getElem? (i := 1) rfl) rfl, cd_X10_gatherPulls, rfl, by decide, by decide, by decide⟩
theorem cd_X10_findNarrowest : Cond.code yX10_findNarrowest cX10_findNarrowest 8 (some .int) ∈ BIG := big_4 (List.mem_of_getElem? (i := 9) rfl) rfl
theorem k_10_271 : LkV RX10 271 RX10 yX10_findNarrowest cX10_findNarrowest 8 (some .int) 3 := ⟨big_4 (List.mem_of_getElem? (i := 6) rfl) rfl, big_4 (List.mem_of_getElem? (i := 8) rfl) rfl, big_0 (List.mem_of_getElem? (i := 16) rfl) rfl, big_1 (List.mem_of_getElem? (i := 1) rfl) rfl, cd_X10_findNarrowest, rfl, by decide, by decide, by decide⟩
theorem cd_X10_feelWithHung : Cond.code yX10_feelWithHung cX10_feelWithHung 7 none ∈ BIG := big_4 (List.mem_of_getElem? (i := 13) rfl) rfl
theorem k_10_281 : LkV RX10 281 RX10 yX10_feelWithHung cX10_feelWithHung 7 none 4 := ⟨big_4 (List.mem_of_getElem? (i := 10) rfl) rfl, big_4 (List.mem_of_getElem? (i := 12) rfl) rfl, big_0 (List.mem_of_getElem? (i := 17) rfl) rfl, big_1 (List.mem_of_getElem? (i := 1) rfl) rfl, cd_X10_feelWithHung, rfl, by decide, by decide, by decide⟩
theorem cd_X3_keepAlike : Cond.code yX3_keepAlike cX3_keepAlike 7 none ∈ BIG := big_4 (List.mem_of_getElem? (i := 40) rfl) rfl
theorem k_10_285 : LkV RX10 285 RX3 yX3_keepAlike cX3_keepAlike 7 none 2 := ⟨big_4 (List.mem_of_getElem? (i := 37) rfl) rfl, big_4 (List.mem_of_getElem? (i := 38) rfl) rfl, big_4 (List.mem_of_getElem? (i := 39) rfl) rfl, big_1 (List.mem_of_getElem? (i := 19) rfl) rfl, cd_X3_keepAlike, rfl, by decide, by decide, by decide⟩
theorem cd_X3_init : Cond.code yX3_init cX3_init 1 none ∈ BIG := big_3 (List.mem_of_getElem? (i := 208) rfl) rfl
theorem k_10_295 : LnI RX10 295 yX3_init cX3_init 1 0 := ⟨⟨RX10, nst_3 (List.mem_of_getElem? (i := 206) rfl) rfl⟩, big_3 (List.mem_of_getElem? (i := 207) rfl) rfl, big_1 (List.mem_of_getElem? (i := 19) rfl) rfl, cd_X3_init, rfl, by decide, by decide, by decide⟩
theorem cd_X3_gather : Cond.code yX3_gather cX3_gather 4 none ∈ BIG := big_4 (List.mem_of_getElem? (i := 4) rfl) rfl
theorem k_10_296 : LkV RX10 296 RX3 yX3_gather cX3_gather 4 none 1 := ⟨big_4 (List.mem_of_getElem? (i := 1) rfl) rfl, big_4 (List.mem_of_getElem? (i := 2) rfl) rfl, big_4 (List.mem_of_getElem? (i := 3) rfl) rfl, big_1 (List.mem_of_getElem? (i := 19) rfl) rfl, cd_X3_gather, rfl, by decide, by decide, by decide⟩
theorem cd_X3_mostAlike : Cond.code yX3_mostAlike cX3_mostAlike 5 (some .int) ∈ BIG := big_4 (List.mem_of_getElem? (i := 22) rfl) rfl
theorem k_10_300 : LkV RX10 300 RX3 yX3_mostAlike cX3_mostAlike 5 (some .int) 1 := ⟨big_4 (List.mem_of_getElem? (i := 19) rfl) rfl, big_4 (List.mem_of_getElem? (i := 20) rfl) rfl, big_4 (List.mem_of_getElem? (i := 21) rfl) rfl, big_1 (List.mem_of_getElem? (i := 19) rfl) rfl, cd_X3_mostAlike, rfl, by decide, by decide, by decide⟩
theorem cd_X5_leadOfHoles : Cond.code yX5_leadOfHoles cX5_leadOfHoles 6 (some .int) ∈ BIG := big_3 (List.mem_of_getElem? (i := 77) rfl) rfl
theorem k_10_303 : LkV RX10 303 RX5 yX5_leadOfHoles cX5_leadOfHoles 6 (some .int) 2 := ⟨big_4 (List.mem_of_getElem? (i := 14) rfl) rfl, big_3 (List.mem_of_getElem? (i := 75) rfl) rfl, big_3 (List.mem_of_getElem? (i := 76) rfl) rfl, big_1 (List.mem_of_getElem? (i := 4) rfl) rfl, cd_X5_leadOfHoles, rfl, by decide, by decide, by decide⟩
theorem cd_X10_feltBarePull : Cond.code yX10_feltBarePull cX10_feltBarePull 6 (some .int) ∈ BIG := big_3 (List.mem_of_getElem? (i := 140) rfl) rfl
theorem k_10_306 : LkV RX10 306 RX10 yX10_feltBarePull cX10_feltBarePull 6 (some .int) 4 := ⟨big_3 (List.mem_of_getElem? (i := 137) rfl) rfl, big_3 (List.mem_of_getElem? (i := 139) rfl) rfl, big_0 (List.mem_of_getElem? (i := 13) rfl) rfl, big_1 (List.mem_of_getElem? (i := 1) rfl) rfl, cd_X10_feltBarePull, rfl, by decide, by decide, by decide⟩
theorem cd_X3_setSizes : Cond.code yX3_setSizes cX3_setSizes 9 none ∈ BIG := big_4 (List.mem_of_getElem? (i := 18) rfl) rfl
theorem k_10_310 : LkV RX10 310 RX3 yX3_setSizes cX3_setSizes 9 none 3 := ⟨big_4 (List.mem_of_getElem? (i := 15) rfl) rfl, big_4 (List.mem_of_getElem? (i := 16) rfl) rfl, big_4 (List.mem_of_getElem? (i := 17) rfl) rfl, big_1 (List.mem_of_getElem? (i := 19) rfl) rfl, cd_X3_setSizes, rfl, by decide, by decide, by decide⟩
theorem cd_X10_isMan : Cond.code yX10_isMan cX10_isMan 1 (some .boolean) ∈ BIG := big_4 (List.mem_of_getElem? (i := 47) rfl) rfl
theorem k_10_329 : LkS RX10 329 yX10_isMan cX10_isMan 1 (some .boolean) 1 := ⟨big_4 (List.mem_of_getElem? (i := 45) rfl) rfl, big_4 (List.mem_of_getElem? (i := 46) rfl) rfl, big_1 (List.mem_of_getElem? (i := 1) rfl) rfl, cd_X10_isMan, by decide, by decide, by decide⟩
theorem cd_X10_feltByMan : Cond.code yX10_feltByMan cX10_feltByMan 5 (some .long) ∈ BIG := big_4 (List.mem_of_getElem? (i := 55) rfl) rfl
theorem k_10_332 : LkV RX10 332 RX10 yX10_feltByMan cX10_feltByMan 5 (some .long) 2 := ⟨big_4 (List.mem_of_getElem? (i := 52) rfl) rfl, big_4 (List.mem_of_getElem? (i := 54) rfl) rfl, big_0 (List.mem_of_getElem? (i := 20) rfl) rfl, big_1 (List.mem_of_getElem? (i := 1) rfl) rfl, cd_X10_feltByMan, rfl, by decide, by decide, by decide⟩
theorem cd_J9_abs_067f4 : Cond.code yJ9_abs_067f4 cJ9_abs_067f4 2 (some .long) ∈ BIG := big_4 (List.mem_of_getElem? (i := 62) rfl) rfl
theorem k_10_336 : LkS RX10 336 yJ9_abs_067f4 cJ9_abs_067f4 2 (some .long) 1 := ⟨big_4 (List.mem_of_getElem? (i := 60) rfl) rfl, big_4 (List.mem_of_getElem? (i := 61) rfl) rfl, big_1 (List.mem_of_getElem? (i := 12) rfl) rfl, cd_J9_abs_067f4, by decide, by decide, by decide⟩
theorem cd_J13_compareUnsigned_74951 : Cond.code yJ13_compareUnsigned_74951 cJ13_compareUnsigned_74951 4 (some .int) ∈ BIG := big_4 (List.mem_of_getElem? (i := 65) rfl) rfl
theorem k_10_340 : LkS RX10 340 yJ13_compareUnsigned_74951 cJ13_compareUnsigned_74951 4 (some .int) 2 := ⟨big_4 (List.mem_of_getElem? (i := 63) rfl) rfl, big_4 (List.mem_of_getElem? (i := 64) rfl) rfl, big_1 (List.mem_of_getElem? (i := 20) rfl) rfl, cd_J13_compareUnsigned_74951, by decide, by decide, by decide⟩
theorem cd_X10_unmended : Cond.code yX10_unmended cX10_unmended 3 (some .int) ∈ BIG := big_4 (List.mem_of_getElem? (i := 78) rfl) rfl
theorem k_10_348 : LkV RX10 348 RX10 yX10_unmended cX10_unmended 3 (some .int) 2 := ⟨big_4 (List.mem_of_getElem? (i := 75) rfl) rfl, big_4 (List.mem_of_getElem? (i := 77) rfl) rfl, big_0 (List.mem_of_getElem? (i := 21) rfl) rfl, big_1 (List.mem_of_getElem? (i := 1) rfl) rfl, cd_X10_unmended, rfl, by decide, by decide, by decide⟩
theorem cd_X10_searchPutting : Cond.code yX10_searchPutting cX10_searchPutting 4 (some .long) ∈ BIG := big_4 (List.mem_of_getElem? (i := 86) rfl) rfl
theorem k_10_351 : LkV RX10 351 RX10 yX10_searchPutting cX10_searchPutting 4 (some .long) 2 := ⟨big_4 (List.mem_of_getElem? (i := 83) rfl) rfl, big_4 (List.mem_of_getElem? (i := 85) rfl) rfl, big_0 (List.mem_of_getElem? (i := 22) rfl) rfl, big_1 (List.mem_of_getElem? (i := 1) rfl) rfl, cd_X10_searchPutting, rfl, by decide, by decide, by decide⟩
theorem cd_X10_tellSearched : Cond.code yX10_tellSearched cX10_tellSearched 2 none ∈ BIG := big_4 (List.mem_of_getElem? (i := 168) rfl) rfl
theorem k_10_354 : LkV RX10 354 RX10 yX10_tellSearched cX10_tellSearched 2 none 0 := ⟨big_4 (List.mem_of_getElem? (i := 165) rfl) rfl, big_4 (List.mem_of_getElem? (i := 167) rfl) rfl, big_0 (List.mem_of_getElem? (i := 32) rfl) rfl, big_1 (List.mem_of_getElem? (i := 1) rfl) rfl, cd_X10_tellSearched, rfl, by decide, by decide, by decide⟩
theorem cd_X10_startRestSearch : Cond.code yX10_startRestSearch cX10_startRestSearch 2 none ∈ BIG := big_4 (List.mem_of_getElem? (i := 90) rfl) rfl
theorem k_10_357 : LkV RX10 357 RX10 yX10_startRestSearch cX10_startRestSearch 2 none 1 := ⟨big_4 (List.mem_of_getElem? (i := 87) rfl) rfl, big_4 (List.mem_of_getElem? (i := 89) rfl) rfl, big_0 (List.mem_of_getElem? (i := 23) rfl) rfl, big_1 (List.mem_of_getElem? (i := 1) rfl) rfl, cd_X10_startRestSearch, rfl, by decide, by decide, by decide⟩
theorem cd_X6_addHole : Cond.code yX6_addHole cX6_addHole 3 none ∈ BIG := big_4 (List.mem_of_getElem? (i := 106) rfl) rfl
theorem k_10_361 : LkV RX10 361 RX6 yX6_addHole cX6_addHole 3 none 2 := ⟨big_4 (List.mem_of_getElem? (i := 103) rfl) rfl, big_4 (List.mem_of_getElem? (i := 104) rfl) rfl, big_4 (List.mem_of_getElem? (i := 105) rfl) rfl, big_1 (List.mem_of_getElem? (i := 9) rfl) rfl, cd_X6_addHole, rfl, by decide, by decide, by decide⟩
theorem cd_X6_addStep : Cond.code yX6_addStep cX6_addStep 4 none ∈ BIG := big_4 (List.mem_of_getElem? (i := 110) rfl) rfl
theorem k_10_364 : LkV RX10 364 RX6 yX6_addStep cX6_addStep 4 none 3 := ⟨big_4 (List.mem_of_getElem? (i := 107) rfl) rfl, big_4 (List.mem_of_getElem? (i := 108) rfl) rfl, big_4 (List.mem_of_getElem? (i := 109) rfl) rfl, big_1 (List.mem_of_getElem? (i := 9) rfl) rfl, cd_X6_addStep, rfl, by decide, by decide, by decide⟩
theorem cd_X6_leastOf : Cond.code yX6_leastOf cX6_leastOf 2 (some .long) ∈ BIG := big_4 (List.mem_of_getElem? (i := 118) rfl) rfl
theorem k_10_367 : LkV RX10 367 RX6 yX6_leastOf cX6_leastOf 2 (some .long) 1 := ⟨big_4 (List.mem_of_getElem? (i := 115) rfl) rfl, big_4 (List.mem_of_getElem? (i := 116) rfl) rfl, big_4 (List.mem_of_getElem? (i := 117) rfl) rfl, big_1 (List.mem_of_getElem? (i := 9) rfl) rfl, cd_X6_leastOf, rfl, by decide, by decide, by decide⟩
theorem cd_X5_roomLeft : Cond.code yX5_roomLeft cX5_roomLeft 2 (some .int) ∈ BIG := big_4 (List.mem_of_getElem? (i := 102) rfl) rfl
theorem k_10_371 : LkV RX10 371 RX5 yX5_roomLeft cX5_roomLeft 2 (some .int) 1 := ⟨big_4 (List.mem_of_getElem? (i := 99) rfl) rfl, big_4 (List.mem_of_getElem? (i := 100) rfl) rfl, big_4 (List.mem_of_getElem? (i := 101) rfl) rfl, big_1 (List.mem_of_getElem? (i := 4) rfl) rfl, cd_X5_roomLeft, rfl, by decide, by decide, by decide⟩
theorem cd_X6_start : Cond.code yX6_start cX6_start 2 none ∈ BIG := big_4 (List.mem_of_getElem? (i := 94) rfl) rfl
theorem k_10_374 : LkV RX10 374 RX6 yX6_start cX6_start 2 none 1 := ⟨big_4 (List.mem_of_getElem? (i := 91) rfl) rfl, big_4 (List.mem_of_getElem? (i := 92) rfl) rfl, big_4 (List.mem_of_getElem? (i := 93) rfl) rfl, big_1 (List.mem_of_getElem? (i := 9) rfl) rfl, cd_X6_start, rfl, by decide, by decide, by decide⟩
theorem cd_X6_addPoint : Cond.code yX6_addPoint cX6_addPoint 3 none ∈ BIG := big_4 (List.mem_of_getElem? (i := 98) rfl) rfl
theorem k_10_377 : LkV RX10 377 RX6 yX6_addPoint cX6_addPoint 3 none 2 := ⟨big_4 (List.mem_of_getElem? (i := 95) rfl) rfl, big_4 (List.mem_of_getElem? (i := 96) rfl) rfl, big_4 (List.mem_of_getElem? (i := 97) rfl) rfl, big_1 (List.mem_of_getElem? (i := 9) rfl) rfl, cd_X6_addPoint, rfl, by decide, by decide, by decide⟩
theorem cd_X10_gatherFitting : Cond.code yX10_gatherFitting cX10_gatherFitting 5 (some .int) ∈ BIG := big_4 (List.mem_of_getElem? (i := 188) rfl) rfl
theorem k_10_386 : LkV RX10 386 RX10 yX10_gatherFitting cX10_gatherFitting 5 (some .int) 2 := ⟨big_4 (List.mem_of_getElem? (i := 185) rfl) rfl, big_4 (List.mem_of_getElem? (i := 187) rfl) rfl, big_0 (List.mem_of_getElem? (i := 33) rfl) rfl, big_1 (List.mem_of_getElem? (i := 1) rfl) rfl, cd_X10_gatherFitting, rfl, by decide, by decide, by decide⟩
theorem cd_X10_isFewer : Cond.code yX10_isFewer cX10_isFewer 3 (some .boolean) ∈ BIG := big_4 (List.mem_of_getElem? (i := 191) rfl) rfl
theorem k_10_389 : LkS RX10 389 yX10_isFewer cX10_isFewer 3 (some .boolean) 2 := ⟨big_4 (List.mem_of_getElem? (i := 189) rfl) rfl, big_4 (List.mem_of_getElem? (i := 190) rfl) rfl, big_1 (List.mem_of_getElem? (i := 1) rfl) rfl, cd_X10_isFewer, by decide, by decide, by decide⟩
theorem cd_X10_bestOunce : Cond.code yX10_bestOunce cX10_bestOunce 10 (some .int) ∈ BIG := big_4 (List.mem_of_getElem? (i := 199) rfl) rfl
theorem k_10_392 : LkV RX10 392 RX10 yX10_bestOunce cX10_bestOunce 10 (some .int) 2 := ⟨big_4 (List.mem_of_getElem? (i := 196) rfl) rfl, big_4 (List.mem_of_getElem? (i := 198) rfl) rfl, big_0 (List.mem_of_getElem? (i := 34) rfl) rfl, big_1 (List.mem_of_getElem? (i := 1) rfl) rfl, cd_X10_bestOunce, rfl, by decide, by decide, by decide⟩
theorem cd_X10_changeByOunce : Cond.code yX10_changeByOunce cX10_changeByOunce 7 (some .long) ∈ BIG := big_4 (List.mem_of_getElem? (i := 203) rfl) rfl
theorem k_10_395 : LkV RX10 395 RX10 yX10_changeByOunce cX10_changeByOunce 7 (some .long) 2 := ⟨big_4 (List.mem_of_getElem? (i := 200) rfl) rfl, big_4 (List.mem_of_getElem? (i := 202) rfl) rfl, big_0 (List.mem_of_getElem? (i := 35) rfl) rfl, big_1 (List.mem_of_getElem? (i := 1) rfl) rfl, cd_X10_changeByOunce, rfl, by decide, by decide, by decide⟩
theorem cd_X10_settleOunce : Cond.code yX10_settleOunce cX10_settleOunce 8 (some .boolean) ∈ BIG := big_4 (List.mem_of_getElem? (i := 211) rfl) rfl
theorem k_10_398 : LkV RX10 398 RX10 yX10_settleOunce cX10_settleOunce 8 (some .boolean) 1 := ⟨big_4 (List.mem_of_getElem? (i := 208) rfl) rfl, big_4 (List.mem_of_getElem? (i := 210) rfl) rfl, big_0 (List.mem_of_getElem? (i := 36) rfl) rfl, big_1 (List.mem_of_getElem? (i := 1) rfl) rfl, cd_X10_settleOunce, rfl, by decide, by decide, by decide⟩
theorem cd_X10_partingOfCrosses : Cond.code yX10_partingOfCrosses cX10_partingOfCrosses 1 (some .int) ∈ BIG := big_4 (List.mem_of_getElem? (i := 219) rfl) rfl
theorem k_10_401 : LkV RX10 401 RX10 yX10_partingOfCrosses cX10_partingOfCrosses 1 (some .int) 0 := ⟨big_4 (List.mem_of_getElem? (i := 216) rfl) rfl, big_4 (List.mem_of_getElem? (i := 218) rfl) rfl, big_0 (List.mem_of_getElem? (i := 37) rfl) rfl, big_1 (List.mem_of_getElem? (i := 1) rfl) rfl, cd_X10_partingOfCrosses, rfl, by decide, by decide, by decide⟩
theorem cd_X10_tellPull : Cond.code yX10_tellPull cX10_tellPull 14 none ∈ BIG := big_4 (List.mem_of_getElem? (i := 223) rfl) rfl
theorem k_10_404 : LkV RX10 404 RX10 yX10_tellPull cX10_tellPull 14 none 5 := ⟨big_4 (List.mem_of_getElem? (i := 220) rfl) rfl, big_4 (List.mem_of_getElem? (i := 222) rfl) rfl, big_0 (List.mem_of_getElem? (i := 38) rfl) rfl, big_1 (List.mem_of_getElem? (i := 1) rfl) rfl, cd_X10_tellPull, rfl, by decide, by decide, by decide⟩
theorem cd_X8_addFraction : Cond.code yX8_addFraction cX8_addFraction 9 none ∈ BIG := big_4 (List.mem_of_getElem? (i := 227) rfl) rfl
theorem k_10_408 : LkV RX10 408 RX8 yX8_addFraction cX8_addFraction 9 none 2 := ⟨big_4 (List.mem_of_getElem? (i := 224) rfl) rfl, big_4 (List.mem_of_getElem? (i := 225) rfl) rfl, big_4 (List.mem_of_getElem? (i := 226) rfl) rfl, big_1 (List.mem_of_getElem? (i := 2) rfl) rfl, cd_X8_addFraction, rfl, by decide, by decide, by decide⟩
theorem cd_X10_feltThought : Cond.code yX10_feltThought cX10_feltThought 5 (some .int) ∈ BIG := big_5 (List.mem_of_getElem? (i := 0) rfl) rfl
theorem k_10_412 : LkV RX10 412 RX10 yX10_feltThought cX10_feltThought 5 (some .int) 3 := ⟨big_4 (List.mem_of_getElem? (i := 237) rfl) rfl, big_4 (List.mem_of_getElem? (i := 239) rfl) rfl, big_0 (List.mem_of_getElem? (i := 39) rfl) rfl, big_1 (List.mem_of_getElem? (i := 1) rfl) rfl, cd_X10_feltThought, rfl, by decide, by decide, by decide⟩
theorem cd_X10_isCode : Cond.code yX10_isCode cX10_isCode 2 (some .boolean) ∈ BIG := big_5 (List.mem_of_getElem? (i := 16) rfl) rfl
theorem k_10_427 : LkS RX10 427 yX10_isCode cX10_isCode 2 (some .boolean) 1 := ⟨big_5 (List.mem_of_getElem? (i := 14) rfl) rfl, big_5 (List.mem_of_getElem? (i := 15) rfl) rfl, big_1 (List.mem_of_getElem? (i := 1) rfl) rfl, cd_X10_isCode, by decide, by decide, by decide⟩
theorem cd_X10_decoded : Cond.code yX10_decoded cX10_decoded 3 (some .long) ∈ BIG := big_5 (List.mem_of_getElem? (i := 21) rfl) rfl
theorem k_10_431 : LkS RX10 431 yX10_decoded cX10_decoded 3 (some .long) 2 := ⟨big_5 (List.mem_of_getElem? (i := 19) rfl) rfl, big_5 (List.mem_of_getElem? (i := 20) rfl) rfl, big_1 (List.mem_of_getElem? (i := 1) rfl) rfl, cd_X10_decoded, by decide, by decide, by decide⟩
theorem cd_X10_partingOfSpeeds : Cond.code yX10_partingOfSpeeds cX10_partingOfSpeeds 12 (some .long) ∈ BIG := big_5 (List.mem_of_getElem? (i := 30) rfl) rfl
theorem k_10_435 : LkV RX10 435 RX10 yX10_partingOfSpeeds cX10_partingOfSpeeds 12 (some .long) 3 := ⟨big_5 (List.mem_of_getElem? (i := 27) rfl) rfl, big_5 (List.mem_of_getElem? (i := 29) rfl) rfl, big_0 (List.mem_of_getElem? (i := 40) rfl) rfl, big_1 (List.mem_of_getElem? (i := 1) rfl) rfl, cd_X10_partingOfSpeeds, rfl, by decide, by decide, by decide⟩
theorem cd_X10_tellThree : Cond.code yX10_tellThree cX10_tellThree 24 none ∈ BIG := big_5 (List.mem_of_getElem? (i := 34) rfl) rfl
theorem k_10_439 : LkV RX10 439 RX10 yX10_tellThree cX10_tellThree 24 none 6 := ⟨big_5 (List.mem_of_getElem? (i := 31) rfl) rfl, big_5 (List.mem_of_getElem? (i := 33) rfl) rfl, big_0 (List.mem_of_getElem? (i := 41) rfl) rfl, big_1 (List.mem_of_getElem? (i := 1) rfl) rfl, cd_X10_tellThree, rfl, by decide, by decide, by decide⟩
theorem cd_X8_placeOfGreatest : Cond.code yX8_placeOfGreatest cX8_placeOfGreatest 3 (some .int) ∈ BIG := big_5 (List.mem_of_getElem? (i := 42) rfl) rfl
theorem k_10_449 : LkV RX10 449 RX8 yX8_placeOfGreatest cX8_placeOfGreatest 3 (some .int) 0 := ⟨big_5 (List.mem_of_getElem? (i := 39) rfl) rfl, big_5 (List.mem_of_getElem? (i := 40) rfl) rfl, big_5 (List.mem_of_getElem? (i := 41) rfl) rfl, big_1 (List.mem_of_getElem? (i := 2) rfl) rfl, cd_X8_placeOfGreatest, rfl, by decide, by decide, by decide⟩
theorem cd_X10_cogsHavePlaces : Cond.code yX10_cogsHavePlaces cX10_cogsHavePlaces 1 (some .boolean) ∈ BIG := big_5 (List.mem_of_getElem? (i := 54) rfl) rfl
theorem k_10_452 : LkV RX10 452 RX10 yX10_cogsHavePlaces cX10_cogsHavePlaces 1 (some .boolean) 0 := ⟨big_5 (List.mem_of_getElem? (i := 51) rfl) rfl, big_5 (List.mem_of_getElem? (i := 53) rfl) rfl, big_0 (List.mem_of_getElem? (i := 42) rfl) rfl, big_1 (List.mem_of_getElem? (i := 1) rfl) rfl, cd_X10_cogsHavePlaces, rfl, by decide, by decide, by decide⟩
theorem cd_X0_seatAsTold : Cond.code yX0_seatAsTold cX0_seatAsTold 3 none ∈ BIG := big_5 (List.mem_of_getElem? (i := 58) rfl) rfl
theorem k_10_456 : LkV RX10 456 RX0 yX0_seatAsTold cX0_seatAsTold 3 none 1 := ⟨big_5 (List.mem_of_getElem? (i := 55) rfl) rfl, big_5 (List.mem_of_getElem? (i := 56) rfl) rfl, big_5 (List.mem_of_getElem? (i := 57) rfl) rfl, big_1 (List.mem_of_getElem? (i := 6) rfl) rfl, cd_X0_seatAsTold, rfl, by decide, by decide, by decide⟩
theorem cd_X0_findLeast : Cond.code yX0_findLeast cX0_findLeast 2 none ∈ BIG := big_5 (List.mem_of_getElem? (i := 66) rfl) rfl
theorem k_10_464 : LkV RX10 464 RX0 yX0_findLeast cX0_findLeast 2 none 1 := ⟨big_5 (List.mem_of_getElem? (i := 63) rfl) rfl, big_5 (List.mem_of_getElem? (i := 64) rfl) rfl, big_5 (List.mem_of_getElem? (i := 65) rfl) rfl, big_1 (List.mem_of_getElem? (i := 6) rfl) rfl, cd_X0_findLeast, rfl, by decide, by decide, by decide⟩
theorem cd_X0_exchangeBest : Cond.code yX0_exchangeBest cX0_exchangeBest 10 (some .boolean) ∈ BIG := big_5 (List.mem_of_getElem? (i := 84) rfl) rfl
theorem k_10_474 : LkV RX10 474 RX0 yX0_exchangeBest cX0_exchangeBest 10 (some .boolean) 1 := ⟨big_5 (List.mem_of_getElem? (i := 81) rfl) rfl, big_5 (List.mem_of_getElem? (i := 82) rfl) rfl, big_5 (List.mem_of_getElem? (i := 83) rfl) rfl, big_1 (List.mem_of_getElem? (i := 6) rfl) rfl, cd_X0_exchangeBest, rfl, by decide, by decide, by decide⟩
theorem cd_X2_store : Cond.code yX2_store cX2_store 5 none ∈ BIG := big_5 (List.mem_of_getElem? (i := 96) rfl) rfl
theorem k_10_481 : LkV RX10 481 RX2 yX2_store cX2_store 5 none 4 := ⟨big_5 (List.mem_of_getElem? (i := 93) rfl) rfl, big_5 (List.mem_of_getElem? (i := 94) rfl) rfl, big_5 (List.mem_of_getElem? (i := 95) rfl) rfl, big_1 (List.mem_of_getElem? (i := 10) rfl) rfl, cd_X2_store, rfl, by decide, by decide, by decide⟩
theorem cd_X2_bringBack : Cond.code yX2_bringBack cX2_bringBack 5 none ∈ BIG := big_5 (List.mem_of_getElem? (i := 115) rfl) rfl
theorem k_10_489 : LkV RX10 489 RX2 yX2_bringBack cX2_bringBack 5 none 4 := ⟨big_5 (List.mem_of_getElem? (i := 112) rfl) rfl, big_5 (List.mem_of_getElem? (i := 113) rfl) rfl, big_5 (List.mem_of_getElem? (i := 114) rfl) rfl, big_1 (List.mem_of_getElem? (i := 10) rfl) rfl, cd_X2_bringBack, rfl, by decide, by decide, by decide⟩
theorem cd_X11_common : Cond.code yX11_common cX11_common 10 (some .long) ∈ BIG := big_7 (List.mem_of_getElem? (i := 60) rfl) rfl
theorem k_11_14 : LkS RX11 14 yX11_common cX11_common 10 (some .long) 2 := ⟨big_7 (List.mem_of_getElem? (i := 58) rfl) rfl, big_7 (List.mem_of_getElem? (i := 59) rfl) rfl, big_1 (List.mem_of_getElem? (i := 11) rfl) rfl, cd_X11_common, by decide, by decide, by decide⟩
theorem cd_X11_enters : Cond.code yX11_enters cX11_enters 3 none ∈ BIG := big_6 (List.mem_of_getElem? (i := 82) rfl) rfl
theorem k_11_18 : LkV RX11 18 RX11 yX11_enters cX11_enters 3 none 1 := ⟨big_6 (List.mem_of_getElem? (i := 79) rfl) rfl, big_6 (List.mem_of_getElem? (i := 81) rfl) rfl, big_0 (List.mem_of_getElem? (i := 57) rfl) rfl, big_1 (List.mem_of_getElem? (i := 11) rfl) rfl, cd_X11_enters, rfl, by decide, by decide, by decide⟩
theorem cd_X11_in : Cond.code yX11_in cX11_in 6 (some .boolean) ∈ BIG := big_5 (List.mem_of_getElem? (i := 213) rfl) rfl
theorem k_11_29 : LkS RX11 29 yX11_in cX11_in 6 (some .boolean) 3 := ⟨big_5 (List.mem_of_getElem? (i := 211) rfl) rfl, big_5 (List.mem_of_getElem? (i := 212) rfl) rfl, big_1 (List.mem_of_getElem? (i := 11) rfl) rfl, cd_X11_in, by decide, by decide, by decide⟩
theorem cd_X11_flag : Cond.code yX11_flag cX11_flag 1 (some .int) ∈ BIG := big_6 (List.mem_of_getElem? (i := 0) rfl) rfl
theorem k_11_39 : LkS RX11 39 yX11_flag cX11_flag 1 (some .int) 1 := ⟨big_5 (List.mem_of_getElem? (i := 238) rfl) rfl, big_5 (List.mem_of_getElem? (i := 239) rfl) rfl, big_1 (List.mem_of_getElem? (i := 11) rfl) rfl, cd_X11_flag, by decide, by decide, by decide⟩
theorem cd_X11_isDigit : Cond.code yX11_isDigit cX11_isDigit 1 (some .boolean) ∈ BIG := big_5 (List.mem_of_getElem? (i := 231) rfl) rfl
theorem k_11_47 : LkV RX11 47 RX11 yX11_isDigit cX11_isDigit 1 (some .boolean) 0 := ⟨big_5 (List.mem_of_getElem? (i := 228) rfl) rfl, big_5 (List.mem_of_getElem? (i := 230) rfl) rfl, big_0 (List.mem_of_getElem? (i := 48) rfl) rfl, big_1 (List.mem_of_getElem? (i := 11) rfl) rfl, cd_X11_isDigit, rfl, by decide, by decide, by decide⟩
theorem cd_X11_takes : Cond.code yX11_takes cX11_takes 3 (some .boolean) ∈ BIG := big_5 (List.mem_of_getElem? (i := 237) rfl) rfl
theorem k_11_51 : LkV RX11 51 RX11 yX11_takes cX11_takes 3 (some .boolean) 1 := ⟨big_5 (List.mem_of_getElem? (i := 234) rfl) rfl, big_5 (List.mem_of_getElem? (i := 236) rfl) rfl, big_0 (List.mem_of_getElem? (i := 49) rfl) rfl, big_1 (List.mem_of_getElem? (i := 11) rfl) rfl, cd_X11_takes, rfl, by decide, by decide, by decide⟩
theorem cd_X11_number : Cond.code yX11_number cX11_number 4 (some .int) ∈ BIG := big_5 (List.mem_of_getElem? (i := 227) rfl) rfl
theorem k_11_55 : LkV RX11 55 RX11 yX11_number cX11_number 4 (some .int) 2 := ⟨big_5 (List.mem_of_getElem? (i := 224) rfl) rfl, big_5 (List.mem_of_getElem? (i := 226) rfl) rfl, big_0 (List.mem_of_getElem? (i := 47) rfl) rfl, big_1 (List.mem_of_getElem? (i := 11) rfl) rfl, cd_X11_number, rfl, by decide, by decide, by decide⟩
theorem cd_X11_signed : Cond.code yX11_signed cX11_signed 3 (some .int) ∈ BIG := big_6 (List.mem_of_getElem? (i := 4) rfl) rfl
theorem k_11_72 : LkV RX11 72 RX11 yX11_signed cX11_signed 3 (some .int) 0 := ⟨big_6 (List.mem_of_getElem? (i := 1) rfl) rfl, big_6 (List.mem_of_getElem? (i := 3) rfl) rfl, big_0 (List.mem_of_getElem? (i := 50) rfl) rfl, big_1 (List.mem_of_getElem? (i := 11) rfl) rfl, cd_X11_signed, rfl, by decide, by decide, by decide⟩
theorem k_11_107 : LkS RX11 107 yJ9_min_7cf53 cJ9_min_7cf53 2 (some .int) 2 := ⟨big_5 (List.mem_of_getElem? (i := 218) rfl) rfl, big_2 (List.mem_of_getElem? (i := 208) rfl) rfl, big_1 (List.mem_of_getElem? (i := 12) rfl) rfl, cd_J9_min_7cf53, by decide, by decide, by decide⟩
theorem cd_X11_readsLine : Cond.code yX11_readsLine cX11_readsLine 1 (some .boolean) ∈ BIG := big_5 (List.mem_of_getElem? (i := 223) rfl) rfl
theorem k_11_112 : LkV RX11 112 RX11 yX11_readsLine cX11_readsLine 1 (some .boolean) 0 := ⟨big_5 (List.mem_of_getElem? (i := 219) rfl) rfl, big_5 (List.mem_of_getElem? (i := 221) rfl) rfl, big_0 (List.mem_of_getElem? (i := 46) rfl) rfl, big_1 (List.mem_of_getElem? (i := 11) rfl) rfl, cd_X11_readsLine, rfl, by decide, by decide, by decide⟩
theorem cd_X11_isHole : Cond.code yX11_isHole cX11_isHole 2 (some .boolean) ∈ BIG := big_6 (List.mem_of_getElem? (i := 12) rfl) rfl
theorem k_11_115 : LkV RX11 115 RX11 yX11_isHole cX11_isHole 2 (some .boolean) 1 := ⟨big_6 (List.mem_of_getElem? (i := 9) rfl) rfl, big_6 (List.mem_of_getElem? (i := 11) rfl) rfl, big_0 (List.mem_of_getElem? (i := 51) rfl) rfl, big_1 (List.mem_of_getElem? (i := 11) rfl) rfl, cd_X11_isHole, rfl, by decide, by decide, by decide⟩
theorem k_11_124 : LkS RX11 124 yJ9_max_7cf53 cJ9_max_7cf53 2 (some .int) 2 := ⟨big_6 (List.mem_of_getElem? (i := 28) rfl) rfl, big_3 (List.mem_of_getElem? (i := 27) rfl) rfl, big_1 (List.mem_of_getElem? (i := 12) rfl) rfl, cd_J9_max_7cf53, by decide, by decide, by decide⟩
theorem cd_X11_ouncesAll : Cond.code yX11_ouncesAll cX11_ouncesAll 3 (some .int) ∈ BIG := big_6 (List.mem_of_getElem? (i := 32) rfl) rfl
theorem k_11_127 : LkV RX11 127 RX11 yX11_ouncesAll cX11_ouncesAll 3 (some .int) 0 := ⟨big_6 (List.mem_of_getElem? (i := 29) rfl) rfl, big_6 (List.mem_of_getElem? (i := 31) rfl) rfl, big_0 (List.mem_of_getElem? (i := 52) rfl) rfl, big_1 (List.mem_of_getElem? (i := 11) rfl) rfl, cd_X11_ouncesAll, rfl, by decide, by decide, by decide⟩
theorem cd_X11_isPlane : Cond.code yX11_isPlane cX11_isPlane 1 (some .boolean) ∈ BIG := big_6 (List.mem_of_getElem? (i := 39) rfl) rfl
theorem k_11_130 : LkS RX11 130 yX11_isPlane cX11_isPlane 1 (some .boolean) 1 := ⟨big_6 (List.mem_of_getElem? (i := 37) rfl) rfl, big_6 (List.mem_of_getElem? (i := 38) rfl) rfl, big_1 (List.mem_of_getElem? (i := 11) rfl) rfl, cd_X11_isPlane, by decide, by decide, by decide⟩
theorem cd_X11_isMass : Cond.code yX11_isMass cX11_isMass 3 (some .boolean) ∈ BIG := big_6 (List.mem_of_getElem? (i := 47) rfl) rfl
theorem k_11_142 : LkS RX11 142 yX11_isMass cX11_isMass 3 (some .boolean) 3 := ⟨big_6 (List.mem_of_getElem? (i := 45) rfl) rfl, big_6 (List.mem_of_getElem? (i := 46) rfl) rfl, big_1 (List.mem_of_getElem? (i := 11) rfl) rfl, cd_X11_isMass, by decide, by decide, by decide⟩
theorem cd_X11_leads : Cond.code yX11_leads cX11_leads 5 none ∈ BIG := big_6 (List.mem_of_getElem? (i := 74) rfl) rfl
theorem k_11_169 : LkV RX11 169 RX11 yX11_leads cX11_leads 5 none 2 := ⟨big_6 (List.mem_of_getElem? (i := 71) rfl) rfl, big_6 (List.mem_of_getElem? (i := 73) rfl) rfl, big_0 (List.mem_of_getElem? (i := 55) rfl) rfl, big_1 (List.mem_of_getElem? (i := 11) rfl) rfl, cd_X11_leads, rfl, by decide, by decide, by decide⟩
theorem cd_X11_isSpeed : Cond.code yX11_isSpeed cX11_isSpeed 2 (some .boolean) ∈ BIG := big_6 (List.mem_of_getElem? (i := 66) rfl) rfl
theorem k_11_173 : LkV RX11 173 RX11 yX11_isSpeed cX11_isSpeed 2 (some .boolean) 1 := ⟨big_6 (List.mem_of_getElem? (i := 63) rfl) rfl, big_6 (List.mem_of_getElem? (i := 65) rfl) rfl, big_0 (List.mem_of_getElem? (i := 53) rfl) rfl, big_1 (List.mem_of_getElem? (i := 11) rfl) rfl, cd_X11_isSpeed, rfl, by decide, by decide, by decide⟩
theorem cd_X11_leadsNow : Cond.code yX11_leadsNow cX11_leadsNow 1 none ∈ BIG := big_6 (List.mem_of_getElem? (i := 70) rfl) rfl
theorem k_11_176 : LkV RX11 176 RX11 yX11_leadsNow cX11_leadsNow 1 none 0 := ⟨big_6 (List.mem_of_getElem? (i := 67) rfl) rfl, big_6 (List.mem_of_getElem? (i := 69) rfl) rfl, big_0 (List.mem_of_getElem? (i := 54) rfl) rfl, big_1 (List.mem_of_getElem? (i := 11) rfl) rfl, cd_X11_leadsNow, rfl, by decide, by decide, by decide⟩
theorem cd_X11_felt : Cond.code yX11_felt cX11_felt 8 (some .long) ∈ BIG := big_6 (List.mem_of_getElem? (i := 78) rfl) rfl
theorem k_11_180 : LkV RX11 180 RX11 yX11_felt cX11_felt 8 (some .long) 4 := ⟨big_6 (List.mem_of_getElem? (i := 75) rfl) rfl, big_6 (List.mem_of_getElem? (i := 77) rfl) rfl, big_0 (List.mem_of_getElem? (i := 56) rfl) rfl, big_1 (List.mem_of_getElem? (i := 11) rfl) rfl, cd_X11_felt, rfl, by decide, by decide, by decide⟩
theorem cd_X11_size : Cond.code yX11_size cX11_size 4 (some .long) ∈ BIG := big_6 (List.mem_of_getElem? (i := 85) rfl) rfl
theorem k_11_184 : LkS RX11 184 yX11_size cX11_size 4 (some .long) 2 := ⟨big_6 (List.mem_of_getElem? (i := 83) rfl) rfl, big_6 (List.mem_of_getElem? (i := 84) rfl) rfl, big_1 (List.mem_of_getElem? (i := 11) rfl) rfl, cd_X11_size, by decide, by decide, by decide⟩
theorem cd_X11_isFar : Cond.code yX11_isFar cX11_isFar 1 (some .boolean) ∈ BIG := big_6 (List.mem_of_getElem? (i := 96) rfl) rfl
theorem k_11_212 : LkS RX11 212 yX11_isFar cX11_isFar 1 (some .boolean) 1 := ⟨big_6 (List.mem_of_getElem? (i := 94) rfl) rfl, big_6 (List.mem_of_getElem? (i := 95) rfl) rfl, big_1 (List.mem_of_getElem? (i := 11) rfl) rfl, cd_X11_isFar, by decide, by decide, by decide⟩
theorem cd_X11_lays : Cond.code yX11_lays cX11_lays 7 (some .int) ∈ BIG := big_6 (List.mem_of_getElem? (i := 103) rfl) rfl
theorem k_11_217 : LkV RX11 217 RX11 yX11_lays cX11_lays 7 (some .int) 5 := ⟨big_6 (List.mem_of_getElem? (i := 100) rfl) rfl, big_6 (List.mem_of_getElem? (i := 102) rfl) rfl, big_0 (List.mem_of_getElem? (i := 58) rfl) rfl, big_1 (List.mem_of_getElem? (i := 11) rfl) rfl, cd_X11_lays, rfl, by decide, by decide, by decide⟩
theorem cd_X11_bases : Cond.code yX11_bases cX11_bases 2 none ∈ BIG := big_6 (List.mem_of_getElem? (i := 128) rfl) rfl
theorem k_11_233 : LkV RX11 233 RX11 yX11_bases cX11_bases 2 none 1 := ⟨big_6 (List.mem_of_getElem? (i := 125) rfl) rfl, big_6 (List.mem_of_getElem? (i := 127) rfl) rfl, big_0 (List.mem_of_getElem? (i := 61) rfl) rfl, big_1 (List.mem_of_getElem? (i := 11) rfl) rfl, cd_X11_bases, rfl, by decide, by decide, by decide⟩
theorem k_11_246 : LkS RX11 246 yJ9_abs_067f4 cJ9_abs_067f4 2 (some .long) 1 := ⟨big_6 (List.mem_of_getElem? (i := 146) rfl) rfl, big_4 (List.mem_of_getElem? (i := 61) rfl) rfl, big_1 (List.mem_of_getElem? (i := 12) rfl) rfl, cd_J9_abs_067f4, by decide, by decide, by decide⟩
theorem cd_X11_has : Cond.code yX11_has cX11_has 2 (some .boolean) ∈ BIG := big_6 (List.mem_of_getElem? (i := 141) rfl) rfl
theorem k_11_250 : LkS RX11 250 yX11_has cX11_has 2 (some .boolean) 2 := ⟨big_6 (List.mem_of_getElem? (i := 139) rfl) rfl, big_6 (List.mem_of_getElem? (i := 140) rfl) rfl, big_1 (List.mem_of_getElem? (i := 11) rfl) rfl, cd_X11_has, by decide, by decide, by decide⟩
theorem cd_X11_agrees : Cond.code yX11_agrees cX11_agrees 8 (some .boolean) ∈ BIG := big_6 (List.mem_of_getElem? (i := 145) rfl) rfl
theorem k_11_254 : LkV RX11 254 RX11 yX11_agrees cX11_agrees 8 (some .boolean) 3 := ⟨big_6 (List.mem_of_getElem? (i := 142) rfl) rfl, big_6 (List.mem_of_getElem? (i := 144) rfl) rfl, big_0 (List.mem_of_getElem? (i := 63) rfl) rfl, big_1 (List.mem_of_getElem? (i := 11) rfl) rfl, cd_X11_agrees, rfl, by decide, by decide, by decide⟩
theorem cd_X11_prepares : Cond.code yX11_prepares cX11_prepares 3 none ∈ BIG := big_6 (List.mem_of_getElem? (i := 124) rfl) rfl
theorem k_11_257 : LkV RX11 257 RX11 yX11_prepares cX11_prepares 3 none 0 := ⟨big_6 (List.mem_of_getElem? (i := 121) rfl) rfl, big_6 (List.mem_of_getElem? (i := 123) rfl) rfl, big_0 (List.mem_of_getElem? (i := 60) rfl) rfl, big_1 (List.mem_of_getElem? (i := 11) rfl) rfl, cd_X11_prepares, rfl, by decide, by decide, by decide⟩
theorem cd_X11_xAt : Cond.code yX11_xAt cX11_xAt 1 (some .int) ∈ BIG := big_6 (List.mem_of_getElem? (i := 131) rfl) rfl
theorem k_11_263 : LkS RX11 263 yX11_xAt cX11_xAt 1 (some .int) 1 := ⟨big_6 (List.mem_of_getElem? (i := 129) rfl) rfl, big_6 (List.mem_of_getElem? (i := 130) rfl) rfl, big_1 (List.mem_of_getElem? (i := 11) rfl) rfl, cd_X11_xAt, by decide, by decide, by decide⟩
theorem cd_X11_yAt : Cond.code yX11_yAt cX11_yAt 1 (some .int) ∈ BIG := big_6 (List.mem_of_getElem? (i := 134) rfl) rfl
theorem k_11_267 : LkS RX11 267 yX11_yAt cX11_yAt 1 (some .int) 1 := ⟨big_6 (List.mem_of_getElem? (i := 132) rfl) rfl, big_6 (List.mem_of_getElem? (i := 133) rfl) rfl, big_1 (List.mem_of_getElem? (i := 11) rfl) rfl, cd_X11_yAt, by decide, by decide, by decide⟩
theorem cd_X11_agreesAll : Cond.code yX11_agreesAll cX11_agreesAll 6 (some .boolean) ∈ BIG := big_6 (List.mem_of_getElem? (i := 138) rfl) rfl
theorem k_11_270 : LkV RX11 270 RX11 yX11_agreesAll cX11_agreesAll 6 (some .boolean) 3 := ⟨big_6 (List.mem_of_getElem? (i := 135) rfl) rfl, big_6 (List.mem_of_getElem? (i := 137) rfl) rfl, big_0 (List.mem_of_getElem? (i := 62) rfl) rfl, big_1 (List.mem_of_getElem? (i := 11) rfl) rfl, cd_X11_agreesAll, rfl, by decide, by decide, by decide⟩
theorem cd_X11_finds : Cond.code yX11_finds cX11_finds 2 none ∈ BIG := big_6 (List.mem_of_getElem? (i := 120) rfl) rfl
theorem k_11_276 : LkV RX11 276 RX11 yX11_finds cX11_finds 2 none 0 := ⟨big_6 (List.mem_of_getElem? (i := 117) rfl) rfl, big_6 (List.mem_of_getElem? (i := 119) rfl) rfl, big_0 (List.mem_of_getElem? (i := 59) rfl) rfl, big_1 (List.mem_of_getElem? (i := 11) rfl) rfl, cd_X11_finds, rfl, by decide, by decide, by decide⟩
theorem k_11_281 : LkS RX11 281 yJ9_max_f86c9 cJ9_max_f86c9 4 (some .long) 2 := ⟨big_6 (List.mem_of_getElem? (i := 152) rfl) rfl, big_3 (List.mem_of_getElem? (i := 172) rfl) rfl, big_1 (List.mem_of_getElem? (i := 12) rfl) rfl, cd_J9_max_f86c9, by decide, by decide, by decide⟩
theorem cd_X11_isPull : Cond.code yX11_isPull cX11_isPull 2 (some .boolean) ∈ BIG := big_6 (List.mem_of_getElem? (i := 159) rfl) rfl
theorem k_11_287 : LkS RX11 287 yX11_isPull cX11_isPull 2 (some .boolean) 2 := ⟨big_6 (List.mem_of_getElem? (i := 157) rfl) rfl, big_6 (List.mem_of_getElem? (i := 158) rfl) rfl, big_1 (List.mem_of_getElem? (i := 11) rfl) rfl, cd_X11_isPull, by decide, by decide, by decide⟩
theorem k_11_290 : LkS RX11 290 yJ6_bitCount_0f7a4 cJ6_bitCount_0f7a4 1 (some .int) 1 := ⟨big_6 (List.mem_of_getElem? (i := 166) rfl) rfl, big_3 (List.mem_of_getElem? (i := 187) rfl) rfl, big_1 (List.mem_of_getElem? (i := 18) rfl) rfl, cd_J6_bitCount_0f7a4, by decide, by decide, by decide⟩
theorem cd_X11_some : Cond.code yX11_some cX11_some 3 (some .boolean) ∈ BIG := big_6 (List.mem_of_getElem? (i := 170) rfl) rfl
theorem k_11_295 : LkV RX11 295 RX11 yX11_some cX11_some 3 (some .boolean) 1 := ⟨big_6 (List.mem_of_getElem? (i := 167) rfl) rfl, big_6 (List.mem_of_getElem? (i := 169) rfl) rfl, big_0 (List.mem_of_getElem? (i := 64) rfl) rfl, big_1 (List.mem_of_getElem? (i := 11) rfl) rfl, cd_X11_some, rfl, by decide, by decide, by decide⟩
theorem cd_X11_sorts : Cond.code yX11_sorts cX11_sorts 8 none ∈ BIG := big_6 (List.mem_of_getElem? (i := 191) rfl) rfl
theorem k_11_298 : LkV RX11 298 RX11 yX11_sorts cX11_sorts 8 none 2 := ⟨big_6 (List.mem_of_getElem? (i := 188) rfl) rfl, big_6 (List.mem_of_getElem? (i := 190) rfl) rfl, big_0 (List.mem_of_getElem? (i := 68) rfl) rfl, big_1 (List.mem_of_getElem? (i := 11) rfl) rfl, cd_X11_sorts, rfl, by decide, by decide, by decide⟩
theorem cd_X11_sizeOf : Cond.code yX11_sizeOf cX11_sizeOf 2 (some .long) ∈ BIG := big_6 (List.mem_of_getElem? (i := 187) rfl) rfl
theorem k_11_307 : LkV RX11 307 RX11 yX11_sizeOf cX11_sizeOf 2 (some .long) 1 := ⟨big_6 (List.mem_of_getElem? (i := 184) rfl) rfl, big_6 (List.mem_of_getElem? (i := 186) rfl) rfl, big_0 (List.mem_of_getElem? (i := 67) rfl) rfl, big_1 (List.mem_of_getElem? (i := 11) rfl) rfl, cd_X11_sizeOf, rfl, by decide, by decide, by decide⟩
theorem cd_X11_leaves : Cond.code yX11_leaves cX11_leaves 7 (some .int) ∈ BIG := big_6 (List.mem_of_getElem? (i := 183) rfl) rfl
theorem k_11_311 : LkV RX11 311 RX11 yX11_leaves cX11_leaves 7 (some .int) 3 := ⟨big_6 (List.mem_of_getElem? (i := 180) rfl) rfl, big_6 (List.mem_of_getElem? (i := 182) rfl) rfl, big_0 (List.mem_of_getElem? (i := 66) rfl) rfl, big_1 (List.mem_of_getElem? (i := 11) rfl) rfl, cd_X11_leaves, rfl, by decide, by decide, by decide⟩
theorem cd_X11_narrows : Cond.code yX11_narrows cX11_narrows 7 (some .int) ∈ BIG := big_6 (List.mem_of_getElem? (i := 179) rfl) rfl
theorem k_11_323 : LkV RX11 323 RX11 yX11_narrows cX11_narrows 7 (some .int) 2 := ⟨big_6 (List.mem_of_getElem? (i := 176) rfl) rfl, big_6 (List.mem_of_getElem? (i := 178) rfl) rfl, big_0 (List.mem_of_getElem? (i := 65) rfl) rfl, big_1 (List.mem_of_getElem? (i := 11) rfl) rfl, cd_X11_narrows, rfl, by decide, by decide, by decide⟩
theorem cd_X11_isMended : Cond.code yX11_isMended cX11_isMended 4 (some .boolean) ∈ BIG := big_6 (List.mem_of_getElem? (i := 199) rfl) rfl
theorem k_11_326 : LkV RX11 326 RX11 yX11_isMended cX11_isMended 4 (some .boolean) 1 := ⟨big_6 (List.mem_of_getElem? (i := 196) rfl) rfl, big_6 (List.mem_of_getElem? (i := 198) rfl) rfl, big_0 (List.mem_of_getElem? (i := 69) rfl) rfl, big_1 (List.mem_of_getElem? (i := 11) rfl) rfl, cd_X11_isMended, rfl, by decide, by decide, by decide⟩
theorem cd_X11_keepsLike : Cond.code yX11_keepsLike cX11_keepsLike 7 none ∈ BIG := big_6 (List.mem_of_getElem? (i := 203) rfl) rfl
theorem k_11_332 : LkV RX11 332 RX11 yX11_keepsLike cX11_keepsLike 7 none 2 := ⟨big_6 (List.mem_of_getElem? (i := 200) rfl) rfl, big_6 (List.mem_of_getElem? (i := 202) rfl) rfl, big_0 (List.mem_of_getElem? (i := 70) rfl) rfl, big_1 (List.mem_of_getElem? (i := 11) rfl) rfl, cd_X11_keepsLike, rfl, by decide, by decide, by decide⟩
theorem cd_X11_isMan : Cond.code yX11_isMan cX11_isMan 1 (some .boolean) ∈ BIG := big_6 (List.mem_of_getElem? (i := 210) rfl) rfl
theorem k_11_337 : LkS RX11 337 yX11_isMan cX11_isMan 1 (some .boolean) 1 := ⟨big_6 (List.mem_of_getElem? (i := 208) rfl) rfl, big_6 (List.mem_of_getElem? (i := 209) rfl) rfl, big_1 (List.mem_of_getElem? (i := 11) rfl) rfl, cd_X11_isMan, by decide, by decide, by decide⟩
theorem cd_X11_told : Cond.code yX11_told cX11_told 4 (some .long) ∈ BIG := big_6 (List.mem_of_getElem? (i := 220) rfl) rfl
theorem k_11_348 : LkV RX11 348 RX11 yX11_told cX11_told 4 (some .long) 3 := ⟨big_6 (List.mem_of_getElem? (i := 217) rfl) rfl, big_6 (List.mem_of_getElem? (i := 219) rfl) rfl, big_0 (List.mem_of_getElem? (i := 71) rfl) rfl, big_1 (List.mem_of_getElem? (i := 11) rfl) rfl, cd_X11_told, rfl, by decide, by decide, by decide⟩
theorem cd_X11_restOf : Cond.code yX11_restOf cX11_restOf 2 (some .long) ∈ BIG := big_6 (List.mem_of_getElem? (i := 232) rfl) rfl
theorem k_11_358 : LkV RX11 358 RX11 yX11_restOf cX11_restOf 2 (some .long) 1 := ⟨big_6 (List.mem_of_getElem? (i := 229) rfl) rfl, big_6 (List.mem_of_getElem? (i := 231) rfl) rfl, big_0 (List.mem_of_getElem? (i := 72) rfl) rfl, big_1 (List.mem_of_getElem? (i := 11) rfl) rfl, cd_X11_restOf, rfl, by decide, by decide, by decide⟩
theorem cd_X11_bothBearings : Cond.code yX11_bothBearings cX11_bothBearings 5 (some .long) ∈ BIG := big_7 (List.mem_of_getElem? (i := 16) rfl) rfl
theorem k_11_361 : LkV RX11 361 RX11 yX11_bothBearings cX11_bothBearings 5 (some .long) 1 := ⟨big_7 (List.mem_of_getElem? (i := 13) rfl) rfl, big_7 (List.mem_of_getElem? (i := 15) rfl) rfl, big_0 (List.mem_of_getElem? (i := 77) rfl) rfl, big_1 (List.mem_of_getElem? (i := 11) rfl) rfl, cd_X11_bothBearings, rfl, by decide, by decide, by decide⟩
theorem cd_X11_asks : Cond.code yX11_asks cX11_asks 8 (some .long) ∈ BIG := big_7 (List.mem_of_getElem? (i := 12) rfl) rfl
theorem k_11_373 : LkV RX11 373 RX11 yX11_asks cX11_asks 8 (some .long) 0 := ⟨big_7 (List.mem_of_getElem? (i := 9) rfl) rfl, big_7 (List.mem_of_getElem? (i := 11) rfl) rfl, big_0 (List.mem_of_getElem? (i := 76) rfl) rfl, big_1 (List.mem_of_getElem? (i := 11) rfl) rfl, cd_X11_asks, rfl, by decide, by decide, by decide⟩
theorem cd_J9_abs_0f7a4 : Cond.code yJ9_abs_0f7a4 cJ9_abs_0f7a4 1 (some .int) ∈ BIG := big_4 (List.mem_of_getElem? (i := 152) rfl) rfl
theorem k_11_404 : LkS RX11 404 yJ9_abs_0f7a4 cJ9_abs_0f7a4 1 (some .int) 1 := ⟨big_7 (List.mem_of_getElem? (i := 17) rfl) rfl, big_4 (List.mem_of_getElem? (i := 151) rfl) rfl, big_1 (List.mem_of_getElem? (i := 12) rfl) rfl, cd_J9_abs_0f7a4, by decide, by decide, by decide⟩
theorem cd_X11_goes : Cond.code yX11_goes cX11_goes 7 none ∈ BIG := big_7 (List.mem_of_getElem? (i := 8) rfl) rfl
theorem k_11_406 : LkV RX11 406 RX11 yX11_goes cX11_goes 7 none 3 := ⟨big_7 (List.mem_of_getElem? (i := 5) rfl) rfl, big_7 (List.mem_of_getElem? (i := 7) rfl) rfl, big_0 (List.mem_of_getElem? (i := 75) rfl) rfl, big_1 (List.mem_of_getElem? (i := 11) rfl) rfl, cd_X11_goes, rfl, by decide, by decide, by decide⟩
theorem cd_X11_mends : Cond.code yX11_mends cX11_mends 6 none ∈ BIG := big_7 (List.mem_of_getElem? (i := 4) rfl) rfl
theorem k_11_410 : LkV RX11 410 RX11 yX11_mends cX11_mends 6 none 4 := ⟨big_7 (List.mem_of_getElem? (i := 1) rfl) rfl, big_7 (List.mem_of_getElem? (i := 3) rfl) rfl, big_0 (List.mem_of_getElem? (i := 74) rfl) rfl, big_1 (List.mem_of_getElem? (i := 11) rfl) rfl, cd_X11_mends, rfl, by decide, by decide, by decide⟩
theorem cd_X11_entersFound : Cond.code yX11_entersFound cX11_entersFound 2 none ∈ BIG := big_7 (List.mem_of_getElem? (i := 21) rfl) rfl
theorem k_11_414 : LkV RX11 414 RX11 yX11_entersFound cX11_entersFound 2 none 0 := ⟨big_7 (List.mem_of_getElem? (i := 18) rfl) rfl, big_7 (List.mem_of_getElem? (i := 20) rfl) rfl, big_0 (List.mem_of_getElem? (i := 78) rfl) rfl, big_1 (List.mem_of_getElem? (i := 11) rfl) rfl, cd_X11_entersFound, rfl, by decide, by decide, by decide⟩
theorem cd_X11_mended : Cond.code yX11_mended cX11_mended 5 (some .long) ∈ BIG := big_7 (List.mem_of_getElem? (i := 0) rfl) rfl
theorem k_11_417 : LkV RX11 417 RX11 yX11_mended cX11_mended 5 (some .long) 4 := ⟨big_6 (List.mem_of_getElem? (i := 237) rfl) rfl, big_6 (List.mem_of_getElem? (i := 239) rfl) rfl, big_0 (List.mem_of_getElem? (i := 73) rfl) rfl, big_1 (List.mem_of_getElem? (i := 11) rfl) rfl, cd_X11_mended, rfl, by decide, by decide, by decide⟩
theorem cd_X11_ounceOf : Cond.code yX11_ounceOf cX11_ounceOf 6 (some .int) ∈ BIG := big_7 (List.mem_of_getElem? (i := 45) rfl) rfl
theorem k_11_424 : LkV RX11 424 RX11 yX11_ounceOf cX11_ounceOf 6 (some .int) 2 := ⟨big_7 (List.mem_of_getElem? (i := 42) rfl) rfl, big_7 (List.mem_of_getElem? (i := 44) rfl) rfl, big_0 (List.mem_of_getElem? (i := 79) rfl) rfl, big_1 (List.mem_of_getElem? (i := 11) rfl) rfl, cd_X11_ounceOf, rfl, by decide, by decide, by decide⟩
theorem cd_X11_entersFraction : Cond.code yX11_entersFraction cX11_entersFraction 7 none ∈ BIG := big_7 (List.mem_of_getElem? (i := 57) rfl) rfl
theorem k_11_427 : LkV RX11 427 RX11 yX11_entersFraction cX11_entersFraction 7 none 2 := ⟨big_7 (List.mem_of_getElem? (i := 54) rfl) rfl, big_7 (List.mem_of_getElem? (i := 56) rfl) rfl, big_0 (List.mem_of_getElem? (i := 80) rfl) rfl, big_1 (List.mem_of_getElem? (i := 11) rfl) rfl, cd_X11_entersFraction, rfl, by decide, by decide, by decide⟩
theorem cd_X11_isPoint : Cond.code yX11_isPoint cX11_isPoint 2 (some .boolean) ∈ BIG := big_7 (List.mem_of_getElem? (i := 80) rfl) rfl
theorem k_11_437 : LkS RX11 437 yX11_isPoint cX11_isPoint 2 (some .boolean) 1 := ⟨big_7 (List.mem_of_getElem? (i := 78) rfl) rfl, big_7 (List.mem_of_getElem? (i := 79) rfl) rfl, big_1 (List.mem_of_getElem? (i := 11) rfl) rfl, cd_X11_isPoint, by decide, by decide, by decide⟩
theorem cd_X11_pointAt : Cond.code yX11_pointAt cX11_pointAt 3 (some .long) ∈ BIG := big_7 (List.mem_of_getElem? (i := 85) rfl) rfl
theorem k_11_441 : LkS RX11 441 yX11_pointAt cX11_pointAt 3 (some .long) 2 := ⟨big_7 (List.mem_of_getElem? (i := 83) rfl) rfl, big_7 (List.mem_of_getElem? (i := 84) rfl) rfl, big_1 (List.mem_of_getElem? (i := 11) rfl) rfl, cd_X11_pointAt, by decide, by decide, by decide⟩
theorem cd_X11_laysOut : Cond.code yX11_laysOut cX11_laysOut 13 none ∈ BIG := big_7 (List.mem_of_getElem? (i := 93) rfl) rfl
theorem k_11_448 : LkV RX11 448 RX11 yX11_laysOut cX11_laysOut 13 none 7 := ⟨big_7 (List.mem_of_getElem? (i := 90) rfl) rfl, big_7 (List.mem_of_getElem? (i := 92) rfl) rfl, big_0 (List.mem_of_getElem? (i := 81) rfl) rfl, big_1 (List.mem_of_getElem? (i := 11) rfl) rfl, cd_X11_laysOut, rfl, by decide, by decide, by decide⟩
theorem cd_X11_three : Cond.code yX11_three cX11_three 1 (some .long) ∈ BIG := big_7 (List.mem_of_getElem? (i := 96) rfl) rfl
theorem k_11_452 : LkS RX11 452 yX11_three cX11_three 1 (some .long) 1 := ⟨big_7 (List.mem_of_getElem? (i := 94) rfl) rfl, big_7 (List.mem_of_getElem? (i := 95) rfl) rfl, big_1 (List.mem_of_getElem? (i := 11) rfl) rfl, cd_X11_three, by decide, by decide, by decide⟩
theorem cd_X11_areCogs : Cond.code yX11_areCogs cX11_areCogs 1 (some .boolean) ∈ BIG := big_7 (List.mem_of_getElem? (i := 112) rfl) rfl
theorem k_11_462 : LkV RX11 462 RX11 yX11_areCogs cX11_areCogs 1 (some .boolean) 0 := ⟨big_7 (List.mem_of_getElem? (i := 109) rfl) rfl, big_7 (List.mem_of_getElem? (i := 111) rfl) rfl, big_0 (List.mem_of_getElem? (i := 82) rfl) rfl, big_1 (List.mem_of_getElem? (i := 11) rfl) rfl, cd_X11_areCogs, rfl, by decide, by decide, by decide⟩
theorem cd_X11_asTold : Cond.code yX11_asTold cX11_asTold 2 none ∈ BIG := big_7 (List.mem_of_getElem? (i := 116) rfl) rfl
theorem k_11_465 : LkV RX11 465 RX11 yX11_asTold cX11_asTold 2 none 0 := ⟨big_7 (List.mem_of_getElem? (i := 113) rfl) rfl, big_7 (List.mem_of_getElem? (i := 115) rfl) rfl, big_0 (List.mem_of_getElem? (i := 83) rfl) rfl, big_1 (List.mem_of_getElem? (i := 11) rfl) rfl, cd_X11_asTold, rfl, by decide, by decide, by decide⟩
theorem cd_X11_cogSize : Cond.code yX11_cogSize cX11_cogSize 6 (some .long) ∈ BIG := big_7 (List.mem_of_getElem? (i := 120) rfl) rfl
theorem k_11_468 : LkV RX11 468 RX11 yX11_cogSize cX11_cogSize 6 (some .long) 0 := ⟨big_7 (List.mem_of_getElem? (i := 117) rfl) rfl, big_7 (List.mem_of_getElem? (i := 119) rfl) rfl, big_0 (List.mem_of_getElem? (i := 84) rfl) rfl, big_1 (List.mem_of_getElem? (i := 11) rfl) rfl, cd_X11_cogSize, rfl, by decide, by decide, by decide⟩
theorem cd_X11_orders : Cond.code yX11_orders cX11_orders 6 none ∈ BIG := big_7 (List.mem_of_getElem? (i := 128) rfl) rfl
theorem k_11_480 : LkV RX11 480 RX11 yX11_orders cX11_orders 6 none 2 := ⟨big_7 (List.mem_of_getElem? (i := 125) rfl) rfl, big_7 (List.mem_of_getElem? (i := 127) rfl) rfl, big_0 (List.mem_of_getElem? (i := 85) rfl) rfl, big_1 (List.mem_of_getElem? (i := 11) rfl) rfl, cd_X11_orders, rfl, by decide, by decide, by decide⟩
theorem cd_X11_exchanges : Cond.code yX11_exchanges cX11_exchanges 4 none ∈ BIG := big_7 (List.mem_of_getElem? (i := 136) rfl) rfl
theorem k_11_483 : LkV RX11 483 RX11 yX11_exchanges cX11_exchanges 4 none 2 := ⟨big_7 (List.mem_of_getElem? (i := 133) rfl) rfl, big_7 (List.mem_of_getElem? (i := 135) rfl) rfl, big_0 (List.mem_of_getElem? (i := 86) rfl) rfl, big_1 (List.mem_of_getElem? (i := 11) rfl) rfl, cd_X11_exchanges, rfl, by decide, by decide, by decide⟩
theorem cd_X11_lays_ : Cond.code yX11_lays_ cX11_lays_ 2 none ∈ BIG := big_7 (List.mem_of_getElem? (i := 144) rfl) rfl
theorem k_11_495 : LkV RX11 495 RX11 yX11_lays_ cX11_lays_ 2 none 1 := ⟨big_7 (List.mem_of_getElem? (i := 141) rfl) rfl, big_7 (List.mem_of_getElem? (i := 143) rfl) rfl, big_0 (List.mem_of_getElem? (i := 87) rfl) rfl, big_1 (List.mem_of_getElem? (i := 11) rfl) rfl, cd_X11_lays_, rfl, by decide, by decide, by decide⟩
theorem cd_X11_takesKept : Cond.code yX11_takesKept cX11_takesKept 1 (some .int) ∈ BIG := big_7 (List.mem_of_getElem? (i := 152) rfl) rfl
theorem k_11_497 : LkV RX11 497 RX11 yX11_takesKept cX11_takesKept 1 (some .int) 0 := ⟨big_7 (List.mem_of_getElem? (i := 149) rfl) rfl, big_7 (List.mem_of_getElem? (i := 151) rfl) rfl, big_0 (List.mem_of_getElem? (i := 88) rfl) rfl, big_1 (List.mem_of_getElem? (i := 11) rfl) rfl, cd_X11_takesKept, rfl, by decide, by decide, by decide⟩
theorem oi_11 : Cond.methodLink RX11 500 Lib.objectInit ∈ BIG := big_7 (List.mem_of_getElem? (i := 161) rfl) rfl
theorem oi_2 : Cond.methodLink RX2 3 Lib.objectInit ∈ BIG := big_2 (List.mem_of_getElem? (i := 106) rfl) rfl
theorem k_2_20 : LnI RX2 20 yX7_init cX7_init 1 0 := ⟨⟨RX10, nst_2 (List.mem_of_getElem? (i := 108) rfl) rfl⟩, big_1 (List.mem_of_getElem? (i := 134) rfl) rfl, big_1 (List.mem_of_getElem? (i := 5) rfl) rfl, cd_X7_init, rfl, by decide, by decide, by decide⟩
theorem k_2_27 : LnI RX2 27 yX9_init cX9_init 1 0 := ⟨⟨RX10, nst_2 (List.mem_of_getElem? (i := 110) rfl) rfl⟩, big_1 (List.mem_of_getElem? (i := 205) rfl) rfl, big_1 (List.mem_of_getElem? (i := 7) rfl) rfl, cd_X9_init, rfl, by decide, by decide, by decide⟩
theorem k_2_39 : LnS RX2 39 yX10_copy cX10_copy 3 none 2 := ⟨⟨RX10, nst_5 (List.mem_of_getElem? (i := 97) rfl) rfl⟩, big_5 (List.mem_of_getElem? (i := 74) rfl) rfl, big_1 (List.mem_of_getElem? (i := 1) rfl) rfl, cd_X10_copy, by decide, by decide, by decide⟩
theorem cd_X7_copyApart : Cond.code yX7_copyApart cX7_copyApart 3 none ∈ BIG := big_5 (List.mem_of_getElem? (i := 101) rfl) rfl
theorem k_2_43 : LkV RX2 43 RX7 yX7_copyApart cX7_copyApart 3 none 1 := ⟨big_5 (List.mem_of_getElem? (i := 98) rfl) rfl, big_5 (List.mem_of_getElem? (i := 99) rfl) rfl, big_5 (List.mem_of_getElem? (i := 100) rfl) rfl, big_1 (List.mem_of_getElem? (i := 5) rfl) rfl, cd_X7_copyApart, rfl, by decide, by decide, by decide⟩
theorem cd_X9_copyTrials : Cond.code yX9_copyTrials cX9_copyTrials 3 none ∈ BIG := big_5 (List.mem_of_getElem? (i := 106) rfl) rfl
theorem k_2_47 : LkV RX2 47 RX9 yX9_copyTrials cX9_copyTrials 3 none 1 := ⟨big_5 (List.mem_of_getElem? (i := 103) rfl) rfl, big_5 (List.mem_of_getElem? (i := 104) rfl) rfl, big_5 (List.mem_of_getElem? (i := 105) rfl) rfl, big_1 (List.mem_of_getElem? (i := 7) rfl) rfl, cd_X9_copyTrials, rfl, by decide, by decide, by decide⟩
theorem oi_3 : Cond.methodLink RX3 3 Lib.objectInit ∈ BIG := big_3 (List.mem_of_getElem? (i := 209) rfl) rfl
theorem k_3_36 : LkV RX3 36 RX9 yX9_firstAgainst cX9_firstAgainst 4 (some .int) 2 := ⟨big_4 (List.mem_of_getElem? (i := 5) rfl) rfl, big_3 (List.mem_of_getElem? (i := 146) rfl) rfl, big_3 (List.mem_of_getElem? (i := 147) rfl) rfl, big_1 (List.mem_of_getElem? (i := 7) rfl) rfl, cd_X9_firstAgainst, rfl, by decide, by decide, by decide⟩
theorem cd_X3_sizeMade : Cond.code yX3_sizeMade cX3_sizeMade 2 (some .long) ∈ BIG := big_4 (List.mem_of_getElem? (i := 26) rfl) rfl
theorem k_3_42 : LkV RX3 42 RX3 yX3_sizeMade cX3_sizeMade 2 (some .long) 1 := ⟨big_4 (List.mem_of_getElem? (i := 23) rfl) rfl, big_4 (List.mem_of_getElem? (i := 25) rfl) rfl, big_0 (List.mem_of_getElem? (i := 18) rfl) rfl, big_1 (List.mem_of_getElem? (i := 19) rfl) rfl, cd_X3_sizeMade, rfl, by decide, by decide, by decide⟩
theorem cd_X3_tallied : Cond.code yX3_tallied cX3_tallied 6 (some .int) ∈ BIG := big_4 (List.mem_of_getElem? (i := 30) rfl) rfl
theorem k_3_46 : LkV RX3 46 RX3 yX3_tallied cX3_tallied 6 (some .int) 2 := ⟨big_4 (List.mem_of_getElem? (i := 27) rfl) rfl, big_4 (List.mem_of_getElem? (i := 29) rfl) rfl, big_0 (List.mem_of_getElem? (i := 19) rfl) rfl, big_1 (List.mem_of_getElem? (i := 19) rfl) rfl, cd_X3_tallied, rfl, by decide, by decide, by decide⟩
theorem k_3_50 : LkS RX3 50 yJ9_max_7cf53 cJ9_max_7cf53 2 (some .int) 2 := ⟨big_4 (List.mem_of_getElem? (i := 32) rfl) rfl, big_3 (List.mem_of_getElem? (i := 27) rfl) rfl, big_1 (List.mem_of_getElem? (i := 12) rfl) rfl, cd_J9_max_7cf53, by decide, by decide, by decide⟩
theorem oi_4 : Cond.methodLink RX4 3 Lib.objectInit ∈ BIG := big_1 (List.mem_of_getElem? (i := 50) rfl) rfl
theorem k_4_19 : LkS RX4 19 yJ9_min_7cf53 cJ9_min_7cf53 2 (some .int) 2 := ⟨big_2 (List.mem_of_getElem? (i := 207) rfl) rfl, big_2 (List.mem_of_getElem? (i := 208) rfl) rfl, big_1 (List.mem_of_getElem? (i := 12) rfl) rfl, cd_J9_min_7cf53, by decide, by decide, by decide⟩
theorem cd_X4_readLine : Cond.code yX4_readLine cX4_readLine 4 (some .boolean) ∈ BIG := big_2 (List.mem_of_getElem? (i := 213) rfl) rfl
theorem k_4_40 : LkV RX4 40 RX4 yX4_readLine cX4_readLine 4 (some .boolean) 3 := ⟨big_2 (List.mem_of_getElem? (i := 210) rfl) rfl, big_2 (List.mem_of_getElem? (i := 212) rfl) rfl, big_0 (List.mem_of_getElem? (i := 0) rfl) rfl, big_1 (List.mem_of_getElem? (i := 3) rfl) rfl, cd_X4_readLine, rfl, by decide, by decide, by decide⟩
theorem cd_X4_readSign : Cond.code yX4_readSign cX4_readSign 2 (some .boolean) ∈ BIG := big_2 (List.mem_of_getElem? (i := 229) rfl) rfl
theorem k_4_55 : LkV RX4 55 RX4 yX4_readSign cX4_readSign 2 (some .boolean) 1 := ⟨big_2 (List.mem_of_getElem? (i := 226) rfl) rfl, big_2 (List.mem_of_getElem? (i := 228) rfl) rfl, big_0 (List.mem_of_getElem? (i := 4) rfl) rfl, big_1 (List.mem_of_getElem? (i := 3) rfl) rfl, cd_X4_readSign, rfl, by decide, by decide, by decide⟩
theorem cd_X4_readHole : Cond.code yX4_readHole cX4_readHole 3 (some .boolean) ∈ BIG := big_2 (List.mem_of_getElem? (i := 217) rfl) rfl
theorem k_4_59 : LkV RX4 59 RX4 yX4_readHole cX4_readHole 3 (some .boolean) 1 := ⟨big_2 (List.mem_of_getElem? (i := 214) rfl) rfl, big_2 (List.mem_of_getElem? (i := 216) rfl) rfl, big_0 (List.mem_of_getElem? (i := 1) rfl) rfl, big_1 (List.mem_of_getElem? (i := 3) rfl) rfl, cd_X4_readHole, rfl, by decide, by decide, by decide⟩
theorem cd_X4_readSpeed : Cond.code yX4_readSpeed cX4_readSpeed 3 (some .boolean) ∈ BIG := big_2 (List.mem_of_getElem? (i := 237) rfl) rfl
theorem k_4_63 : LkV RX4 63 RX4 yX4_readSpeed cX4_readSpeed 3 (some .boolean) 1 := ⟨big_2 (List.mem_of_getElem? (i := 234) rfl) rfl, big_2 (List.mem_of_getElem? (i := 236) rfl) rfl, big_0 (List.mem_of_getElem? (i := 6) rfl) rfl, big_1 (List.mem_of_getElem? (i := 3) rfl) rfl, cd_X4_readSpeed, rfl, by decide, by decide, by decide⟩
theorem cd_X4_readCog : Cond.code yX4_readCog cX4_readCog 3 (some .boolean) ∈ BIG := big_3 (List.mem_of_getElem? (i := 1) rfl) rfl
theorem k_4_67 : LkV RX4 67 RX4 yX4_readCog cX4_readCog 3 (some .boolean) 1 := ⟨big_2 (List.mem_of_getElem? (i := 238) rfl) rfl, big_3 (List.mem_of_getElem? (i := 0) rfl) rfl, big_0 (List.mem_of_getElem? (i := 7) rfl) rfl, big_1 (List.mem_of_getElem? (i := 3) rfl) rfl, cd_X4_readCog, rfl, by decide, by decide, by decide⟩
theorem cd_X4_readNumber : Cond.code yX4_readNumber cX4_readNumber 3 (some .boolean) ∈ BIG := big_2 (List.mem_of_getElem? (i := 221) rfl) rfl
theorem k_4_71 : LkV RX4 71 RX4 yX4_readNumber cX4_readNumber 3 (some .boolean) 2 := ⟨big_2 (List.mem_of_getElem? (i := 218) rfl) rfl, big_2 (List.mem_of_getElem? (i := 220) rfl) rfl, big_0 (List.mem_of_getElem? (i := 2) rfl) rfl, big_1 (List.mem_of_getElem? (i := 3) rfl) rfl, cd_X4_readNumber, rfl, by decide, by decide, by decide⟩
theorem cd_X4_readSigned : Cond.code yX4_readSigned cX4_readSigned 2 (some .boolean) ∈ BIG := big_2 (List.mem_of_getElem? (i := 233) rfl) rfl
theorem k_4_81 : LkV RX4 81 RX4 yX4_readSigned cX4_readSigned 2 (some .boolean) 0 := ⟨big_2 (List.mem_of_getElem? (i := 230) rfl) rfl, big_2 (List.mem_of_getElem? (i := 232) rfl) rfl, big_0 (List.mem_of_getElem? (i := 5) rfl) rfl, big_1 (List.mem_of_getElem? (i := 3) rfl) rfl, cd_X4_readSigned, rfl, by decide, by decide, by decide⟩
theorem cd_X4_isDigitHere : Cond.code yX4_isDigitHere cX4_isDigitHere 1 (some .boolean) ∈ BIG := big_2 (List.mem_of_getElem? (i := 225) rfl) rfl
theorem k_4_103 : LkV RX4 103 RX4 yX4_isDigitHere cX4_isDigitHere 1 (some .boolean) 0 := ⟨big_2 (List.mem_of_getElem? (i := 222) rfl) rfl, big_2 (List.mem_of_getElem? (i := 224) rfl) rfl, big_0 (List.mem_of_getElem? (i := 3) rfl) rfl, big_1 (List.mem_of_getElem? (i := 3) rfl) rfl, cd_X4_isDigitHere, rfl, by decide, by decide, by decide⟩
theorem oi_5 : Cond.methodLink RX5 3 Lib.objectInit ∈ BIG := big_1 (List.mem_of_getElem? (i := 83) rfl) rfl
theorem k_5_37 : LkV RX5 37 RX5 yX5_leadOfHoles cX5_leadOfHoles 6 (some .int) 2 := ⟨big_3 (List.mem_of_getElem? (i := 74) rfl) rfl, big_3 (List.mem_of_getElem? (i := 75) rfl) rfl, big_3 (List.mem_of_getElem? (i := 76) rfl) rfl, big_1 (List.mem_of_getElem? (i := 4) rfl) rfl, cd_X5_leadOfHoles, rfl, by decide, by decide, by decide⟩
theorem k_5_41 : LkV RX5 41 RX5 yX5_isHole cX5_isHole 2 (some .boolean) 1 := ⟨big_3 (List.mem_of_getElem? (i := 78) rfl) rfl, big_3 (List.mem_of_getElem? (i := 11) rfl) rfl, big_3 (List.mem_of_getElem? (i := 12) rfl) rfl, big_1 (List.mem_of_getElem? (i := 4) rfl) rfl, cd_X5_isHole, rfl, by decide, by decide, by decide⟩
theorem oi_6 : Cond.methodLink RX6 3 Lib.objectInit ∈ BIG := big_2 (List.mem_of_getElem? (i := 51) rfl) rfl
theorem cd_X6_stepAt : Cond.code yX6_stepAt cX6_stepAt 2 (some .int) ∈ BIG := big_4 (List.mem_of_getElem? (i := 113) rfl) rfl
theorem k_6_51 : LkS RX6 51 yX6_stepAt cX6_stepAt 2 (some .int) 2 := ⟨big_4 (List.mem_of_getElem? (i := 111) rfl) rfl, big_4 (List.mem_of_getElem? (i := 112) rfl) rfl, big_1 (List.mem_of_getElem? (i := 9) rfl) rfl, cd_X6_stepAt, by decide, by decide, by decide⟩
theorem k_6_55 : LnS RX6 55 yX10_sizeOf cX10_sizeOf 4 (some .long) 2 := ⟨⟨RX10, nst_4 (List.mem_of_getElem? (i := 114) rfl) rfl⟩, big_3 (List.mem_of_getElem? (i := 92) rfl) rfl, big_1 (List.mem_of_getElem? (i := 1) rfl) rfl, cd_X10_sizeOf, by decide, by decide, by decide⟩
theorem cd_X6_costNow : Cond.code yX6_costNow cX6_costNow 6 (some .long) ∈ BIG := big_4 (List.mem_of_getElem? (i := 122) rfl) rfl
theorem k_6_65 : LkV RX6 65 RX6 yX6_costNow cX6_costNow 6 (some .long) 0 := ⟨big_4 (List.mem_of_getElem? (i := 119) rfl) rfl, big_4 (List.mem_of_getElem? (i := 121) rfl) rfl, big_0 (List.mem_of_getElem? (i := 24) rfl) rfl, big_1 (List.mem_of_getElem? (i := 9) rfl) rfl, cd_X6_costNow, rfl, by decide, by decide, by decide⟩
theorem cd_X6_dig : Cond.code yX6_dig cX6_dig 5 none ∈ BIG := big_4 (List.mem_of_getElem? (i := 127) rfl) rfl
theorem k_6_73 : LkV RX6 73 RX6 yX6_dig cX6_dig 5 none 2 := ⟨big_4 (List.mem_of_getElem? (i := 124) rfl) rfl, big_4 (List.mem_of_getElem? (i := 126) rfl) rfl, big_0 (List.mem_of_getElem? (i := 25) rfl) rfl, big_1 (List.mem_of_getElem? (i := 9) rfl) rfl, cd_X6_dig, rfl, by decide, by decide, by decide⟩
theorem cd_X6_digLast : Cond.code yX6_digLast cX6_digLast 11 none ∈ BIG := big_4 (List.mem_of_getElem? (i := 131) rfl) rfl
theorem k_6_77 : LkV RX6 77 RX6 yX6_digLast cX6_digLast 11 none 1 := ⟨big_4 (List.mem_of_getElem? (i := 128) rfl) rfl, big_4 (List.mem_of_getElem? (i := 130) rfl) rfl, big_0 (List.mem_of_getElem? (i := 26) rfl) rfl, big_1 (List.mem_of_getElem? (i := 9) rfl) rfl, cd_X6_digLast, rfl, by decide, by decide, by decide⟩
theorem cd_X6_lay : Cond.code yX6_lay cX6_lay 5 none ∈ BIG := big_4 (List.mem_of_getElem? (i := 164) rfl) rfl
theorem k_6_81 : LkV RX6 81 RX6 yX6_lay cX6_lay 5 none 2 := ⟨big_4 (List.mem_of_getElem? (i := 161) rfl) rfl, big_4 (List.mem_of_getElem? (i := 163) rfl) rfl, big_0 (List.mem_of_getElem? (i := 31) rfl) rfl, big_1 (List.mem_of_getElem? (i := 9) rfl) rfl, cd_X6_lay, rfl, by decide, by decide, by decide⟩
theorem cd_X6_offer : Cond.code yX6_offer cX6_offer 4 none ∈ BIG := big_4 (List.mem_of_getElem? (i := 156) rfl) rfl
theorem k_6_84 : LkV RX6 84 RX6 yX6_offer cX6_offer 4 none 1 := ⟨big_4 (List.mem_of_getElem? (i := 153) rfl) rfl, big_4 (List.mem_of_getElem? (i := 155) rfl) rfl, big_0 (List.mem_of_getElem? (i := 29) rfl) rfl, big_1 (List.mem_of_getElem? (i := 9) rfl) rfl, cd_X6_offer, rfl, by decide, by decide, by decide⟩
theorem cd_X6_slopeOf : Cond.code yX6_slopeOf cX6_slopeOf 5 (some .long) ∈ BIG := big_4 (List.mem_of_getElem? (i := 135) rfl) rfl
theorem k_6_88 : LkV RX6 88 RX6 yX6_slopeOf cX6_slopeOf 5 (some .long) 1 := ⟨big_4 (List.mem_of_getElem? (i := 132) rfl) rfl, big_4 (List.mem_of_getElem? (i := 134) rfl) rfl, big_0 (List.mem_of_getElem? (i := 27) rfl) rfl, big_1 (List.mem_of_getElem? (i := 9) rfl) rfl, cd_X6_slopeOf, rfl, by decide, by decide, by decide⟩
theorem cd_X6_footOf : Cond.code yX6_footOf cX6_footOf 10 (some .long) ∈ BIG := big_4 (List.mem_of_getElem? (i := 139) rfl) rfl
theorem k_6_92 : LkV RX6 92 RX6 yX6_footOf cX6_footOf 10 (some .long) 2 := ⟨big_4 (List.mem_of_getElem? (i := 136) rfl) rfl, big_4 (List.mem_of_getElem? (i := 138) rfl) rfl, big_0 (List.mem_of_getElem? (i := 28) rfl) rfl, big_1 (List.mem_of_getElem? (i := 9) rfl) rfl, cd_X6_footOf, rfl, by decide, by decide, by decide⟩
theorem k_6_98 : LkS RX6 98 yJ9_abs_0f7a4 cJ9_abs_0f7a4 1 (some .int) 1 := ⟨big_4 (List.mem_of_getElem? (i := 150) rfl) rfl, big_4 (List.mem_of_getElem? (i := 151) rfl) rfl, big_1 (List.mem_of_getElem? (i := 12) rfl) rfl, cd_J9_abs_0f7a4, by decide, by decide, by decide⟩
theorem cd_J9_floorDiv_f86c9 : Cond.code yJ9_floorDiv_f86c9 cJ9_floorDiv_f86c9 6 (some .long) ∈ BIG := big_4 (List.mem_of_getElem? (i := 142) rfl) rfl
theorem k_6_104 : LkS RX6 104 yJ9_floorDiv_f86c9 cJ9_floorDiv_f86c9 6 (some .long) 2 := ⟨big_4 (List.mem_of_getElem? (i := 140) rfl) rfl, big_4 (List.mem_of_getElem? (i := 141) rfl) rfl, big_1 (List.mem_of_getElem? (i := 12) rfl) rfl, cd_J9_floorDiv_f86c9, by decide, by decide, by decide⟩
theorem cd_J9_floorMod_f86c9 : Cond.code yJ9_floorMod_f86c9 cJ9_floorMod_f86c9 6 (some .long) ∈ BIG := big_4 (List.mem_of_getElem? (i := 146) rfl) rfl
theorem k_6_107 : LkS RX6 107 yJ9_floorMod_f86c9 cJ9_floorMod_f86c9 6 (some .long) 2 := ⟨big_4 (List.mem_of_getElem? (i := 144) rfl) rfl, big_4 (List.mem_of_getElem? (i := 145) rfl) rfl, big_1 (List.mem_of_getElem? (i := 12) rfl) rfl, cd_J9_floorMod_f86c9, by decide, by decide, by decide⟩
theorem cd_J9_min_f86c9 : Cond.code yJ9_min_f86c9 cJ9_min_f86c9 4 (some .long) ∈ BIG := big_4 (List.mem_of_getElem? (i := 149) rfl) rfl
theorem k_6_110 : LkS RX6 110 yJ9_min_f86c9 cJ9_min_f86c9 4 (some .long) 2 := ⟨big_4 (List.mem_of_getElem? (i := 147) rfl) rfl, big_4 (List.mem_of_getElem? (i := 148) rfl) rfl, big_1 (List.mem_of_getElem? (i := 12) rfl) rfl, cd_J9_min_f86c9, by decide, by decide, by decide⟩
theorem k_6_113 : LkS RX6 113 yJ9_max_f86c9 cJ9_max_f86c9 4 (some .long) 2 := ⟨big_4 (List.mem_of_getElem? (i := 123) rfl) rfl, big_3 (List.mem_of_getElem? (i := 172) rfl) rfl, big_1 (List.mem_of_getElem? (i := 12) rfl) rfl, cd_J9_max_f86c9, by decide, by decide, by decide⟩
theorem cd_X6_isPreferred : Cond.code yX6_isPreferred cX6_isPreferred 2 (some .boolean) ∈ BIG := big_4 (List.mem_of_getElem? (i := 160) rfl) rfl
theorem k_6_116 : LkV RX6 116 RX6 yX6_isPreferred cX6_isPreferred 2 (some .boolean) 0 := ⟨big_4 (List.mem_of_getElem? (i := 157) rfl) rfl, big_4 (List.mem_of_getElem? (i := 159) rfl) rfl, big_0 (List.mem_of_getElem? (i := 30) rfl) rfl, big_1 (List.mem_of_getElem? (i := 9) rfl) rfl, cd_X6_isPreferred, rfl, by decide, by decide, by decide⟩
theorem oi_7 : Cond.methodLink RX7 3 Lib.objectInit ∈ BIG := big_1 (List.mem_of_getElem? (i := 136) rfl) rfl
theorem k_7_32 : LnS RX7 32 yX10_copy cX10_copy 3 none 2 := ⟨⟨RX10, nst_5 (List.mem_of_getElem? (i := 102) rfl) rfl⟩, big_5 (List.mem_of_getElem? (i := 74) rfl) rfl, big_1 (List.mem_of_getElem? (i := 1) rfl) rfl, cd_X10_copy, by decide, by decide, by decide⟩
theorem oi_8 : Cond.methodLink RX8 3 Lib.objectInit ∈ BIG := big_1 (List.mem_of_getElem? (i := 34) rfl) rfl
theorem k_8_19 : LkS RX8 19 yJ9_abs_067f4 cJ9_abs_067f4 2 (some .long) 1 := ⟨big_4 (List.mem_of_getElem? (i := 228) rfl) rfl, big_4 (List.mem_of_getElem? (i := 61) rfl) rfl, big_1 (List.mem_of_getElem? (i := 12) rfl) rfl, cd_J9_abs_067f4, by decide, by decide, by decide⟩
theorem cd_X8_greatestDivisor : Cond.code yX8_greatestDivisor cX8_greatestDivisor 11 (some .long) ∈ BIG := big_4 (List.mem_of_getElem? (i := 231) rfl) rfl
theorem k_8_25 : LkS RX8 25 yX8_greatestDivisor cX8_greatestDivisor 11 (some .long) 2 := ⟨big_4 (List.mem_of_getElem? (i := 229) rfl) rfl, big_4 (List.mem_of_getElem? (i := 230) rfl) rfl, big_1 (List.mem_of_getElem? (i := 2) rfl) rfl, cd_X8_greatestDivisor, by decide, by decide, by decide⟩
theorem k_8_29 : LkV RX8 29 RX8 yX8_add cX8_add 3 none 1 := ⟨big_4 (List.mem_of_getElem? (i := 232) rfl) rfl, big_3 (List.mem_of_getElem? (i := 88) rfl) rfl, big_3 (List.mem_of_getElem? (i := 89) rfl) rfl, big_1 (List.mem_of_getElem? (i := 2) rfl) rfl, cd_X8_add, rfl, by decide, by decide, by decide⟩
theorem oi_9 : Cond.methodLink RX9 3 Lib.objectInit ∈ BIG := big_1 (List.mem_of_getElem? (i := 207) rfl) rfl
theorem cd_X9_addTrial : Cond.code yX9_addTrial cX9_addTrial 7 (some .int) ∈ BIG := big_3 (List.mem_of_getElem? (i := 110) rfl) rfl
theorem k_9_40 : LkV RX9 40 RX9 yX9_addTrial cX9_addTrial 7 (some .int) 4 := ⟨big_3 (List.mem_of_getElem? (i := 107) rfl) rfl, big_3 (List.mem_of_getElem? (i := 109) rfl) rfl, big_0 (List.mem_of_getElem? (i := 10) rfl) rfl, big_1 (List.mem_of_getElem? (i := 7) rfl) rfl, cd_X9_addTrial, rfl, by decide, by decide, by decide⟩
theorem k_9_48 : LkV RX9 48 RX5 yX5_leadWithPound cX5_leadWithPound 4 (some .int) 2 := ⟨big_3 (List.mem_of_getElem? (i := 111) rfl) rfl, big_3 (List.mem_of_getElem? (i := 71) rfl) rfl, big_3 (List.mem_of_getElem? (i := 72) rfl) rfl, big_1 (List.mem_of_getElem? (i := 4) rfl) rfl, cd_X5_leadWithPound, rfl, by decide, by decide, by decide⟩
theorem k_9_54 : LnS RX9 54 yX10_isWithin cX10_isWithin 2 (some .boolean) 2 := ⟨⟨RX10, nst_3 (List.mem_of_getElem? (i := 153) rfl) rfl⟩, big_3 (List.mem_of_getElem? (i := 41) rfl) rfl, big_1 (List.mem_of_getElem? (i := 1) rfl) rfl, cd_X10_isWithin, by decide, by decide, by decide⟩
theorem k_9_58 : LnS RX9 58 yX10_sizeOf cX10_sizeOf 4 (some .long) 2 := ⟨⟨RX10, nst_3 (List.mem_of_getElem? (i := 154) rfl) rfl⟩, big_3 (List.mem_of_getElem? (i := 92) rfl) rfl, big_1 (List.mem_of_getElem? (i := 1) rfl) rfl, cd_X10_sizeOf, by decide, by decide, by decide⟩
theorem cd_X9_agrees : Cond.code yX9_agrees cX9_agrees 8 (some .boolean) ∈ BIG := big_3 (List.mem_of_getElem? (i := 152) rfl) rfl
theorem k_9_62 : LkV RX9 62 RX9 yX9_agrees cX9_agrees 8 (some .boolean) 3 := ⟨big_3 (List.mem_of_getElem? (i := 149) rfl) rfl, big_3 (List.mem_of_getElem? (i := 151) rfl) rfl, big_0 (List.mem_of_getElem? (i := 14) rfl) rfl, big_1 (List.mem_of_getElem? (i := 7) rfl) rfl, cd_X9_agrees, rfl, by decide, by decide, by decide⟩
theorem k_9_66 : LnS RX9 66 yX10_copy cX10_copy 3 none 2 := ⟨⟨RX10, nst_5 (List.mem_of_getElem? (i := 107) rfl) rfl⟩, big_5 (List.mem_of_getElem? (i := 74) rfl) rfl, big_1 (List.mem_of_getElem? (i := 1) rfl) rfl, cd_X10_copy, by decide, by decide, by decide⟩
theorem cd_J13_compare_74951 : Cond.code yJ13_compare_74951 cJ13_compare_74951 4 (some .int) ∈ BIG := big_4 (List.mem_of_getElem? (i := 69) rfl) rfl
theorem k_J13_302 : LkS RJ13 302 yJ13_compare_74951 cJ13_compare_74951 4 (some .int) 2 := ⟨big_4 (List.mem_of_getElem? (i := 67) rfl) rfl, big_4 (List.mem_of_getElem? (i := 68) rfl) rfl, big_1 (List.mem_of_getElem? (i := 20) rfl) rfl, cd_J13_compare_74951, by decide, by decide, by decide⟩
theorem cd_X10_hole : Cond.code yX10_hole cX10_hole 3 (some .int) ∈ BIG := big_5 (List.mem_of_getElem? (i := 127) rfl) rfl
theorem k_L_7 : LkV RL 7 RX10 yX10_hole cX10_hole 3 (some .int) 2 := ⟨big_5 (List.mem_of_getElem? (i := 124) rfl) rfl, big_5 (List.mem_of_getElem? (i := 125) rfl) rfl, big_5 (List.mem_of_getElem? (i := 126) rfl) rfl, big_1 (List.mem_of_getElem? (i := 1) rfl) rfl, cd_X10_hole, rfl, by decide, by decide, by decide⟩
theorem cd_X10_row : Cond.code yX10_row cX10_row 2 (some .long) ∈ BIG := big_5 (List.mem_of_getElem? (i := 201) rfl) rfl
theorem k_L_15 : LkV RL 15 RX10 yX10_row cX10_row 2 (some .long) 1 := ⟨big_5 (List.mem_of_getElem? (i := 198) rfl) rfl, big_5 (List.mem_of_getElem? (i := 199) rfl) rfl, big_5 (List.mem_of_getElem? (i := 200) rfl) rfl, big_1 (List.mem_of_getElem? (i := 1) rfl) rfl, cd_X10_row, rfl, by decide, by decide, by decide⟩
theorem cd_X10_init : Cond.code yX10_init cX10_init 2 none ∈ BIG := big_1 (List.mem_of_getElem? (i := 25) rfl) rfl
theorem k_L_19 : LkI RL 19 yX10_init cX10_init 2 0 := ⟨big_1 (List.mem_of_getElem? (i := 23) rfl) rfl, big_1 (List.mem_of_getElem? (i := 24) rfl) rfl, big_1 (List.mem_of_getElem? (i := 1) rfl) rfl, cd_X10_init, rfl, by decide, by decide, by decide⟩
theorem cd_X11_init : Cond.code yX11_init cX11_init 1 none ∈ BIG := big_7 (List.mem_of_getElem? (i := 160) rfl) rfl
theorem k_L_22 : LkI RL 22 yX11_init cX11_init 1 0 := ⟨big_7 (List.mem_of_getElem? (i := 158) rfl) rfl, big_7 (List.mem_of_getElem? (i := 159) rfl) rfl, big_1 (List.mem_of_getElem? (i := 11) rfl) rfl, cd_X11_init, rfl, by decide, by decide, by decide⟩
theorem cd_X10_sign : Cond.code yX10_sign cX10_sign 2 (some .int) ∈ BIG := big_2 (List.mem_of_getElem? (i := 186) rfl) rfl
theorem k_L_23 : LkV RL 23 RX10 yX10_sign cX10_sign 2 (some .int) 1 := ⟨big_2 (List.mem_of_getElem? (i := 183) rfl) rfl, big_2 (List.mem_of_getElem? (i := 184) rfl) rfl, big_2 (List.mem_of_getElem? (i := 185) rfl) rfl, big_1 (List.mem_of_getElem? (i := 1) rfl) rfl, cd_X10_sign, rfl, by decide, by decide, by decide⟩
theorem cd_X11_sign : Cond.code yX11_sign cX11_sign 3 (some .int) ∈ BIG := big_5 (List.mem_of_getElem? (i := 206) rfl) rfl
theorem k_L_27 : LkV RL 27 RX11 yX11_sign cX11_sign 3 (some .int) 1 := ⟨big_5 (List.mem_of_getElem? (i := 203) rfl) rfl, big_5 (List.mem_of_getElem? (i := 204) rfl) rfl, big_5 (List.mem_of_getElem? (i := 205) rfl) rfl, big_1 (List.mem_of_getElem? (i := 11) rfl) rfl, cd_X11_sign, rfl, by decide, by decide, by decide⟩
theorem cd_X10_end : Cond.code yX10_end cX10_end 2 (some .boolean) ∈ BIG := big_2 (List.mem_of_getElem? (i := 194) rfl) rfl
theorem k_L_28 : LkV RL 28 RX10 yX10_end cX10_end 2 (some .boolean) 1 := ⟨big_2 (List.mem_of_getElem? (i := 191) rfl) rfl, big_2 (List.mem_of_getElem? (i := 192) rfl) rfl, big_2 (List.mem_of_getElem? (i := 193) rfl) rfl, big_1 (List.mem_of_getElem? (i := 1) rfl) rfl, cd_X10_end, rfl, by decide, by decide, by decide⟩
theorem cd_X11_end : Cond.code yX11_end cX11_end 2 (some .boolean) ∈ BIG := big_5 (List.mem_of_getElem? (i := 210) rfl) rfl
theorem k_L_32 : LkV RL 32 RX11 yX11_end cX11_end 2 (some .boolean) 1 := ⟨big_5 (List.mem_of_getElem? (i := 207) rfl) rfl, big_5 (List.mem_of_getElem? (i := 208) rfl) rfl, big_5 (List.mem_of_getElem? (i := 209) rfl) rfl, big_1 (List.mem_of_getElem? (i := 11) rfl) rfl, cd_X11_end, rfl, by decide, by decide, by decide⟩
theorem cd_X10_mill : Cond.code yX10_mill cX10_mill 2 (some .int) ∈ BIG := big_2 (List.mem_of_getElem? (i := 202) rfl) rfl
theorem k_L_33 : LkV RL 33 RX10 yX10_mill cX10_mill 2 (some .int) 0 := ⟨big_2 (List.mem_of_getElem? (i := 199) rfl) rfl, big_2 (List.mem_of_getElem? (i := 200) rfl) rfl, big_2 (List.mem_of_getElem? (i := 201) rfl) rfl, big_1 (List.mem_of_getElem? (i := 1) rfl) rfl, cd_X10_mill, rfl, by decide, by decide, by decide⟩
theorem cd_X11_mill : Cond.code yX11_mill cX11_mill 10 (some .int) ∈ BIG := big_5 (List.mem_of_getElem? (i := 217) rfl) rfl
theorem k_L_37 : LkV RL 37 RX11 yX11_mill cX11_mill 10 (some .int) 0 := ⟨big_5 (List.mem_of_getElem? (i := 214) rfl) rfl, big_5 (List.mem_of_getElem? (i := 215) rfl) rfl, big_5 (List.mem_of_getElem? (i := 216) rfl) rfl, big_1 (List.mem_of_getElem? (i := 11) rfl) rfl, cd_X11_mill, rfl, by decide, by decide, by decide⟩
theorem cd_X11_hole : Cond.code yX11_hole cX11_hole 3 (some .int) ∈ BIG := big_6 (List.mem_of_getElem? (i := 8) rfl) rfl
theorem k_L_43 : LkV RL 43 RX11 yX11_hole cX11_hole 3 (some .int) 2 := ⟨big_6 (List.mem_of_getElem? (i := 5) rfl) rfl, big_6 (List.mem_of_getElem? (i := 6) rfl) rfl, big_6 (List.mem_of_getElem? (i := 7) rfl) rfl, big_1 (List.mem_of_getElem? (i := 11) rfl) rfl, cd_X11_hole, rfl, by decide, by decide, by decide⟩
theorem cd_X10_lead : Cond.code yX10_lead cX10_lead 4 (some .int) ∈ BIG := big_3 (List.mem_of_getElem? (i := 9) rfl) rfl
theorem k_L_44 : LkV RL 44 RX10 yX10_lead cX10_lead 4 (some .int) 2 := ⟨big_3 (List.mem_of_getElem? (i := 6) rfl) rfl, big_3 (List.mem_of_getElem? (i := 7) rfl) rfl, big_3 (List.mem_of_getElem? (i := 8) rfl) rfl, big_1 (List.mem_of_getElem? (i := 1) rfl) rfl, cd_X10_lead, rfl, by decide, by decide, by decide⟩
theorem cd_X11_lead : Cond.code yX11_lead cX11_lead 4 (some .int) ∈ BIG := big_6 (List.mem_of_getElem? (i := 17) rfl) rfl
theorem k_L_47 : LkV RL 47 RX11 yX11_lead cX11_lead 4 (some .int) 2 := ⟨big_6 (List.mem_of_getElem? (i := 14) rfl) rfl, big_6 (List.mem_of_getElem? (i := 15) rfl) rfl, big_6 (List.mem_of_getElem? (i := 16) rfl) rfl, big_1 (List.mem_of_getElem? (i := 11) rfl) rfl, cd_X11_lead, rfl, by decide, by decide, by decide⟩
theorem cd_X10_deep : Cond.code yX10_deep cX10_deep 4 (some .int) ∈ BIG := big_3 (List.mem_of_getElem? (i := 17) rfl) rfl
theorem k_L_48 : LkV RL 48 RX10 yX10_deep cX10_deep 4 (some .int) 2 := ⟨big_3 (List.mem_of_getElem? (i := 14) rfl) rfl, big_3 (List.mem_of_getElem? (i := 15) rfl) rfl, big_3 (List.mem_of_getElem? (i := 16) rfl) rfl, big_1 (List.mem_of_getElem? (i := 1) rfl) rfl, cd_X10_deep, rfl, by decide, by decide, by decide⟩
theorem cd_X11_deep : Cond.code yX11_deep cX11_deep 4 (some .int) ∈ BIG := big_6 (List.mem_of_getElem? (i := 21) rfl) rfl
theorem k_L_51 : LkV RL 51 RX11 yX11_deep cX11_deep 4 (some .int) 2 := ⟨big_6 (List.mem_of_getElem? (i := 18) rfl) rfl, big_6 (List.mem_of_getElem? (i := 19) rfl) rfl, big_6 (List.mem_of_getElem? (i := 20) rfl) rfl, big_1 (List.mem_of_getElem? (i := 11) rfl) rfl, cd_X11_deep, rfl, by decide, by decide, by decide⟩
theorem cd_X10_sheet : Cond.code yX10_sheet cX10_sheet 8 (some .int) ∈ BIG := big_3 (List.mem_of_getElem? (i := 21) rfl) rfl
theorem k_L_52 : LkV RL 52 RX10 yX10_sheet cX10_sheet 8 (some .int) 4 := ⟨big_3 (List.mem_of_getElem? (i := 18) rfl) rfl, big_3 (List.mem_of_getElem? (i := 19) rfl) rfl, big_3 (List.mem_of_getElem? (i := 20) rfl) rfl, big_1 (List.mem_of_getElem? (i := 1) rfl) rfl, cd_X10_sheet, rfl, by decide, by decide, by decide⟩
theorem cd_X11_sheet : Cond.code yX11_sheet cX11_sheet 8 (some .int) ∈ BIG := big_6 (List.mem_of_getElem? (i := 26) rfl) rfl
theorem k_L_56 : LkV RL 56 RX11 yX11_sheet cX11_sheet 8 (some .int) 4 := ⟨big_6 (List.mem_of_getElem? (i := 23) rfl) rfl, big_6 (List.mem_of_getElem? (i := 24) rfl) rfl, big_6 (List.mem_of_getElem? (i := 25) rfl) rfl, big_1 (List.mem_of_getElem? (i := 11) rfl) rfl, cd_X11_sheet, rfl, by decide, by decide, by decide⟩
theorem cd_X10_cross : Cond.code yX10_cross cX10_cross 5 (some .int) ∈ BIG := big_3 (List.mem_of_getElem? (i := 36) rfl) rfl
theorem k_L_57 : LkV RL 57 RX10 yX10_cross cX10_cross 5 (some .int) 3 := ⟨big_3 (List.mem_of_getElem? (i := 33) rfl) rfl, big_3 (List.mem_of_getElem? (i := 34) rfl) rfl, big_3 (List.mem_of_getElem? (i := 35) rfl) rfl, big_1 (List.mem_of_getElem? (i := 1) rfl) rfl, cd_X10_cross, rfl, by decide, by decide, by decide⟩
theorem cd_X11_cross : Cond.code yX11_cross cX11_cross 5 (some .int) ∈ BIG := big_6 (List.mem_of_getElem? (i := 36) rfl) rfl
theorem k_L_61 : LkV RL 61 RX11 yX11_cross cX11_cross 5 (some .int) 3 := ⟨big_6 (List.mem_of_getElem? (i := 33) rfl) rfl, big_6 (List.mem_of_getElem? (i := 34) rfl) rfl, big_6 (List.mem_of_getElem? (i := 35) rfl) rfl, big_1 (List.mem_of_getElem? (i := 11) rfl) rfl, cd_X11_cross, rfl, by decide, by decide, by decide⟩
theorem cd_X10_truly : Cond.code yX10_truly cX10_truly 4 (some .boolean) ∈ BIG := big_3 (List.mem_of_getElem? (i := 46) rfl) rfl
theorem k_L_62 : LkV RL 62 RX10 yX10_truly cX10_truly 4 (some .boolean) 3 := ⟨big_3 (List.mem_of_getElem? (i := 43) rfl) rfl, big_3 (List.mem_of_getElem? (i := 44) rfl) rfl, big_3 (List.mem_of_getElem? (i := 45) rfl) rfl, big_1 (List.mem_of_getElem? (i := 1) rfl) rfl, cd_X10_truly, rfl, by decide, by decide, by decide⟩
theorem cd_X11_truly : Cond.code yX11_truly cX11_truly 4 (some .boolean) ∈ BIG := big_6 (List.mem_of_getElem? (i := 44) rfl) rfl
theorem k_L_66 : LkV RL 66 RX11 yX11_truly cX11_truly 4 (some .boolean) 3 := ⟨big_6 (List.mem_of_getElem? (i := 41) rfl) rfl, big_6 (List.mem_of_getElem? (i := 42) rfl) rfl, big_6 (List.mem_of_getElem? (i := 43) rfl) rfl, big_1 (List.mem_of_getElem? (i := 11) rfl) rfl, cd_X11_truly, rfl, by decide, by decide, by decide⟩
theorem cd_X10_think : Cond.code yX10_think cX10_think 4 (some .boolean) ∈ BIG := big_3 (List.mem_of_getElem? (i := 53) rfl) rfl
theorem k_L_67 : LkV RL 67 RX10 yX10_think cX10_think 4 (some .boolean) 3 := ⟨big_3 (List.mem_of_getElem? (i := 50) rfl) rfl, big_3 (List.mem_of_getElem? (i := 51) rfl) rfl, big_3 (List.mem_of_getElem? (i := 52) rfl) rfl, big_1 (List.mem_of_getElem? (i := 1) rfl) rfl, cd_X10_think, rfl, by decide, by decide, by decide⟩
theorem cd_X11_think : Cond.code yX11_think cX11_think 4 (some .boolean) ∈ BIG := big_6 (List.mem_of_getElem? (i := 53) rfl) rfl
theorem k_L_70 : LkV RL 70 RX11 yX11_think cX11_think 4 (some .boolean) 3 := ⟨big_6 (List.mem_of_getElem? (i := 50) rfl) rfl, big_6 (List.mem_of_getElem? (i := 51) rfl) rfl, big_6 (List.mem_of_getElem? (i := 52) rfl) rfl, big_1 (List.mem_of_getElem? (i := 11) rfl) rfl, cd_X11_think, rfl, by decide, by decide, by decide⟩
theorem cd_X10_pound : Cond.code yX10_pound cX10_pound 3 (some .boolean) ∈ BIG := big_3 (List.mem_of_getElem? (i := 57) rfl) rfl
theorem k_L_71 : LkV RL 71 RX10 yX10_pound cX10_pound 3 (some .boolean) 2 := ⟨big_3 (List.mem_of_getElem? (i := 54) rfl) rfl, big_3 (List.mem_of_getElem? (i := 55) rfl) rfl, big_3 (List.mem_of_getElem? (i := 56) rfl) rfl, big_1 (List.mem_of_getElem? (i := 1) rfl) rfl, cd_X10_pound, rfl, by decide, by decide, by decide⟩
theorem cd_X11_pound : Cond.code yX11_pound cX11_pound 3 (some .boolean) ∈ BIG := big_6 (List.mem_of_getElem? (i := 57) rfl) rfl
theorem k_L_75 : LkV RL 75 RX11 yX11_pound cX11_pound 3 (some .boolean) 2 := ⟨big_6 (List.mem_of_getElem? (i := 54) rfl) rfl, big_6 (List.mem_of_getElem? (i := 55) rfl) rfl, big_6 (List.mem_of_getElem? (i := 56) rfl) rfl, big_1 (List.mem_of_getElem? (i := 11) rfl) rfl, cd_X11_pound, rfl, by decide, by decide, by decide⟩
theorem cd_X10_feel : Cond.code yX10_feel cX10_feel 5 (some .int) ∈ BIG := big_3 (List.mem_of_getElem? (i := 61) rfl) rfl
theorem k_L_76 : LkV RL 76 RX10 yX10_feel cX10_feel 5 (some .int) 2 := ⟨big_3 (List.mem_of_getElem? (i := 58) rfl) rfl, big_3 (List.mem_of_getElem? (i := 59) rfl) rfl, big_3 (List.mem_of_getElem? (i := 60) rfl) rfl, big_1 (List.mem_of_getElem? (i := 1) rfl) rfl, cd_X10_feel, rfl, by decide, by decide, by decide⟩
theorem cd_X11_feel : Cond.code yX11_feel cX11_feel 7 (some .int) ∈ BIG := big_6 (List.mem_of_getElem? (i := 62) rfl) rfl
theorem k_L_79 : LkV RL 79 RX11 yX11_feel cX11_feel 7 (some .int) 2 := ⟨big_6 (List.mem_of_getElem? (i := 59) rfl) rfl, big_6 (List.mem_of_getElem? (i := 60) rfl) rfl, big_6 (List.mem_of_getElem? (i := 61) rfl) rfl, big_1 (List.mem_of_getElem? (i := 11) rfl) rfl, cd_X11_feel, rfl, by decide, by decide, by decide⟩
theorem cd_X10_hums : Cond.code yX10_hums cX10_hums 9 (some .int) ∈ BIG := big_3 (List.mem_of_getElem? (i := 97) rfl) rfl
theorem k_L_80 : LkV RL 80 RX10 yX10_hums cX10_hums 9 (some .int) 2 := ⟨big_3 (List.mem_of_getElem? (i := 94) rfl) rfl, big_3 (List.mem_of_getElem? (i := 95) rfl) rfl, big_3 (List.mem_of_getElem? (i := 96) rfl) rfl, big_1 (List.mem_of_getElem? (i := 1) rfl) rfl, cd_X10_hums, rfl, by decide, by decide, by decide⟩
theorem cd_X11_hums : Cond.code yX11_hums cX11_hums 9 (some .int) ∈ BIG := big_6 (List.mem_of_getElem? (i := 89) rfl) rfl
theorem k_L_83 : LkV RL 83 RX11 yX11_hums cX11_hums 9 (some .int) 2 := ⟨big_6 (List.mem_of_getElem? (i := 86) rfl) rfl, big_6 (List.mem_of_getElem? (i := 87) rfl) rfl, big_6 (List.mem_of_getElem? (i := 88) rfl) rfl, big_1 (List.mem_of_getElem? (i := 11) rfl) rfl, cd_X11_hums, rfl, by decide, by decide, by decide⟩
theorem cd_X10_whole : Cond.code yX10_whole cX10_whole 5 (some .int) ∈ BIG := big_3 (List.mem_of_getElem? (i := 101) rfl) rfl
theorem k_L_84 : LkV RL 84 RX10 yX10_whole cX10_whole 5 (some .int) 4 := ⟨big_3 (List.mem_of_getElem? (i := 98) rfl) rfl, big_3 (List.mem_of_getElem? (i := 99) rfl) rfl, big_3 (List.mem_of_getElem? (i := 100) rfl) rfl, big_1 (List.mem_of_getElem? (i := 1) rfl) rfl, cd_X10_whole, rfl, by decide, by decide, by decide⟩
theorem cd_X11_whole : Cond.code yX11_whole cX11_whole 5 (some .int) ∈ BIG := big_6 (List.mem_of_getElem? (i := 93) rfl) rfl
theorem k_L_87 : LkV RL 87 RX11 yX11_whole cX11_whole 5 (some .int) 4 := ⟨big_6 (List.mem_of_getElem? (i := 90) rfl) rfl, big_6 (List.mem_of_getElem? (i := 91) rfl) rfl, big_6 (List.mem_of_getElem? (i := 92) rfl) rfl, big_1 (List.mem_of_getElem? (i := 11) rfl) rfl, cd_X11_whole, rfl, by decide, by decide, by decide⟩
theorem cd_X10_much : Cond.code yX10_much cX10_much 4 (some .int) ∈ BIG := big_3 (List.mem_of_getElem? (i := 115) rfl) rfl
theorem k_L_88 : LkV RL 88 RX10 yX10_much cX10_much 4 (some .int) 3 := ⟨big_3 (List.mem_of_getElem? (i := 112) rfl) rfl, big_3 (List.mem_of_getElem? (i := 113) rfl) rfl, big_3 (List.mem_of_getElem? (i := 114) rfl) rfl, big_1 (List.mem_of_getElem? (i := 1) rfl) rfl, cd_X10_much, rfl, by decide, by decide, by decide⟩
theorem cd_X11_much : Cond.code yX11_much cX11_much 4 (some .int) ∈ BIG := big_6 (List.mem_of_getElem? (i := 107) rfl) rfl
theorem k_L_91 : LkV RL 91 RX11 yX11_much cX11_much 4 (some .int) 3 := ⟨big_6 (List.mem_of_getElem? (i := 104) rfl) rfl, big_6 (List.mem_of_getElem? (i := 105) rfl) rfl, big_6 (List.mem_of_getElem? (i := 106) rfl) rfl, big_1 (List.mem_of_getElem? (i := 11) rfl) rfl, cd_X11_much, rfl, by decide, by decide, by decide⟩
theorem cd_X10_drop : Cond.code yX10_drop cX10_drop 1 (some .int) ∈ BIG := big_3 (List.mem_of_getElem? (i := 124) rfl) rfl
theorem k_L_92 : LkV RL 92 RX10 yX10_drop cX10_drop 1 (some .int) 0 := ⟨big_3 (List.mem_of_getElem? (i := 121) rfl) rfl, big_3 (List.mem_of_getElem? (i := 122) rfl) rfl, big_3 (List.mem_of_getElem? (i := 123) rfl) rfl, big_1 (List.mem_of_getElem? (i := 1) rfl) rfl, cd_X10_drop, rfl, by decide, by decide, by decide⟩
theorem cd_X11_drop : Cond.code yX11_drop cX11_drop 1 (some .int) ∈ BIG := big_6 (List.mem_of_getElem? (i := 112) rfl) rfl
theorem k_L_95 : LkV RL 95 RX11 yX11_drop cX11_drop 1 (some .int) 0 := ⟨big_6 (List.mem_of_getElem? (i := 109) rfl) rfl, big_6 (List.mem_of_getElem? (i := 110) rfl) rfl, big_6 (List.mem_of_getElem? (i := 111) rfl) rfl, big_1 (List.mem_of_getElem? (i := 11) rfl) rfl, cd_X11_drop, rfl, by decide, by decide, by decide⟩
theorem cd_X10_which : Cond.code yX10_which cX10_which 1 (some .int) ∈ BIG := big_3 (List.mem_of_getElem? (i := 128) rfl) rfl
theorem k_L_96 : LkV RL 96 RX10 yX10_which cX10_which 1 (some .int) 0 := ⟨big_3 (List.mem_of_getElem? (i := 125) rfl) rfl, big_3 (List.mem_of_getElem? (i := 126) rfl) rfl, big_3 (List.mem_of_getElem? (i := 127) rfl) rfl, big_1 (List.mem_of_getElem? (i := 1) rfl) rfl, cd_X10_which, rfl, by decide, by decide, by decide⟩
theorem cd_X11_which : Cond.code yX11_which cX11_which 1 (some .int) ∈ BIG := big_6 (List.mem_of_getElem? (i := 116) rfl) rfl
theorem k_L_99 : LkV RL 99 RX11 yX11_which cX11_which 1 (some .int) 0 := ⟨big_6 (List.mem_of_getElem? (i := 113) rfl) rfl, big_6 (List.mem_of_getElem? (i := 114) rfl) rfl, big_6 (List.mem_of_getElem? (i := 115) rfl) rfl, big_1 (List.mem_of_getElem? (i := 11) rfl) rfl, cd_X11_which, rfl, by decide, by decide, by decide⟩
theorem cd_X10_ends : Cond.code yX10_ends cX10_ends 1 (some .int) ∈ BIG := big_3 (List.mem_of_getElem? (i := 164) rfl) rfl
theorem k_L_100 : LkV RL 100 RX10 yX10_ends cX10_ends 1 (some .int) 0 := ⟨big_3 (List.mem_of_getElem? (i := 161) rfl) rfl, big_3 (List.mem_of_getElem? (i := 162) rfl) rfl, big_3 (List.mem_of_getElem? (i := 163) rfl) rfl, big_1 (List.mem_of_getElem? (i := 1) rfl) rfl, cd_X10_ends, rfl, by decide, by decide, by decide⟩
theorem cd_X11_ends : Cond.code yX11_ends cX11_ends 9 (some .int) ∈ BIG := big_6 (List.mem_of_getElem? (i := 150) rfl) rfl
theorem k_L_103 : LkV RL 103 RX11 yX11_ends cX11_ends 9 (some .int) 0 := ⟨big_6 (List.mem_of_getElem? (i := 147) rfl) rfl, big_6 (List.mem_of_getElem? (i := 148) rfl) rfl, big_6 (List.mem_of_getElem? (i := 149) rfl) rfl, big_1 (List.mem_of_getElem? (i := 11) rfl) rfl, cd_X11_ends, rfl, by decide, by decide, by decide⟩
theorem cd_X10_judge : Cond.code yX10_judge cX10_judge 3 (some .int) ∈ BIG := big_3 (List.mem_of_getElem? (i := 177) rfl) rfl
theorem k_L_104 : LkV RL 104 RX10 yX10_judge cX10_judge 3 (some .int) 2 := ⟨big_3 (List.mem_of_getElem? (i := 174) rfl) rfl, big_3 (List.mem_of_getElem? (i := 175) rfl) rfl, big_3 (List.mem_of_getElem? (i := 176) rfl) rfl, big_1 (List.mem_of_getElem? (i := 1) rfl) rfl, cd_X10_judge, rfl, by decide, by decide, by decide⟩
theorem cd_X11_judge : Cond.code yX11_judge cX11_judge 4 (some .int) ∈ BIG := big_6 (List.mem_of_getElem? (i := 156) rfl) rfl
theorem k_L_107 : LkV RL 107 RX11 yX11_judge cX11_judge 4 (some .int) 2 := ⟨big_6 (List.mem_of_getElem? (i := 153) rfl) rfl, big_6 (List.mem_of_getElem? (i := 154) rfl) rfl, big_6 (List.mem_of_getElem? (i := 155) rfl) rfl, big_1 (List.mem_of_getElem? (i := 11) rfl) rfl, cd_X11_judge, rfl, by decide, by decide, by decide⟩
theorem cd_X10_bars : Cond.code yX10_bars cX10_bars 7 (some .int) ∈ BIG := big_3 (List.mem_of_getElem? (i := 181) rfl) rfl
theorem k_L_108 : LkV RL 108 RX10 yX10_bars cX10_bars 7 (some .int) 0 := ⟨big_3 (List.mem_of_getElem? (i := 178) rfl) rfl, big_3 (List.mem_of_getElem? (i := 179) rfl) rfl, big_3 (List.mem_of_getElem? (i := 180) rfl) rfl, big_1 (List.mem_of_getElem? (i := 1) rfl) rfl, cd_X10_bars, rfl, by decide, by decide, by decide⟩
theorem cd_X11_bars : Cond.code yX11_bars cX11_bars 3 (some .int) ∈ BIG := big_6 (List.mem_of_getElem? (i := 165) rfl) rfl
theorem k_L_111 : LkV RL 111 RX11 yX11_bars cX11_bars 3 (some .int) 0 := ⟨big_6 (List.mem_of_getElem? (i := 162) rfl) rfl, big_6 (List.mem_of_getElem? (i := 163) rfl) rfl, big_6 (List.mem_of_getElem? (i := 164) rfl) rfl, big_1 (List.mem_of_getElem? (i := 11) rfl) rfl, cd_X11_bars, rfl, by decide, by decide, by decide⟩
theorem cd_X10_next : Cond.code yX10_next cX10_next 5 (some .int) ∈ BIG := big_3 (List.mem_of_getElem? (i := 195) rfl) rfl
theorem k_L_112 : LkV RL 112 RX10 yX10_next cX10_next 5 (some .int) 2 := ⟨big_3 (List.mem_of_getElem? (i := 192) rfl) rfl, big_3 (List.mem_of_getElem? (i := 193) rfl) rfl, big_3 (List.mem_of_getElem? (i := 194) rfl) rfl, big_1 (List.mem_of_getElem? (i := 1) rfl) rfl, cd_X10_next, rfl, by decide, by decide, by decide⟩
theorem cd_X11_next : Cond.code yX11_next cX11_next 4 (some .int) ∈ BIG := big_6 (List.mem_of_getElem? (i := 174) rfl) rfl
theorem k_L_115 : LkV RL 115 RX11 yX11_next cX11_next 4 (some .int) 2 := ⟨big_6 (List.mem_of_getElem? (i := 171) rfl) rfl, big_6 (List.mem_of_getElem? (i := 172) rfl) rfl, big_6 (List.mem_of_getElem? (i := 173) rfl) rfl, big_1 (List.mem_of_getElem? (i := 11) rfl) rfl, cd_X11_next, rfl, by decide, by decide, by decide⟩
theorem cd_X10_enough : Cond.code yX10_enough cX10_enough 7 (some .int) ∈ BIG := big_4 (List.mem_of_getElem? (i := 36) rfl) rfl
theorem k_L_116 : LkV RL 116 RX10 yX10_enough cX10_enough 7 (some .int) 3 := ⟨big_4 (List.mem_of_getElem? (i := 33) rfl) rfl, big_4 (List.mem_of_getElem? (i := 34) rfl) rfl, big_4 (List.mem_of_getElem? (i := 35) rfl) rfl, big_1 (List.mem_of_getElem? (i := 1) rfl) rfl, cd_X10_enough, rfl, by decide, by decide, by decide⟩
theorem cd_X11_enough : Cond.code yX11_enough cX11_enough 7 (some .int) ∈ BIG := big_6 (List.mem_of_getElem? (i := 195) rfl) rfl
theorem k_L_119 : LkV RL 119 RX11 yX11_enough cX11_enough 7 (some .int) 3 := ⟨big_6 (List.mem_of_getElem? (i := 192) rfl) rfl, big_6 (List.mem_of_getElem? (i := 193) rfl) rfl, big_6 (List.mem_of_getElem? (i := 194) rfl) rfl, big_1 (List.mem_of_getElem? (i := 11) rfl) rfl, cd_X11_enough, rfl, by decide, by decide, by decide⟩
theorem cd_X10_man : Cond.code yX10_man cX10_man 4 (some .boolean) ∈ BIG := big_4 (List.mem_of_getElem? (i := 44) rfl) rfl
theorem k_L_120 : LkV RL 120 RX10 yX10_man cX10_man 4 (some .boolean) 3 := ⟨big_4 (List.mem_of_getElem? (i := 41) rfl) rfl, big_4 (List.mem_of_getElem? (i := 42) rfl) rfl, big_4 (List.mem_of_getElem? (i := 43) rfl) rfl, big_1 (List.mem_of_getElem? (i := 1) rfl) rfl, cd_X10_man, rfl, by decide, by decide, by decide⟩
theorem cd_X11_man : Cond.code yX11_man cX11_man 4 (some .boolean) ∈ BIG := big_6 (List.mem_of_getElem? (i := 207) rfl) rfl
theorem k_L_123 : LkV RL 123 RX11 yX11_man cX11_man 4 (some .boolean) 3 := ⟨big_6 (List.mem_of_getElem? (i := 204) rfl) rfl, big_6 (List.mem_of_getElem? (i := 205) rfl) rfl, big_6 (List.mem_of_getElem? (i := 206) rfl) rfl, big_1 (List.mem_of_getElem? (i := 11) rfl) rfl, cd_X11_man, rfl, by decide, by decide, by decide⟩
theorem cd_X10_tells : Cond.code yX10_tells cX10_tells 7 (some .int) ∈ BIG := big_4 (List.mem_of_getElem? (i := 51) rfl) rfl
theorem k_L_124 : LkV RL 124 RX10 yX10_tells cX10_tells 7 (some .int) 2 := ⟨big_4 (List.mem_of_getElem? (i := 48) rfl) rfl, big_4 (List.mem_of_getElem? (i := 49) rfl) rfl, big_4 (List.mem_of_getElem? (i := 50) rfl) rfl, big_1 (List.mem_of_getElem? (i := 1) rfl) rfl, cd_X10_tells, rfl, by decide, by decide, by decide⟩
theorem cd_X11_tells : Cond.code yX11_tells cX11_tells 3 (some .int) ∈ BIG := big_6 (List.mem_of_getElem? (i := 216) rfl) rfl
theorem k_L_127 : LkV RL 127 RX11 yX11_tells cX11_tells 3 (some .int) 2 := ⟨big_6 (List.mem_of_getElem? (i := 213) rfl) rfl, big_6 (List.mem_of_getElem? (i := 214) rfl) rfl, big_6 (List.mem_of_getElem? (i := 215) rfl) rfl, big_1 (List.mem_of_getElem? (i := 11) rfl) rfl, cd_X11_tells, rfl, by decide, by decide, by decide⟩
theorem cd_X10_men : Cond.code yX10_men cX10_men 18 (some .int) ∈ BIG := big_4 (List.mem_of_getElem? (i := 59) rfl) rfl
theorem k_L_128 : LkV RL 128 RX10 yX10_men cX10_men 18 (some .int) 4 := ⟨big_4 (List.mem_of_getElem? (i := 56) rfl) rfl, big_4 (List.mem_of_getElem? (i := 57) rfl) rfl, big_4 (List.mem_of_getElem? (i := 58) rfl) rfl, big_1 (List.mem_of_getElem? (i := 1) rfl) rfl, cd_X10_men, rfl, by decide, by decide, by decide⟩
theorem cd_X11_men : Cond.code yX11_men cX11_men 14 (some .int) ∈ BIG := big_6 (List.mem_of_getElem? (i := 224) rfl) rfl
theorem k_L_131 : LkV RL 131 RX11 yX11_men cX11_men 14 (some .int) 4 := ⟨big_6 (List.mem_of_getElem? (i := 221) rfl) rfl, big_6 (List.mem_of_getElem? (i := 222) rfl) rfl, big_6 (List.mem_of_getElem? (i := 223) rfl) rfl, big_1 (List.mem_of_getElem? (i := 11) rfl) rfl, cd_X11_men, rfl, by decide, by decide, by decide⟩
theorem cd_X10_rest : Cond.code yX10_rest cX10_rest 2 (some .long) ∈ BIG := big_4 (List.mem_of_getElem? (i := 73) rfl) rfl
theorem k_L_132 : LkV RL 132 RX10 yX10_rest cX10_rest 2 (some .long) 1 := ⟨big_4 (List.mem_of_getElem? (i := 70) rfl) rfl, big_4 (List.mem_of_getElem? (i := 71) rfl) rfl, big_4 (List.mem_of_getElem? (i := 72) rfl) rfl, big_1 (List.mem_of_getElem? (i := 1) rfl) rfl, cd_X10_rest, rfl, by decide, by decide, by decide⟩
theorem cd_X11_rest : Cond.code yX11_rest cX11_rest 2 (some .long) ∈ BIG := big_6 (List.mem_of_getElem? (i := 228) rfl) rfl
theorem k_L_135 : LkV RL 135 RX11 yX11_rest cX11_rest 2 (some .long) 1 := ⟨big_6 (List.mem_of_getElem? (i := 225) rfl) rfl, big_6 (List.mem_of_getElem? (i := 226) rfl) rfl, big_6 (List.mem_of_getElem? (i := 227) rfl) rfl, big_1 (List.mem_of_getElem? (i := 11) rfl) rfl, cd_X11_rest, rfl, by decide, by decide, by decide⟩
theorem cd_X10_best : Cond.code yX10_best cX10_best 5 (some .long) ∈ BIG := big_4 (List.mem_of_getElem? (i := 82) rfl) rfl
theorem k_L_136 : LkV RL 136 RX10 yX10_best cX10_best 5 (some .long) 2 := ⟨big_4 (List.mem_of_getElem? (i := 79) rfl) rfl, big_4 (List.mem_of_getElem? (i := 80) rfl) rfl, big_4 (List.mem_of_getElem? (i := 81) rfl) rfl, big_1 (List.mem_of_getElem? (i := 1) rfl) rfl, cd_X10_best, rfl, by decide, by decide, by decide⟩
theorem cd_X11_best : Cond.code yX11_best cX11_best 3 (some .long) ∈ BIG := big_6 (List.mem_of_getElem? (i := 236) rfl) rfl
theorem k_L_140 : LkV RL 140 RX11 yX11_best cX11_best 3 (some .long) 2 := ⟨big_6 (List.mem_of_getElem? (i := 233) rfl) rfl, big_6 (List.mem_of_getElem? (i := 234) rfl) rfl, big_6 (List.mem_of_getElem? (i := 235) rfl) rfl, big_1 (List.mem_of_getElem? (i := 11) rfl) rfl, cd_X11_best, rfl, by decide, by decide, by decide⟩
theorem cd_X10_off : Cond.code yX10_off cX10_off 5 (some .long) ∈ BIG := big_4 (List.mem_of_getElem? (i := 172) rfl) rfl
theorem k_L_141 : LkV RL 141 RX10 yX10_off cX10_off 5 (some .long) 2 := ⟨big_4 (List.mem_of_getElem? (i := 169) rfl) rfl, big_4 (List.mem_of_getElem? (i := 170) rfl) rfl, big_4 (List.mem_of_getElem? (i := 171) rfl) rfl, big_1 (List.mem_of_getElem? (i := 1) rfl) rfl, cd_X10_off, rfl, by decide, by decide, by decide⟩
theorem cd_X11_off : Cond.code yX11_off cX11_off 4 (some .long) ∈ BIG := big_7 (List.mem_of_getElem? (i := 25) rfl) rfl
theorem k_L_144 : LkV RL 144 RX11 yX11_off cX11_off 4 (some .long) 2 := ⟨big_7 (List.mem_of_getElem? (i := 22) rfl) rfl, big_7 (List.mem_of_getElem? (i := 23) rfl) rfl, big_7 (List.mem_of_getElem? (i := 24) rfl) rfl, big_1 (List.mem_of_getElem? (i := 11) rfl) rfl, cd_X11_off, rfl, by decide, by decide, by decide⟩
theorem cd_X10_instead : Cond.code yX10_instead cX10_instead 5 (some .long) ∈ BIG := big_4 (List.mem_of_getElem? (i := 176) rfl) rfl
theorem k_L_145 : LkV RL 145 RX10 yX10_instead cX10_instead 5 (some .long) 2 := ⟨big_4 (List.mem_of_getElem? (i := 173) rfl) rfl, big_4 (List.mem_of_getElem? (i := 174) rfl) rfl, big_4 (List.mem_of_getElem? (i := 175) rfl) rfl, big_1 (List.mem_of_getElem? (i := 1) rfl) rfl, cd_X10_instead, rfl, by decide, by decide, by decide⟩
theorem cd_X11_instead : Cond.code yX11_instead cX11_instead 3 (some .long) ∈ BIG := big_7 (List.mem_of_getElem? (i := 29) rfl) rfl
theorem k_L_148 : LkV RL 148 RX11 yX11_instead cX11_instead 3 (some .long) 2 := ⟨big_7 (List.mem_of_getElem? (i := 26) rfl) rfl, big_7 (List.mem_of_getElem? (i := 27) rfl) rfl, big_7 (List.mem_of_getElem? (i := 28) rfl) rfl, big_1 (List.mem_of_getElem? (i := 11) rfl) rfl, cd_X11_instead, rfl, by decide, by decide, by decide⟩
theorem cd_X10_fewest : Cond.code yX10_fewest cX10_fewest 5 (some .int) ∈ BIG := big_4 (List.mem_of_getElem? (i := 180) rfl) rfl
theorem k_L_151 : LkV RL 151 RX10 yX10_fewest cX10_fewest 5 (some .int) 2 := ⟨big_4 (List.mem_of_getElem? (i := 177) rfl) rfl, big_4 (List.mem_of_getElem? (i := 178) rfl) rfl, big_4 (List.mem_of_getElem? (i := 179) rfl) rfl, big_1 (List.mem_of_getElem? (i := 1) rfl) rfl, cd_X10_fewest, rfl, by decide, by decide, by decide⟩
theorem cd_X11_fewest : Cond.code yX11_fewest cX11_fewest 5 (some .int) ∈ BIG := big_7 (List.mem_of_getElem? (i := 33) rfl) rfl
theorem k_L_155 : LkV RL 155 RX11 yX11_fewest cX11_fewest 5 (some .int) 2 := ⟨big_7 (List.mem_of_getElem? (i := 30) rfl) rfl, big_7 (List.mem_of_getElem? (i := 31) rfl) rfl, big_7 (List.mem_of_getElem? (i := 32) rfl) rfl, big_1 (List.mem_of_getElem? (i := 11) rfl) rfl, cd_X11_fewest, rfl, by decide, by decide, by decide⟩
theorem cd_X10_all : Cond.code yX10_all cX10_all 15 (some .long) ∈ BIG := big_4 (List.mem_of_getElem? (i := 184) rfl) rfl
theorem k_L_156 : LkV RL 156 RX10 yX10_all cX10_all 15 (some .long) 2 := ⟨big_4 (List.mem_of_getElem? (i := 181) rfl) rfl, big_4 (List.mem_of_getElem? (i := 182) rfl) rfl, big_4 (List.mem_of_getElem? (i := 183) rfl) rfl, big_1 (List.mem_of_getElem? (i := 1) rfl) rfl, cd_X10_all, rfl, by decide, by decide, by decide⟩
theorem cd_X11_all : Cond.code yX11_all cX11_all 18 (some .long) ∈ BIG := big_7 (List.mem_of_getElem? (i := 37) rfl) rfl
theorem k_L_159 : LkV RL 159 RX11 yX11_all cX11_all 18 (some .long) 2 := ⟨big_7 (List.mem_of_getElem? (i := 34) rfl) rfl, big_7 (List.mem_of_getElem? (i := 35) rfl) rfl, big_7 (List.mem_of_getElem? (i := 36) rfl) rfl, big_1 (List.mem_of_getElem? (i := 11) rfl) rfl, cd_X11_all, rfl, by decide, by decide, by decide⟩
theorem cd_X10_ounce : Cond.code yX10_ounce cX10_ounce 4 (some .int) ∈ BIG := big_4 (List.mem_of_getElem? (i := 195) rfl) rfl
theorem k_L_160 : LkV RL 160 RX10 yX10_ounce cX10_ounce 4 (some .int) 2 := ⟨big_4 (List.mem_of_getElem? (i := 192) rfl) rfl, big_4 (List.mem_of_getElem? (i := 193) rfl) rfl, big_4 (List.mem_of_getElem? (i := 194) rfl) rfl, big_1 (List.mem_of_getElem? (i := 1) rfl) rfl, cd_X10_ounce, rfl, by decide, by decide, by decide⟩
theorem cd_X11_ounce : Cond.code yX11_ounce cX11_ounce 4 (some .int) ∈ BIG := big_7 (List.mem_of_getElem? (i := 41) rfl) rfl
theorem k_L_163 : LkV RL 163 RX11 yX11_ounce cX11_ounce 4 (some .int) 2 := ⟨big_7 (List.mem_of_getElem? (i := 38) rfl) rfl, big_7 (List.mem_of_getElem? (i := 39) rfl) rfl, big_7 (List.mem_of_getElem? (i := 40) rfl) rfl, big_1 (List.mem_of_getElem? (i := 11) rfl) rfl, cd_X11_ounce, rfl, by decide, by decide, by decide⟩
theorem cd_X10_settle : Cond.code yX10_settle cX10_settle 3 (some .int) ∈ BIG := big_4 (List.mem_of_getElem? (i := 207) rfl) rfl
theorem k_L_164 : LkV RL 164 RX10 yX10_settle cX10_settle 3 (some .int) 1 := ⟨big_4 (List.mem_of_getElem? (i := 204) rfl) rfl, big_4 (List.mem_of_getElem? (i := 205) rfl) rfl, big_4 (List.mem_of_getElem? (i := 206) rfl) rfl, big_1 (List.mem_of_getElem? (i := 1) rfl) rfl, cd_X10_settle, rfl, by decide, by decide, by decide⟩
theorem cd_X11_settle : Cond.code yX11_settle cX11_settle 9 (some .int) ∈ BIG := big_7 (List.mem_of_getElem? (i := 49) rfl) rfl
theorem k_L_167 : LkV RL 167 RX11 yX11_settle cX11_settle 9 (some .int) 1 := ⟨big_7 (List.mem_of_getElem? (i := 46) rfl) rfl, big_7 (List.mem_of_getElem? (i := 47) rfl) rfl, big_7 (List.mem_of_getElem? (i := 48) rfl) rfl, big_1 (List.mem_of_getElem? (i := 11) rfl) rfl, cd_X11_settle, rfl, by decide, by decide, by decide⟩
theorem cd_X10_both : Cond.code yX10_both cX10_both 6 (some .int) ∈ BIG := big_4 (List.mem_of_getElem? (i := 215) rfl) rfl
theorem k_L_168 : LkV RL 168 RX10 yX10_both cX10_both 6 (some .int) 5 := ⟨big_4 (List.mem_of_getElem? (i := 212) rfl) rfl, big_4 (List.mem_of_getElem? (i := 213) rfl) rfl, big_4 (List.mem_of_getElem? (i := 214) rfl) rfl, big_1 (List.mem_of_getElem? (i := 1) rfl) rfl, cd_X10_both, rfl, by decide, by decide, by decide⟩
theorem cd_X11_both : Cond.code yX11_both cX11_both 21 (some .int) ∈ BIG := big_7 (List.mem_of_getElem? (i := 53) rfl) rfl
theorem k_L_172 : LkV RL 172 RX11 yX11_both cX11_both 21 (some .int) 5 := ⟨big_7 (List.mem_of_getElem? (i := 50) rfl) rfl, big_7 (List.mem_of_getElem? (i := 51) rfl) rfl, big_7 (List.mem_of_getElem? (i := 52) rfl) rfl, big_1 (List.mem_of_getElem? (i := 11) rfl) rfl, cd_X11_both, rfl, by decide, by decide, by decide⟩
theorem cd_X10_two : Cond.code yX10_two cX10_two 5 (some .long) ∈ BIG := big_4 (List.mem_of_getElem? (i := 236) rfl) rfl
theorem k_L_173 : LkV RL 173 RX10 yX10_two cX10_two 5 (some .long) 1 := ⟨big_4 (List.mem_of_getElem? (i := 233) rfl) rfl, big_4 (List.mem_of_getElem? (i := 234) rfl) rfl, big_4 (List.mem_of_getElem? (i := 235) rfl) rfl, big_1 (List.mem_of_getElem? (i := 1) rfl) rfl, cd_X10_two, rfl, by decide, by decide, by decide⟩
theorem cd_X11_two : Cond.code yX11_two cX11_two 2 (some .long) ∈ BIG := big_7 (List.mem_of_getElem? (i := 64) rfl) rfl
theorem k_L_176 : LkV RL 176 RX11 yX11_two cX11_two 2 (some .long) 1 := ⟨big_7 (List.mem_of_getElem? (i := 61) rfl) rfl, big_7 (List.mem_of_getElem? (i := 62) rfl) rfl, big_7 (List.mem_of_getElem? (i := 63) rfl) rfl, big_1 (List.mem_of_getElem? (i := 11) rfl) rfl, cd_X11_two, rfl, by decide, by decide, by decide⟩
theorem cd_X10_at : Cond.code yX10_at cX10_at 4 (some .boolean) ∈ BIG := big_5 (List.mem_of_getElem? (i := 4) rfl) rfl
theorem k_L_177 : LkV RL 177 RX10 yX10_at cX10_at 4 (some .boolean) 3 := ⟨big_5 (List.mem_of_getElem? (i := 1) rfl) rfl, big_5 (List.mem_of_getElem? (i := 2) rfl) rfl, big_5 (List.mem_of_getElem? (i := 3) rfl) rfl, big_1 (List.mem_of_getElem? (i := 1) rfl) rfl, cd_X10_at, rfl, by decide, by decide, by decide⟩
theorem cd_X11_at : Cond.code yX11_at cX11_at 4 (some .boolean) ∈ BIG := big_7 (List.mem_of_getElem? (i := 68) rfl) rfl
theorem k_L_180 : LkV RL 180 RX11 yX11_at cX11_at 4 (some .boolean) 3 := ⟨big_7 (List.mem_of_getElem? (i := 65) rfl) rfl, big_7 (List.mem_of_getElem? (i := 66) rfl) rfl, big_7 (List.mem_of_getElem? (i := 67) rfl) rfl, big_1 (List.mem_of_getElem? (i := 11) rfl) rfl, cd_X11_at, rfl, by decide, by decide, by decide⟩
theorem cd_X10_worst : Cond.code yX10_worst cX10_worst 4 (some .long) ∈ BIG := big_5 (List.mem_of_getElem? (i := 8) rfl) rfl
theorem k_L_181 : LkV RL 181 RX10 yX10_worst cX10_worst 4 (some .long) 0 := ⟨big_5 (List.mem_of_getElem? (i := 5) rfl) rfl, big_5 (List.mem_of_getElem? (i := 6) rfl) rfl, big_5 (List.mem_of_getElem? (i := 7) rfl) rfl, big_1 (List.mem_of_getElem? (i := 1) rfl) rfl, cd_X10_worst, rfl, by decide, by decide, by decide⟩
theorem cd_X11_worst : Cond.code yX11_worst cX11_worst 1 (some .long) ∈ BIG := big_7 (List.mem_of_getElem? (i := 72) rfl) rfl
theorem k_L_185 : LkV RL 185 RX11 yX11_worst cX11_worst 1 (some .long) 0 := ⟨big_7 (List.mem_of_getElem? (i := 69) rfl) rfl, big_7 (List.mem_of_getElem? (i := 70) rfl) rfl, big_7 (List.mem_of_getElem? (i := 71) rfl) rfl, big_1 (List.mem_of_getElem? (i := 11) rfl) rfl, cd_X11_worst, rfl, by decide, by decide, by decide⟩
theorem cd_X10_floor : Cond.code yX10_floor cX10_floor 13 (some .int) ∈ BIG := big_5 (List.mem_of_getElem? (i := 13) rfl) rfl
theorem k_L_186 : LkV RL 186 RX10 yX10_floor cX10_floor 13 (some .int) 4 := ⟨big_5 (List.mem_of_getElem? (i := 10) rfl) rfl, big_5 (List.mem_of_getElem? (i := 11) rfl) rfl, big_5 (List.mem_of_getElem? (i := 12) rfl) rfl, big_1 (List.mem_of_getElem? (i := 1) rfl) rfl, cd_X10_floor, rfl, by decide, by decide, by decide⟩
theorem cd_X11_floor : Cond.code yX11_floor cX11_floor 10 (some .int) ∈ BIG := big_7 (List.mem_of_getElem? (i := 77) rfl) rfl
theorem k_L_190 : LkV RL 190 RX11 yX11_floor cX11_floor 10 (some .int) 4 := ⟨big_7 (List.mem_of_getElem? (i := 74) rfl) rfl, big_7 (List.mem_of_getElem? (i := 75) rfl) rfl, big_7 (List.mem_of_getElem? (i := 76) rfl) rfl, big_1 (List.mem_of_getElem? (i := 11) rfl) rfl, cd_X11_floor, rfl, by decide, by decide, by decide⟩
theorem cd_X10_whose : Cond.code yX10_whose cX10_whose 10 (some .int) ∈ BIG := big_5 (List.mem_of_getElem? (i := 26) rfl) rfl
theorem k_L_191 : LkV RL 191 RX10 yX10_whose cX10_whose 10 (some .int) 6 := ⟨big_5 (List.mem_of_getElem? (i := 23) rfl) rfl, big_5 (List.mem_of_getElem? (i := 24) rfl) rfl, big_5 (List.mem_of_getElem? (i := 25) rfl) rfl, big_1 (List.mem_of_getElem? (i := 1) rfl) rfl, cd_X10_whose, rfl, by decide, by decide, by decide⟩
theorem cd_X11_whose : Cond.code yX11_whose cX11_whose 15 (some .int) ∈ BIG := big_7 (List.mem_of_getElem? (i := 89) rfl) rfl
theorem k_L_195 : LkV RL 195 RX11 yX11_whose cX11_whose 15 (some .int) 6 := ⟨big_7 (List.mem_of_getElem? (i := 86) rfl) rfl, big_7 (List.mem_of_getElem? (i := 87) rfl) rfl, big_7 (List.mem_of_getElem? (i := 88) rfl) rfl, big_1 (List.mem_of_getElem? (i := 11) rfl) rfl, cd_X11_whose, rfl, by decide, by decide, by decide⟩
theorem cd_X10_part : Cond.code yX10_part cX10_part 5 (some .int) ∈ BIG := big_5 (List.mem_of_getElem? (i := 38) rfl) rfl
theorem k_L_196 : LkV RL 196 RX10 yX10_part cX10_part 5 (some .int) 1 := ⟨big_5 (List.mem_of_getElem? (i := 35) rfl) rfl, big_5 (List.mem_of_getElem? (i := 36) rfl) rfl, big_5 (List.mem_of_getElem? (i := 37) rfl) rfl, big_1 (List.mem_of_getElem? (i := 1) rfl) rfl, cd_X10_part, rfl, by decide, by decide, by decide⟩
theorem cd_X11_part : Cond.code yX11_part cX11_part 14 (some .int) ∈ BIG := big_7 (List.mem_of_getElem? (i := 100) rfl) rfl
theorem k_L_199 : LkV RL 199 RX11 yX11_part cX11_part 14 (some .int) 1 := ⟨big_7 (List.mem_of_getElem? (i := 97) rfl) rfl, big_7 (List.mem_of_getElem? (i := 98) rfl) rfl, big_7 (List.mem_of_getElem? (i := 99) rfl) rfl, big_1 (List.mem_of_getElem? (i := 11) rfl) rfl, cd_X11_part, rfl, by decide, by decide, by decide⟩
theorem cd_X10_buckets : Cond.code yX10_buckets cX10_buckets 9 (some .int) ∈ BIG := big_5 (List.mem_of_getElem? (i := 46) rfl) rfl
theorem k_L_200 : LkV RL 200 RX10 yX10_buckets cX10_buckets 9 (some .int) 2 := ⟨big_5 (List.mem_of_getElem? (i := 43) rfl) rfl, big_5 (List.mem_of_getElem? (i := 44) rfl) rfl, big_5 (List.mem_of_getElem? (i := 45) rfl) rfl, big_1 (List.mem_of_getElem? (i := 1) rfl) rfl, cd_X10_buckets, rfl, by decide, by decide, by decide⟩
theorem cd_X11_buckets : Cond.code yX11_buckets cX11_buckets 7 (some .int) ∈ BIG := big_7 (List.mem_of_getElem? (i := 104) rfl) rfl
theorem k_L_203 : LkV RL 203 RX11 yX11_buckets cX11_buckets 7 (some .int) 2 := ⟨big_7 (List.mem_of_getElem? (i := 101) rfl) rfl, big_7 (List.mem_of_getElem? (i := 102) rfl) rfl, big_7 (List.mem_of_getElem? (i := 103) rfl) rfl, big_1 (List.mem_of_getElem? (i := 11) rfl) rfl, cd_X11_buckets, rfl, by decide, by decide, by decide⟩
theorem cd_X10_cogs : Cond.code yX10_cogs cX10_cogs 1 (some .long) ∈ BIG := big_5 (List.mem_of_getElem? (i := 50) rfl) rfl
theorem k_L_204 : LkV RL 204 RX10 yX10_cogs cX10_cogs 1 (some .long) 0 := ⟨big_5 (List.mem_of_getElem? (i := 47) rfl) rfl, big_5 (List.mem_of_getElem? (i := 48) rfl) rfl, big_5 (List.mem_of_getElem? (i := 49) rfl) rfl, big_1 (List.mem_of_getElem? (i := 1) rfl) rfl, cd_X10_cogs, rfl, by decide, by decide, by decide⟩
theorem cd_X11_cogs : Cond.code yX11_cogs cX11_cogs 1 (some .long) ∈ BIG := big_7 (List.mem_of_getElem? (i := 108) rfl) rfl
theorem k_L_207 : LkV RL 207 RX11 yX11_cogs cX11_cogs 1 (some .long) 0 := ⟨big_7 (List.mem_of_getElem? (i := 105) rfl) rfl, big_7 (List.mem_of_getElem? (i := 106) rfl) rfl, big_7 (List.mem_of_getElem? (i := 107) rfl) rfl, big_1 (List.mem_of_getElem? (i := 11) rfl) rfl, cd_X11_cogs, rfl, by decide, by decide, by decide⟩
theorem cd_X10_order : Cond.code yX10_order cX10_order 2 (some .long) ∈ BIG := big_5 (List.mem_of_getElem? (i := 62) rfl) rfl
theorem k_L_208 : LkV RL 208 RX10 yX10_order cX10_order 2 (some .long) 0 := ⟨big_5 (List.mem_of_getElem? (i := 59) rfl) rfl, big_5 (List.mem_of_getElem? (i := 60) rfl) rfl, big_5 (List.mem_of_getElem? (i := 61) rfl) rfl, big_1 (List.mem_of_getElem? (i := 1) rfl) rfl, cd_X10_order, rfl, by decide, by decide, by decide⟩
theorem cd_X11_order : Cond.code yX11_order cX11_order 2 (some .long) ∈ BIG := big_7 (List.mem_of_getElem? (i := 124) rfl) rfl
theorem k_L_211 : LkV RL 211 RX11 yX11_order cX11_order 2 (some .long) 0 := ⟨big_7 (List.mem_of_getElem? (i := 121) rfl) rfl, big_7 (List.mem_of_getElem? (i := 122) rfl) rfl, big_7 (List.mem_of_getElem? (i := 123) rfl) rfl, big_1 (List.mem_of_getElem? (i := 11) rfl) rfl, cd_X11_order, rfl, by decide, by decide, by decide⟩
theorem cd_X10_round : Cond.code yX10_round cX10_round 3 (some .int) ∈ BIG := big_5 (List.mem_of_getElem? (i := 79) rfl) rfl
theorem k_L_212 : LkV RL 212 RX10 yX10_round cX10_round 3 (some .int) 0 := ⟨big_5 (List.mem_of_getElem? (i := 76) rfl) rfl, big_5 (List.mem_of_getElem? (i := 77) rfl) rfl, big_5 (List.mem_of_getElem? (i := 78) rfl) rfl, big_1 (List.mem_of_getElem? (i := 1) rfl) rfl, cd_X10_round, rfl, by decide, by decide, by decide⟩
theorem cd_X11_round : Cond.code yX11_round cX11_round 9 (some .int) ∈ BIG := big_7 (List.mem_of_getElem? (i := 132) rfl) rfl
theorem k_L_215 : LkV RL 215 RX11 yX11_round cX11_round 9 (some .int) 0 := ⟨big_7 (List.mem_of_getElem? (i := 129) rfl) rfl, big_7 (List.mem_of_getElem? (i := 130) rfl) rfl, big_7 (List.mem_of_getElem? (i := 131) rfl) rfl, big_1 (List.mem_of_getElem? (i := 11) rfl) rfl, cd_X11_round, rfl, by decide, by decide, by decide⟩
theorem cd_X10_keep : Cond.code yX10_keep cX10_keep 2 (some .boolean) ∈ BIG := big_5 (List.mem_of_getElem? (i := 92) rfl) rfl
theorem k_L_216 : LkV RL 216 RX10 yX10_keep cX10_keep 2 (some .boolean) 1 := ⟨big_5 (List.mem_of_getElem? (i := 89) rfl) rfl, big_5 (List.mem_of_getElem? (i := 90) rfl) rfl, big_5 (List.mem_of_getElem? (i := 91) rfl) rfl, big_1 (List.mem_of_getElem? (i := 1) rfl) rfl, cd_X10_keep, rfl, by decide, by decide, by decide⟩
theorem cd_X11_keep : Cond.code yX11_keep cX11_keep 4 (some .boolean) ∈ BIG := big_7 (List.mem_of_getElem? (i := 140) rfl) rfl
theorem k_L_219 : LkV RL 219 RX11 yX11_keep cX11_keep 4 (some .boolean) 1 := ⟨big_7 (List.mem_of_getElem? (i := 137) rfl) rfl, big_7 (List.mem_of_getElem? (i := 138) rfl) rfl, big_7 (List.mem_of_getElem? (i := 139) rfl) rfl, big_1 (List.mem_of_getElem? (i := 11) rfl) rfl, cd_X11_keep, rfl, by decide, by decide, by decide⟩
theorem cd_X10_again : Cond.code yX10_again cX10_again 2 (some .boolean) ∈ BIG := big_5 (List.mem_of_getElem? (i := 111) rfl) rfl
theorem k_L_220 : LkV RL 220 RX10 yX10_again cX10_again 2 (some .boolean) 1 := ⟨big_5 (List.mem_of_getElem? (i := 108) rfl) rfl, big_5 (List.mem_of_getElem? (i := 109) rfl) rfl, big_5 (List.mem_of_getElem? (i := 110) rfl) rfl, big_1 (List.mem_of_getElem? (i := 1) rfl) rfl, cd_X10_again, rfl, by decide, by decide, by decide⟩
theorem cd_X11_again : Cond.code yX11_again cX11_again 4 (some .boolean) ∈ BIG := big_7 (List.mem_of_getElem? (i := 148) rfl) rfl
theorem k_L_223 : LkV RL 223 RX11 yX11_again cX11_again 4 (some .boolean) 1 := ⟨big_7 (List.mem_of_getElem? (i := 145) rfl) rfl, big_7 (List.mem_of_getElem? (i := 146) rfl) rfl, big_7 (List.mem_of_getElem? (i := 147) rfl) rfl, big_1 (List.mem_of_getElem? (i := 11) rfl) rfl, cd_X11_again, rfl, by decide, by decide, by decide⟩
theorem cd_X10_count : Cond.code yX10_count cX10_count 2 (some .int) ∈ BIG := big_5 (List.mem_of_getElem? (i := 119) rfl) rfl
theorem k_L_224 : LkV RL 224 RX10 yX10_count cX10_count 2 (some .int) 1 := ⟨big_5 (List.mem_of_getElem? (i := 116) rfl) rfl, big_5 (List.mem_of_getElem? (i := 117) rfl) rfl, big_5 (List.mem_of_getElem? (i := 118) rfl) rfl, big_1 (List.mem_of_getElem? (i := 1) rfl) rfl, cd_X10_count, rfl, by decide, by decide, by decide⟩
theorem cd_X11_count : Cond.code yX11_count cX11_count 2 (some .int) ∈ BIG := big_7 (List.mem_of_getElem? (i := 156) rfl) rfl
theorem k_L_227 : LkV RL 227 RX11 yX11_count cX11_count 2 (some .int) 1 := ⟨big_7 (List.mem_of_getElem? (i := 153) rfl) rfl, big_7 (List.mem_of_getElem? (i := 154) rfl) rfl, big_7 (List.mem_of_getElem? (i := 155) rfl) rfl, big_1 (List.mem_of_getElem? (i := 11) rfl) rfl, cd_X11_count, rfl, by decide, by decide, by decide⟩
theorem cd_X11_row : Cond.code yX11_row cX11_row 2 (some .long) ∈ BIG := big_8 (List.mem_of_getElem? (i := 151) rfl) rfl
theorem k_L_231 : LkV RL 231 RX11 yX11_row cX11_row 2 (some .long) 1 := ⟨big_8 (List.mem_of_getElem? (i := 148) rfl) rfl, big_8 (List.mem_of_getElem? (i := 149) rfl) rfl, big_8 (List.mem_of_getElem? (i := 150) rfl) rfl, big_1 (List.mem_of_getElem? (i := 11) rfl) rfl, cd_X11_row, rfl, by decide, by decide, by decide⟩
theorem oi_m : Cond.instanceMethod Lib.objectInit ∈ BIG := big_1 (List.mem_of_getElem? (i := 27) rfl) rfl
theorem oi_c : Cond.code Lib.objectInit ⟨#[0xb1]⟩ 1 none ∈ BIG := big_1 (List.mem_of_getElem? (i := 28) rfl) rfl
theorem cn_10_205 : Jvm.Cond.constant RX10 205 99999 ∈ BIG := big_3 (List.mem_of_getElem? (i := 102) rfl) rfl
theorem cn_10_211 : Jvm.Cond.constant RX10 211 2000000000 ∈ BIG := big_3 (List.mem_of_getElem? (i := 116) rfl) rfl
theorem cn_10_346 : Jvm.Cond.constantLong RX10 346 (-1) ∈ BIG := big_4 (List.mem_of_getElem? (i := 74) rfl) rfl
theorem cn_10_425 : Jvm.Cond.constantLong RX10 425 (-2) ∈ BIG := big_5 (List.mem_of_getElem? (i := 9) rfl) rfl
theorem cn_10_443 : Jvm.Cond.constantLong RX10 443 40000000000 ∈ BIG := big_5 (List.mem_of_getElem? (i := 17) rfl) rfl
theorem cn_10_445 : Jvm.Cond.constantLong RX10 445 200000 ∈ BIG := big_5 (List.mem_of_getElem? (i := 18) rfl) rfl
theorem cn_10_447 : Jvm.Cond.constantLong RX10 447 100000 ∈ BIG := big_5 (List.mem_of_getElem? (i := 22) rfl) rfl
theorem cn_10_473 : Jvm.Cond.constant RX10 473 1000000 ∈ BIG := big_5 (List.mem_of_getElem? (i := 80) rfl) rfl
theorem cn_0_39 : Jvm.Cond.constantLong RX0 39 9223372036854775807 ∈ BIG := big_5 (List.mem_of_getElem? (i := 67) rfl) rfl
theorem cn_1_49 : Jvm.Cond.constantLong RX1 49 (-1) ∈ BIG := big_3 (List.mem_of_getElem? (i := 169) rfl) rfl
theorem cn_3_25 : Jvm.Cond.constant RX3 25 32768 ∈ BIG := big_3 (List.mem_of_getElem? (i := 210) rfl) rfl
theorem cn_3_55 : Jvm.Cond.constantLong RX3 55 (-7046029254386353131) ∈ BIG := big_4 (List.mem_of_getElem? (i := 31) rfl) rfl
theorem cn_6_96 : Jvm.Cond.constantLong RX6 96 2 ∈ BIG := big_4 (List.mem_of_getElem? (i := 143) rfl) rfl
theorem cn_L_149 : Jvm.Cond.constantLong RL 149 4294967295 ∈ BIG := big_8 (List.mem_of_getElem? (i := 152) rfl) rfl
theorem cn_11_43 : Jvm.Cond.constantLong RX11 43 48 ∈ BIG := big_5 (List.mem_of_getElem? (i := 232) rfl) rfl
theorem cn_11_45 : Jvm.Cond.constantLong RX11 45 57 ∈ BIG := big_5 (List.mem_of_getElem? (i := 233) rfl) rfl
theorem cn_11_118 : Jvm.Cond.constantLong RX11 118 5 ∈ BIG := big_6 (List.mem_of_getElem? (i := 13) rfl) rfl
theorem cn_11_120 : Jvm.Cond.constantLong RX11 120 9 ∈ BIG := big_6 (List.mem_of_getElem? (i := 22) rfl) rfl
theorem cn_11_122 : Jvm.Cond.constantLong RX11 122 3 ∈ BIG := big_6 (List.mem_of_getElem? (i := 27) rfl) rfl
theorem cn_11_133 : Jvm.Cond.constantLong RX11 133 (-9) ∈ BIG := big_6 (List.mem_of_getElem? (i := 40) rfl) rfl
theorem cn_11_138 : Jvm.Cond.constantLong RX11 138 (-9999) ∈ BIG := big_6 (List.mem_of_getElem? (i := 48) rfl) rfl
theorem cn_11_140 : Jvm.Cond.constantLong RX11 140 9999 ∈ BIG := big_6 (List.mem_of_getElem? (i := 49) rfl) rfl
theorem cn_11_164 : Jvm.Cond.constantLong RX11 164 20 ∈ BIG := big_6 (List.mem_of_getElem? (i := 58) rfl) rfl
theorem cn_11_208 : Jvm.Cond.constantLong RX11 208 (-99999) ∈ BIG := big_6 (List.mem_of_getElem? (i := 97) rfl) rfl
theorem cn_11_210 : Jvm.Cond.constantLong RX11 210 99999 ∈ BIG := big_6 (List.mem_of_getElem? (i := 98) rfl) rfl
theorem cn_11_215 : Jvm.Cond.constantLong RX11 215 999 ∈ BIG := big_6 (List.mem_of_getElem? (i := 99) rfl) rfl
theorem cn_11_221 : Jvm.Cond.constantLong RX11 221 2000000000 ∈ BIG := big_6 (List.mem_of_getElem? (i := 108) rfl) rfl
theorem cn_11_279 : Jvm.Cond.constantLong RX11 279 (-1) ∈ BIG := big_6 (List.mem_of_getElem? (i := 151) rfl) rfl
theorem cn_11_283 : Jvm.Cond.constantLong RX11 283 (-60) ∈ BIG := big_6 (List.mem_of_getElem? (i := 160) rfl) rfl
theorem cn_11_285 : Jvm.Cond.constantLong RX11 285 60 ∈ BIG := big_6 (List.mem_of_getElem? (i := 161) rfl) rfl
theorem cn_11_321 : Jvm.Cond.constantLong RX11 321 4 ∈ BIG := big_6 (List.mem_of_getElem? (i := 175) rfl) rfl
theorem cn_11_335 : Jvm.Cond.constantLong RX11 335 2 ∈ BIG := big_6 (List.mem_of_getElem? (i := 211) rfl) rfl
theorem cn_11_340 : Jvm.Cond.constantLong RX11 340 99 ∈ BIG := big_6 (List.mem_of_getElem? (i := 212) rfl) rfl
theorem cn_11_431 : Jvm.Cond.constantLong RX11 431 (-2) ∈ BIG := big_7 (List.mem_of_getElem? (i := 73) rfl) rfl
theorem cn_11_433 : Jvm.Cond.constantLong RX11 433 200000 ∈ BIG := big_7 (List.mem_of_getElem? (i := 81) rfl) rfl
theorem cn_11_435 : Jvm.Cond.constantLong RX11 435 100000 ∈ BIG := big_7 (List.mem_of_getElem? (i := 82) rfl) rfl
theorem cn_J6_265 : Jvm.Cond.constant RJ6 265 1431655765 ∈ BIG := big_3 (List.mem_of_getElem? (i := 189) rfl) rfl
theorem cn_J6_266 : Jvm.Cond.constant RJ6 266 858993459 ∈ BIG := big_3 (List.mem_of_getElem? (i := 190) rfl) rfl
theorem cn_J6_267 : Jvm.Cond.constant RJ6 267 252645135 ∈ BIG := big_3 (List.mem_of_getElem? (i := 191) rfl) rfl
theorem cn_J13_168 : Jvm.Cond.constantLong RJ13 168 (-9223372036854775808) ∈ BIG := big_4 (List.mem_of_getElem? (i := 66) rfl) rfl
theorem in_L : Cond.initialized RL ∈ BIG := big_1 (List.mem_of_getElem? (i := 0) rfl) rfl
theorem in_10 : Cond.initialized RX10 ∈ BIG := big_1 (List.mem_of_getElem? (i := 1) rfl) rfl
theorem in_8 : Cond.initialized RX8 ∈ BIG := big_1 (List.mem_of_getElem? (i := 2) rfl) rfl
theorem in_4 : Cond.initialized RX4 ∈ BIG := big_1 (List.mem_of_getElem? (i := 3) rfl) rfl
theorem in_5 : Cond.initialized RX5 ∈ BIG := big_1 (List.mem_of_getElem? (i := 4) rfl) rfl
theorem in_7 : Cond.initialized RX7 ∈ BIG := big_1 (List.mem_of_getElem? (i := 5) rfl) rfl
theorem in_0 : Cond.initialized RX0 ∈ BIG := big_1 (List.mem_of_getElem? (i := 6) rfl) rfl
theorem in_9 : Cond.initialized RX9 ∈ BIG := big_1 (List.mem_of_getElem? (i := 7) rfl) rfl
theorem in_1 : Cond.initialized RX1 ∈ BIG := big_1 (List.mem_of_getElem? (i := 8) rfl) rfl
theorem in_6 : Cond.initialized RX6 ∈ BIG := big_1 (List.mem_of_getElem? (i := 9) rfl) rfl
theorem in_2 : Cond.initialized RX2 ∈ BIG := big_1 (List.mem_of_getElem? (i := 10) rfl) rfl
theorem in_11 : Cond.initialized RX11 ∈ BIG := big_1 (List.mem_of_getElem? (i := 11) rfl) rfl
theorem in_3 : Cond.initialized RX3 ∈ BIG := big_1 (List.mem_of_getElem? (i := 19) rfl) rfl
theorem cl_L_8 : Cond.classLink RL 8 RX10 ∈ BIG := big_1 (List.mem_of_getElem? (i := 21) rfl) rfl
theorem is_10 : Cond.instantiable RX10 16 ∈ BIG := big_1 (List.mem_of_getElem? (i := 22) rfl) rfl
theorem cl_10_9 : Cond.classLink RX10 9 RX8 ∈ BIG := big_1 (List.mem_of_getElem? (i := 29) rfl) rfl
theorem is_8 : Cond.instantiable RX8 2 ∈ BIG := big_1 (List.mem_of_getElem? (i := 30) rfl) rfl
theorem ac_1 : Cond.arrayClass FieldType.long ∈ BIG := big_1 (List.mem_of_getElem? (i := 44) rfl) rfl
theorem cl_10_16 : Cond.classLink RX10 16 RX4 ∈ BIG := big_1 (List.mem_of_getElem? (i := 45) rfl) rfl
theorem is_4 : Cond.instantiable RX4 8 ∈ BIG := big_1 (List.mem_of_getElem? (i := 46) rfl) rfl
theorem ac_0 : Cond.arrayClass FieldType.int ∈ BIG := big_1 (List.mem_of_getElem? (i := 77) rfl) rfl
theorem cl_10_23 : Cond.classLink RX10 23 RX5 ∈ BIG := big_1 (List.mem_of_getElem? (i := 78) rfl) rfl
theorem is_5 : Cond.instantiable RX5 9 ∈ BIG := big_1 (List.mem_of_getElem? (i := 79) rfl) rfl
theorem cl_10_30 : Cond.classLink RX10 30 RX7 ∈ BIG := big_1 (List.mem_of_getElem? (i := 131) rfl) rfl
theorem is_7 : Cond.instantiable RX7 6 ∈ BIG := big_1 (List.mem_of_getElem? (i := 132) rfl) rfl
theorem ac_2 : Cond.arrayClass FieldType.boolean ∈ BIG := big_1 (List.mem_of_getElem? (i := 165) rfl) rfl
theorem cl_10_37 : Cond.classLink RX10 37 RX0 ∈ BIG := big_1 (List.mem_of_getElem? (i := 166) rfl) rfl
theorem is_0 : Cond.instantiable RX0 7 ∈ BIG := big_1 (List.mem_of_getElem? (i := 167) rfl) rfl
theorem cl_10_44 : Cond.classLink RX10 44 RX9 ∈ BIG := big_1 (List.mem_of_getElem? (i := 202) rfl) rfl
theorem is_9 : Cond.instantiable RX9 10 ∈ BIG := big_1 (List.mem_of_getElem? (i := 203) rfl) rfl
theorem cl_10_51 : Cond.classLink RX10 51 RX1 ∈ BIG := big_2 (List.mem_of_getElem? (i := 5) rfl) rfl
theorem is_1 : Cond.instantiable RX1 9 ∈ BIG := big_2 (List.mem_of_getElem? (i := 6) rfl) rfl
theorem cl_10_58 : Cond.classLink RX10 58 RX6 ∈ BIG := big_2 (List.mem_of_getElem? (i := 46) rfl) rfl
theorem is_6 : Cond.instantiable RX6 15 ∈ BIG := big_2 (List.mem_of_getElem? (i := 47) rfl) rfl
theorem cl_10_65 : Cond.classLink RX10 65 RX2 ∈ BIG := big_2 (List.mem_of_getElem? (i := 100) rfl) rfl
theorem is_2 : Cond.instantiable RX2 7 ∈ BIG := big_2 (List.mem_of_getElem? (i := 102) rfl) rfl
theorem cl_2_18 : Cond.classLink RX2 18 RX7 ∈ BIG := big_2 (List.mem_of_getElem? (i := 107) rfl) rfl
theorem cl_2_25 : Cond.classLink RX2 25 RX9 ∈ BIG := big_2 (List.mem_of_getElem? (i := 109) rfl) rfl
theorem cl_10_269 : Cond.classLink RX10 269 RX3 ∈ BIG := big_3 (List.mem_of_getElem? (i := 204) rfl) rfl
theorem is_3 : Cond.instantiable RX3 9 ∈ BIG := big_3 (List.mem_of_getElem? (i := 205) rfl) rfl
theorem ac_3 : Cond.arrayClass FieldType.byte ∈ BIG := big_5 (List.mem_of_getElem? (i := 193) rfl) rfl
theorem is_11 : Cond.instantiable RX11 75 ∈ BIG := big_5 (List.mem_of_getElem? (i := 222) rfl) rfl
theorem cl_L_20 : Cond.classLink RL 20 RX11 ∈ BIG := big_7 (List.mem_of_getElem? (i := 157) rfl) rfl
theorem ao_0 : AOW ∈ lw_tbl := tb_2 (List.mem_of_getElem? (i := 101) rfl)
end
section
section ZCOND
variable {p : Program} {l : Launch} {e : Env} {R : Room} {s : State} {m : MethodId} {args : Array Value} {below : List Frame} {meth : Method} {c : Code} {nL : Nat} {G : KG} {A : Nat → Prop} {Q : State → Prop} {cc : ByteArray} {own : String} {ret : Option FieldType} {nm : String}
variable {pc : Nat} {rest st : List Value} {ws : va_W} {kc ks : Nat}
def zb (b : Bool) : Int32 := if b then 1 else 0
theorem zb_t {P : Prop} [Decidable P] (h : P) : zb (decide P) = 1 := by unfold zb; rw [decide_eq_true h]; rfl
theorem zb_f {P : Prop} [Decidable P] (h : ¬ P) : zb (decide P) = 0 := by unfold zb; rw [decide_eq_false h]; rfl
theorem zb_n (b : Bool) : narrow .boolean (.int (zb b)) = .int (zb b) := by cases b <;> rfl
theorem zb_0 {P : Prop} [Decidable P] : zb (decide P) = 0 ↔ ¬ P := by
  by_cases h : P
  · rw [zb_t h]; exact ⟨fun q => absurd q (by decide), fun q => absurd h q⟩
  · rw [zb_f h]; exact ⟨fun _ => h, fun _ => rfl⟩
theorem zb_i {P Q : Prop} [Decidable P] [Decidable Q] (h : P ↔ Q) : zb (decide P) = zb (decide Q) := by rw [decide_eq_decide.mpr h]
theorem tI64 {x : Int32} {a : Int} (h : x.toInt = a) : x.toInt64.toInt = a := by rw [Int32.toInt_toInt64]; exact h

theorem zi_eq (X : ZC p s m args meth c cc nL own G A ret nm) {lv : List (Nat × Value)} {x : Int32} {a : Int} {off : Int} {tgt : Nat} (hdg : decode cc pc = .ok (.ifCond .eq off, 3)) (ht : (pc : Int) + off = (tgt : Int)) (ha : x.toInt = a) (kt : a = 0 → Z p l e R s m args below meth c nL G A Q tgt lv rest ws kc ks) (kf : a ≠ 0 → Z p l e R s m args below meth c nL G A Q (pc + 3) lv rest ws kc ks) : Z p l e R s m args below meth c nL G A Q pc lv (.int x :: rest) ws kc ks := by
  have hb : (0 : Int32).toInt = 0 := rfl
  exact z_if_eq X hdg ht (fun h => kt (by rw [← ha, ← hb, h])) (fun h => kf (by rw [← ha, ← hb]; exact fun q => h (Int32.toInt_inj.mp q)))
theorem zc_eq (X : ZC p s m args meth c cc nL own G A ret nm) {lv : List (Nat × Value)} {x y : Int32} {a b : Int} {off : Int} {tgt : Nat} (hdg : decode cc pc = .ok (.if_icmp .eq off, 3)) (ht : (pc : Int) + off = (tgt : Int)) (ha : x.toInt = a) (hb : y.toInt = b) (kt : a = b → Z p l e R s m args below meth c nL G A Q tgt lv rest ws kc ks) (kf : a ≠ b → Z p l e R s m args below meth c nL G A Q (pc + 3) lv rest ws kc ks) : Z p l e R s m args below meth c nL G A Q pc lv (.int y :: .int x :: rest) ws kc ks :=
  z_icmp_eq X hdg ht (fun h => kt (by rw [← ha, ← hb, h])) (fun h => kf (by rw [← ha, ← hb]; exact fun q => h (Int32.toInt_inj.mp q)))
theorem zl_eq (X : ZC p s m args meth c cc nL own G A ret nm) {lv : List (Nat × Value)} {x y : Int64} {a b : Int} {off : Int} {tgt : Nat} (hd0 : decode cc pc = .ok (.lcmp, 1)) (hdg : decode cc (pc + 1) = .ok (.ifCond .eq off, 3)) (ht : ((pc + 1 : Nat) : Int) + off = (tgt : Int)) (ha : x.toInt = a) (hb : y.toInt = b) (kt : a = b → Z p l e R s m args below meth c nL G A Q tgt lv rest ws kc ks) (kf : a ≠ b → Z p l e R s m args below meth c nL G A Q (pc + 4) lv rest ws kc ks) : Z p l e R s m args below meth c nL G A Q pc lv (.long y :: .long x :: rest) ws kc ks :=
  z_lcmp X hd0 (z_if_eq X hdg ht (fun h => kt (by have h := (lg_cmp_eq x y).mp h; rw [← ha, ← hb, h])) (fun h => kf (by have h : ¬ _ := fun q => h ((lg_cmp_eq x y).mpr q); rw [← ha, ← hb]; exact fun q => h (Int64.toInt_inj.mp q))))
theorem zi_ne (X : ZC p s m args meth c cc nL own G A ret nm) {lv : List (Nat × Value)} {x : Int32} {a : Int} {off : Int} {tgt : Nat} (hdg : decode cc pc = .ok (.ifCond .ne off, 3)) (ht : (pc : Int) + off = (tgt : Int)) (ha : x.toInt = a) (kt : a ≠ 0 → Z p l e R s m args below meth c nL G A Q tgt lv rest ws kc ks) (kf : a = 0 → Z p l e R s m args below meth c nL G A Q (pc + 3) lv rest ws kc ks) : Z p l e R s m args below meth c nL G A Q pc lv (.int x :: rest) ws kc ks := by
  have hb : (0 : Int32).toInt = 0 := rfl
  exact z_if_ne X hdg ht (fun h => kt (by rw [← ha, ← hb]; exact fun q => h (Int32.toInt_inj.mp q))) (fun h => kf (by rw [← ha, ← hb, h]))
theorem zc_ne (X : ZC p s m args meth c cc nL own G A ret nm) {lv : List (Nat × Value)} {x y : Int32} {a b : Int} {off : Int} {tgt : Nat} (hdg : decode cc pc = .ok (.if_icmp .ne off, 3)) (ht : (pc : Int) + off = (tgt : Int)) (ha : x.toInt = a) (hb : y.toInt = b) (kt : a ≠ b → Z p l e R s m args below meth c nL G A Q tgt lv rest ws kc ks) (kf : a = b → Z p l e R s m args below meth c nL G A Q (pc + 3) lv rest ws kc ks) : Z p l e R s m args below meth c nL G A Q pc lv (.int y :: .int x :: rest) ws kc ks :=
  z_icmp_ne X hdg ht (fun h => kt (by rw [← ha, ← hb]; exact fun q => h (Int32.toInt_inj.mp q))) (fun h => kf (by rw [← ha, ← hb, h]))
theorem zl_ne (X : ZC p s m args meth c cc nL own G A ret nm) {lv : List (Nat × Value)} {x y : Int64} {a b : Int} {off : Int} {tgt : Nat} (hd0 : decode cc pc = .ok (.lcmp, 1)) (hdg : decode cc (pc + 1) = .ok (.ifCond .ne off, 3)) (ht : ((pc + 1 : Nat) : Int) + off = (tgt : Int)) (ha : x.toInt = a) (hb : y.toInt = b) (kt : a ≠ b → Z p l e R s m args below meth c nL G A Q tgt lv rest ws kc ks) (kf : a = b → Z p l e R s m args below meth c nL G A Q (pc + 4) lv rest ws kc ks) : Z p l e R s m args below meth c nL G A Q pc lv (.long y :: .long x :: rest) ws kc ks :=
  z_lcmp X hd0 (z_if_ne X hdg ht (fun h => kt (by have h : ¬ _ := fun q => h ((lg_cmp_eq x y).mpr q); rw [← ha, ← hb]; exact fun q => h (Int64.toInt_inj.mp q))) (fun h => kf (by have h := (lg_cmp_eq x y).mp h; rw [← ha, ← hb, h])))
theorem zi_lt (X : ZC p s m args meth c cc nL own G A ret nm) {lv : List (Nat × Value)} {x : Int32} {a : Int} {off : Int} {tgt : Nat} (hdg : decode cc pc = .ok (.ifCond .lt off, 3)) (ht : (pc : Int) + off = (tgt : Int)) (ha : x.toInt = a) (kt : a < 0 → Z p l e R s m args below meth c nL G A Q tgt lv rest ws kc ks) (kf : 0 ≤ a → Z p l e R s m args below meth c nL G A Q (pc + 3) lv rest ws kc ks) : Z p l e R s m args below meth c nL G A Q pc lv (.int x :: rest) ws kc ks := by
  have hb : (0 : Int32).toInt = 0 := rfl
  exact z_if_lt X hdg ht (fun h => kt (by rw [← ha, ← hb]; exact Int32.lt_iff_toInt_lt.mp h)) (fun h => kf (by rw [← ha, ← hb]; exact Int.not_lt.mp (fun q => h (Int32.lt_iff_toInt_lt.mpr q))))
theorem zc_lt (X : ZC p s m args meth c cc nL own G A ret nm) {lv : List (Nat × Value)} {x y : Int32} {a b : Int} {off : Int} {tgt : Nat} (hdg : decode cc pc = .ok (.if_icmp .lt off, 3)) (ht : (pc : Int) + off = (tgt : Int)) (ha : x.toInt = a) (hb : y.toInt = b) (kt : a < b → Z p l e R s m args below meth c nL G A Q tgt lv rest ws kc ks) (kf : b ≤ a → Z p l e R s m args below meth c nL G A Q (pc + 3) lv rest ws kc ks) : Z p l e R s m args below meth c nL G A Q pc lv (.int y :: .int x :: rest) ws kc ks :=
  z_icmp_lt X hdg ht (fun h => kt (by rw [← ha, ← hb]; exact Int32.lt_iff_toInt_lt.mp h)) (fun h => kf (by rw [← ha, ← hb]; exact Int.not_lt.mp (fun q => h (Int32.lt_iff_toInt_lt.mpr q))))
theorem zl_lt (X : ZC p s m args meth c cc nL own G A ret nm) {lv : List (Nat × Value)} {x y : Int64} {a b : Int} {off : Int} {tgt : Nat} (hd0 : decode cc pc = .ok (.lcmp, 1)) (hdg : decode cc (pc + 1) = .ok (.ifCond .lt off, 3)) (ht : ((pc + 1 : Nat) : Int) + off = (tgt : Int)) (ha : x.toInt = a) (hb : y.toInt = b) (kt : a < b → Z p l e R s m args below meth c nL G A Q tgt lv rest ws kc ks) (kf : b ≤ a → Z p l e R s m args below meth c nL G A Q (pc + 4) lv rest ws kc ks) : Z p l e R s m args below meth c nL G A Q pc lv (.long y :: .long x :: rest) ws kc ks :=
  z_lcmp X hd0 (z_if_lt X hdg ht (fun h => kt (by have h := (lg_cmp_lt x y).mp h; rw [← ha, ← hb]; exact Int64.lt_iff_toInt_lt.mp h)) (fun h => kf (by have h : ¬ _ := fun q => h ((lg_cmp_lt x y).mpr q); rw [← ha, ← hb]; exact Int.not_lt.mp (fun q => h (Int64.lt_iff_toInt_lt.mpr q)))))
theorem zi_ge (X : ZC p s m args meth c cc nL own G A ret nm) {lv : List (Nat × Value)} {x : Int32} {a : Int} {off : Int} {tgt : Nat} (hdg : decode cc pc = .ok (.ifCond .ge off, 3)) (ht : (pc : Int) + off = (tgt : Int)) (ha : x.toInt = a) (kt : 0 ≤ a → Z p l e R s m args below meth c nL G A Q tgt lv rest ws kc ks) (kf : a < 0 → Z p l e R s m args below meth c nL G A Q (pc + 3) lv rest ws kc ks) : Z p l e R s m args below meth c nL G A Q pc lv (.int x :: rest) ws kc ks := by
  have hb : (0 : Int32).toInt = 0 := rfl
  exact z_if_ge X hdg ht (fun h => kt (by rw [← ha, ← hb]; exact Int32.le_iff_toInt_le.mp h)) (fun h => kf (by rw [← ha, ← hb]; exact Int.not_le.mp (fun q => h (Int32.le_iff_toInt_le.mpr q))))
theorem zc_ge (X : ZC p s m args meth c cc nL own G A ret nm) {lv : List (Nat × Value)} {x y : Int32} {a b : Int} {off : Int} {tgt : Nat} (hdg : decode cc pc = .ok (.if_icmp .ge off, 3)) (ht : (pc : Int) + off = (tgt : Int)) (ha : x.toInt = a) (hb : y.toInt = b) (kt : b ≤ a → Z p l e R s m args below meth c nL G A Q tgt lv rest ws kc ks) (kf : a < b → Z p l e R s m args below meth c nL G A Q (pc + 3) lv rest ws kc ks) : Z p l e R s m args below meth c nL G A Q pc lv (.int y :: .int x :: rest) ws kc ks :=
  z_icmp_ge X hdg ht (fun h => kt (by rw [← ha, ← hb]; exact Int32.le_iff_toInt_le.mp h)) (fun h => kf (by rw [← ha, ← hb]; exact Int.not_le.mp (fun q => h (Int32.le_iff_toInt_le.mpr q))))
theorem zl_ge (X : ZC p s m args meth c cc nL own G A ret nm) {lv : List (Nat × Value)} {x y : Int64} {a b : Int} {off : Int} {tgt : Nat} (hd0 : decode cc pc = .ok (.lcmp, 1)) (hdg : decode cc (pc + 1) = .ok (.ifCond .ge off, 3)) (ht : ((pc + 1 : Nat) : Int) + off = (tgt : Int)) (ha : x.toInt = a) (hb : y.toInt = b) (kt : b ≤ a → Z p l e R s m args below meth c nL G A Q tgt lv rest ws kc ks) (kf : a < b → Z p l e R s m args below meth c nL G A Q (pc + 4) lv rest ws kc ks) : Z p l e R s m args below meth c nL G A Q pc lv (.long y :: .long x :: rest) ws kc ks :=
  z_lcmp X hd0 (z_if_ge X hdg ht (fun h => kt (by have h := (lg_cmp_ge x y).mp h; rw [← ha, ← hb]; exact Int64.le_iff_toInt_le.mp h)) (fun h => kf (by have h : ¬ _ := fun q => h ((lg_cmp_ge x y).mpr q); rw [← ha, ← hb]; exact Int.not_le.mp (fun q => h (Int64.le_iff_toInt_le.mpr q)))))
theorem zi_gt (X : ZC p s m args meth c cc nL own G A ret nm) {lv : List (Nat × Value)} {x : Int32} {a : Int} {off : Int} {tgt : Nat} (hdg : decode cc pc = .ok (.ifCond .gt off, 3)) (ht : (pc : Int) + off = (tgt : Int)) (ha : x.toInt = a) (kt : 0 < a → Z p l e R s m args below meth c nL G A Q tgt lv rest ws kc ks) (kf : a ≤ 0 → Z p l e R s m args below meth c nL G A Q (pc + 3) lv rest ws kc ks) : Z p l e R s m args below meth c nL G A Q pc lv (.int x :: rest) ws kc ks := by
  have hb : (0 : Int32).toInt = 0 := rfl
  exact z_if_gt X hdg ht (fun h => kt (by rw [← ha, ← hb]; exact Int32.lt_iff_toInt_lt.mp h)) (fun h => kf (by rw [← ha, ← hb]; exact Int.not_lt.mp (fun q => h (Int32.lt_iff_toInt_lt.mpr q))))
theorem zc_gt (X : ZC p s m args meth c cc nL own G A ret nm) {lv : List (Nat × Value)} {x y : Int32} {a b : Int} {off : Int} {tgt : Nat} (hdg : decode cc pc = .ok (.if_icmp .gt off, 3)) (ht : (pc : Int) + off = (tgt : Int)) (ha : x.toInt = a) (hb : y.toInt = b) (kt : b < a → Z p l e R s m args below meth c nL G A Q tgt lv rest ws kc ks) (kf : a ≤ b → Z p l e R s m args below meth c nL G A Q (pc + 3) lv rest ws kc ks) : Z p l e R s m args below meth c nL G A Q pc lv (.int y :: .int x :: rest) ws kc ks :=
  z_icmp_gt X hdg ht (fun h => kt (by rw [← ha, ← hb]; exact Int32.lt_iff_toInt_lt.mp h)) (fun h => kf (by rw [← ha, ← hb]; exact Int.not_lt.mp (fun q => h (Int32.lt_iff_toInt_lt.mpr q))))
theorem zl_gt (X : ZC p s m args meth c cc nL own G A ret nm) {lv : List (Nat × Value)} {x y : Int64} {a b : Int} {off : Int} {tgt : Nat} (hd0 : decode cc pc = .ok (.lcmp, 1)) (hdg : decode cc (pc + 1) = .ok (.ifCond .gt off, 3)) (ht : ((pc + 1 : Nat) : Int) + off = (tgt : Int)) (ha : x.toInt = a) (hb : y.toInt = b) (kt : b < a → Z p l e R s m args below meth c nL G A Q tgt lv rest ws kc ks) (kf : a ≤ b → Z p l e R s m args below meth c nL G A Q (pc + 4) lv rest ws kc ks) : Z p l e R s m args below meth c nL G A Q pc lv (.long y :: .long x :: rest) ws kc ks :=
  z_lcmp X hd0 (z_if_gt X hdg ht (fun h => kt (by have h := (lg_cmp_gt x y).mp h; rw [← ha, ← hb]; exact Int64.lt_iff_toInt_lt.mp h)) (fun h => kf (by have h : ¬ _ := fun q => h ((lg_cmp_gt x y).mpr q); rw [← ha, ← hb]; exact Int.not_lt.mp (fun q => h (Int64.lt_iff_toInt_lt.mpr q)))))
theorem zi_le (X : ZC p s m args meth c cc nL own G A ret nm) {lv : List (Nat × Value)} {x : Int32} {a : Int} {off : Int} {tgt : Nat} (hdg : decode cc pc = .ok (.ifCond .le off, 3)) (ht : (pc : Int) + off = (tgt : Int)) (ha : x.toInt = a) (kt : a ≤ 0 → Z p l e R s m args below meth c nL G A Q tgt lv rest ws kc ks) (kf : 0 < a → Z p l e R s m args below meth c nL G A Q (pc + 3) lv rest ws kc ks) : Z p l e R s m args below meth c nL G A Q pc lv (.int x :: rest) ws kc ks := by
  have hb : (0 : Int32).toInt = 0 := rfl
  exact z_if_le X hdg ht (fun h => kt (by rw [← ha, ← hb]; exact Int32.le_iff_toInt_le.mp h)) (fun h => kf (by rw [← ha, ← hb]; exact Int.not_le.mp (fun q => h (Int32.le_iff_toInt_le.mpr q))))
theorem zc_le (X : ZC p s m args meth c cc nL own G A ret nm) {lv : List (Nat × Value)} {x y : Int32} {a b : Int} {off : Int} {tgt : Nat} (hdg : decode cc pc = .ok (.if_icmp .le off, 3)) (ht : (pc : Int) + off = (tgt : Int)) (ha : x.toInt = a) (hb : y.toInt = b) (kt : a ≤ b → Z p l e R s m args below meth c nL G A Q tgt lv rest ws kc ks) (kf : b < a → Z p l e R s m args below meth c nL G A Q (pc + 3) lv rest ws kc ks) : Z p l e R s m args below meth c nL G A Q pc lv (.int y :: .int x :: rest) ws kc ks :=
  z_icmp_le X hdg ht (fun h => kt (by rw [← ha, ← hb]; exact Int32.le_iff_toInt_le.mp h)) (fun h => kf (by rw [← ha, ← hb]; exact Int.not_le.mp (fun q => h (Int32.le_iff_toInt_le.mpr q))))
theorem zl_le (X : ZC p s m args meth c cc nL own G A ret nm) {lv : List (Nat × Value)} {x y : Int64} {a b : Int} {off : Int} {tgt : Nat} (hd0 : decode cc pc = .ok (.lcmp, 1)) (hdg : decode cc (pc + 1) = .ok (.ifCond .le off, 3)) (ht : ((pc + 1 : Nat) : Int) + off = (tgt : Int)) (ha : x.toInt = a) (hb : y.toInt = b) (kt : a ≤ b → Z p l e R s m args below meth c nL G A Q tgt lv rest ws kc ks) (kf : b < a → Z p l e R s m args below meth c nL G A Q (pc + 4) lv rest ws kc ks) : Z p l e R s m args below meth c nL G A Q pc lv (.long y :: .long x :: rest) ws kc ks :=
  z_lcmp X hd0 (z_if_le X hdg ht (fun h => kt (by have h := (lg_cmp_le x y).mp h; rw [← ha, ← hb]; exact Int64.le_iff_toInt_le.mp h)) (fun h => kf (by have h : ¬ _ := fun q => h ((lg_cmp_le x y).mpr q); rw [← ha, ← hb]; exact Int.not_le.mp (fun q => h (Int64.le_iff_toInt_le.mpr q)))))
theorem zi_eq_zb (X : ZC p s m args meth c cc nL own G A ret nm) {lv : List (Nat × Value)} {P : Prop} [Decidable P] {off : Int} {tgt : Nat} (hdg : decode cc pc = .ok (.ifCond .eq off, 3)) (ht : (pc : Int) + off = (tgt : Int)) (kt : ¬ P → Z p l e R s m args below meth c nL G A Q tgt lv rest ws kc ks) (kf : P → Z p l e R s m args below meth c nL G A Q (pc + 3) lv rest ws kc ks) : Z p l e R s m args below meth c nL G A Q pc lv (.int (zb (decide P)) :: rest) ws kc ks := z_if_eq X hdg ht (fun h => kt (zb_0.mp h)) (fun h => kf (Decidable.of_not_not (fun q => h (zb_0.mpr q))))
theorem zi_ne_zb (X : ZC p s m args meth c cc nL own G A ret nm) {lv : List (Nat × Value)} {P : Prop} [Decidable P] {off : Int} {tgt : Nat} (hdg : decode cc pc = .ok (.ifCond .ne off, 3)) (ht : (pc : Int) + off = (tgt : Int)) (kt : P → Z p l e R s m args below meth c nL G A Q tgt lv rest ws kc ks) (kf : ¬ P → Z p l e R s m args below meth c nL G A Q (pc + 3) lv rest ws kc ks) : Z p l e R s m args below meth c nL G A Q pc lv (.int (zb (decide P)) :: rest) ws kc ks := z_if_ne X hdg ht (fun h => kt (Decidable.of_not_not (fun q => h (zb_0.mpr q)))) (fun h => kf (zb_0.mp h))
theorem z_mmin (X : ZC p s m args meth c cc nL own G A ret nm) {lv : List (Nat × Value)} {x y : Int32} {idx : Nat} (h1 : Cond.methodLink own idx Lib.Math.min.name ∈ BIG) (h2 : Cond.static Lib.Math.min.name ∈ BIG) (h3 : Cond.initialized "java/lang/Math" ∈ BIG) (h4 : Cond.code Lib.Math.min.name Lib.Math.min.code 2 (some .int) ∈ BIG) (hR : 1 ≤ R.frames ∧ (rest.map fun v => v.category).sum + 13 ≤ R.locals) (hf : kc ≤ R.cells ∧ ks ≤ R.slots) (hdg : decode cc pc = .ok (.invokestatic idx, 3)) {v : Int32} (hv : (if y < x then y else x) = v) (kz : Z p l e R s m args below meth c nL G A Q (pc + 3) lv (.int v :: rest) ws kc ks) : Z p l e R s m args below meth c nL G A Q pc lv (.int y :: .int x :: rest) ws kc ks := by
  subst hv
  exact fun H locs ls hP hD hS hl => va_mmin X.1 X.2.1 (X.2.2.1.trans hl.1.symm) X.2.2.2.1 (X.2.2.2.2.1 _ h1) (X.2.2.2.2.1 _ h2) (X.2.2.2.2.1 _ h3) (X.2.2.2.2.1 _ h4) hR.1 hR.2 hf.1 hf.2 hdg (kz H locs ls hP hD hS hl)
theorem z_mmax (X : ZC p s m args meth c cc nL own G A ret nm) {lv : List (Nat × Value)} {x y : Int32} {idx : Nat} (h1 : Cond.methodLink own idx Lib.Math.max.name ∈ BIG) (h2 : Cond.static Lib.Math.max.name ∈ BIG) (h3 : Cond.initialized "java/lang/Math" ∈ BIG) (h4 : Cond.code Lib.Math.max.name Lib.Math.max.code 2 (some .int) ∈ BIG) (hR : 1 ≤ R.frames ∧ (rest.map fun v => v.category).sum + 13 ≤ R.locals) (hf : kc ≤ R.cells ∧ ks ≤ R.slots) (hdg : decode cc pc = .ok (.invokestatic idx, 3)) {v : Int32} (hv : (if x < y then y else x) = v) (kz : Z p l e R s m args below meth c nL G A Q (pc + 3) lv (.int v :: rest) ws kc ks) : Z p l e R s m args below meth c nL G A Q pc lv (.int y :: .int x :: rest) ws kc ks := by
  subst hv
  exact fun H locs ls hP hD hS hl => va_mmax X.1 X.2.1 (X.2.2.1.trans hl.1.symm) X.2.2.2.1 (X.2.2.2.2.1 _ h1) (X.2.2.2.2.1 _ h2) (X.2.2.2.2.1 _ h3) (X.2.2.2.2.1 _ h4) hR.1 hR.2 hf.1 hf.2 hdg (kz H locs ls hP hD hS hl)
theorem tI_min {x y : Int32} {a b : Int} (ha : x.toInt = a) (hb : y.toInt = b) : (if y < x then y else x).toInt = min a b := by
  subst ha; subst hb
  by_cases h : y < x
  · rw [if_pos h]; have := Int32.lt_iff_toInt_lt.mp h; omega
  · rw [if_neg h]; have := Int.not_lt.mp (fun q => h (Int32.lt_iff_toInt_lt.mpr q)); omega
theorem tI_max {x y : Int32} {a b : Int} (ha : x.toInt = a) (hb : y.toInt = b) : (if x < y then y else x).toInt = max a b := by
  subst ha; subst hb
  by_cases h : x < y
  · rw [if_pos h]; have := Int32.lt_iff_toInt_lt.mp h; omega
  · rw [if_neg h]; have := Int.not_lt.mp (fun q => h (Int32.lt_iff_toInt_lt.mpr q)); omega
theorem b32 {x : Int} (h1 : -2147483648 ≤ x) (h2 : x < 2147483648) : x.bmod (2 ^ 32) = x := Int.bmod_eq_of_le (by omega) (by omega)
theorem b64 {x : Int} (h1 : -9223372036854775808 ≤ x) (h2 : x < 9223372036854775808) : x.bmod (2 ^ 64) = x := Int.bmod_eq_of_le (by omega) (by omega)
theorem tI_add {x y : Int32} {a b : Int} (ha : x.toInt = a) (hb : y.toInt = b) (h : -2147483648 ≤ a + b ∧ a + b < 2147483648) : (x + y).toInt = a + b := by rw [Int32.toInt_add, ha, hb]; exact b32 h.1 h.2
theorem tI_sub {x y : Int32} {a b : Int} (ha : x.toInt = a) (hb : y.toInt = b) (h : -2147483648 ≤ a - b ∧ a - b < 2147483648) : (x - y).toInt = a - b := by rw [Int32.toInt_sub, ha, hb]; exact b32 h.1 h.2
theorem tI_mul {x y : Int32} {a b : Int} (ha : x.toInt = a) (hb : y.toInt = b) (h : -2147483648 ≤ a * b ∧ a * b < 2147483648) : (x * y).toInt = a * b := by rw [Int32.toInt_mul, ha, hb]; exact b32 h.1 h.2
theorem tI_neg {x : Int32} {a : Int} (ha : x.toInt = a) (h : -2147483648 ≤ -a ∧ -a < 2147483648) : (-x).toInt = -a := by rw [Int32.toInt_neg, ha]; exact b32 h.1 h.2
theorem tJ_add {x y : Int64} {a b : Int} (ha : x.toInt = a) (hb : y.toInt = b) (h : -9223372036854775808 ≤ a + b ∧ a + b < 9223372036854775808) : (x + y).toInt = a + b := by rw [Int64.toInt_add, ha, hb]; exact b64 h.1 h.2
theorem tJ_sub {x y : Int64} {a b : Int} (ha : x.toInt = a) (hb : y.toInt = b) (h : -9223372036854775808 ≤ a - b ∧ a - b < 9223372036854775808) : (x - y).toInt = a - b := by rw [Int64.toInt_sub, ha, hb]; exact b64 h.1 h.2
theorem tJ_mul {x y : Int64} {a b : Int} (ha : x.toInt = a) (hb : y.toInt = b) (h : -9223372036854775808 ≤ a * b ∧ a * b < 9223372036854775808) : (x * y).toInt = a * b := by rw [Int64.toInt_mul, ha, hb]; exact b64 h.1 h.2
theorem tJ_neg {x : Int64} {a : Int} (ha : x.toInt = a) (h : -9223372036854775808 ≤ -a ∧ -a < 9223372036854775808) : (-x).toInt = -a := by rw [Int64.toInt_neg, ha]; exact b64 h.1 h.2
theorem vin {x : Int32} {a : Int} {n : Nat} (h : x.toInt = a) (h1 : 0 ≤ a) (h2 : a < n) : vp_in x n := by
  rw [vp_in_iff, h]
  exact ⟨h1, h2⟩
theorem i32_eq {x c : Int32} {a n : Int} (h : x.toInt = a) (hn : c.toInt = n) (e : a = n) : x = c := Int32.toInt_inj.mp (by rw [h, hn, e])
theorem zloop {σ : Type} (LV : σ → List (Nat × Value)) (ST : σ → List Value) (WS : σ → va_W) (inv : σ → Prop) (mu : σ → Nat) (a : σ) (h : ∀ a : σ, inv a → (∀ b : σ, inv b → mu b < mu a → Z p l e R s m args below meth c nL G A Q pc (LV b) (ST b) (WS b) kc ks) → Z p l e R s m args below meth c nL G A Q pc (LV a) (ST a) (WS a) kc ks) (ha : inv a) : Z p l e R s m args below meth c nL G A Q pc (LV a) (ST a) (WS a) kc ks := by
  have key : ∀ (n : Nat) (a : σ), mu a = n → inv a → Z p l e R s m args below meth c nL G A Q pc (LV a) (ST a) (WS a) kc ks := by
    intro n
    induction n using Nat.strongRecOn with
    | ind n ih =>
      intro a hn ha
      exact h a ha (fun b hb hlt => ih (mu b) (by omega) b rfl hb)
  exact key _ a rfl ha
theorem upd0 {k : Nat} : upd (fun _ => (0 : Int32)) k 0 = fun _ => 0 := by funext j; unfold upd; split <;> rfl
theorem updL0 {k : Nat} : vp_updL (fun _ => (0 : Int64)) k 0 = fun _ => 0 := by funext j; unfold vp_updL; split <;> rfl
theorem tI_nI {n : Nat} (h : n < 2 ^ 31) : (nI n).toInt = (n : Int) := nI_toInt h
end ZCOND
end
section
/-! AN ABSTRACT RUNNER: values by their names (numbers), what is known of each (an interval, a cell), which field holds which, differences. Its check runs in the kernel; its soundness is over the judgement Z. -/
abbrev VT : Type := Nat × Int × Int
abbrev AEv : Type := List (Nat × VT)
abbrev ARl : Type := List (Nat × Nat × Int)
abbrev ACa : Type := List (Nat × Nat × Nat)
abbrev ALv : Type := List (Nat × Nat × Bool)
abbrev AS : Type := ALv × List Nat × AEv × ACa × ARl × Nat
abbrev TE : Type := (Nat × List VT) ⊕ (Nat × Nat × VT)
def vI : Value → Int
  | .int x => x.toInt
  | .long x => x.toInt
  | _ => 0
def vty (ad : Nat → Nat) (t : VT) (v : Value) : Prop :=
  (t.1 = 0 ∧ (∃ x : Int32, v = .int x) ∧ t.2.1 ≤ vI v ∧ vI v ≤ t.2.2) ∨ (t.1 = 1 ∧ (∃ x : Int64, v = .long x) ∧ t.2.1 ≤ vI v ∧ vI v ≤ t.2.2) ∨ (t.1 = 2 ∧ v = .ref (ad t.2.1.toNat)) ∨ (t.1 = 3 ∧ (v = .null ∨ ∃ a, v = .ref a))
def iMin : Int := -2147483648
def iMax : Int := 2147483647
def lMin : Int := -9223372036854775808
def lMax : Int := 9223372036854775807
abbrev tI0 : VT := (0, iMin, iMax)
abbrev tL0 : VT := (1, lMin, lMax)
theorem i32_lo (x : Int32) : iMin ≤ x.toInt := Int32.le_toInt x
theorem i32_hi (x : Int32) : x.toInt ≤ iMax := Int32.toInt_le x
theorem i64_lo (x : Int64) : lMin ≤ x.toInt := Int64.le_toInt x
theorem i64_hi (x : Int64) : x.toInt ≤ lMax := Int64.toInt_le x
theorem vty_i {ad : Nat → Nat} {a b : Int} {x : Int32} (h1 : a ≤ x.toInt) (h2 : x.toInt ≤ b) : vty ad (0, a, b) (.int x) := Or.inl ⟨rfl, ⟨x, rfl⟩, h1, h2⟩
theorem vty_l {ad : Nat → Nat} {a b : Int} {x : Int64} (h1 : a ≤ x.toInt) (h2 : x.toInt ≤ b) : vty ad (1, a, b) (.long x) := Or.inr (Or.inl ⟨rfl, ⟨x, rfl⟩, h1, h2⟩)
theorem vty_i0 {ad : Nat → Nat} (x : Int32) : vty ad tI0 (.int x) := vty_i (i32_lo x) (i32_hi x)
theorem vty_l0 {ad : Nat → Nat} (x : Int64) : vty ad tL0 (.long x) := vty_l (i64_lo x) (i64_hi x)
theorem vty0 {ad : Nat → Nat} {t : VT} {v : Value} (h : vty ad t v) (h0 : t.1 = 0) : ∃ x : Int32, v = .int x ∧ t.2.1 ≤ x.toInt ∧ x.toInt ≤ t.2.2 := by
  rcases h with ⟨-, ⟨x, rfl⟩, h1, h2⟩ | ⟨h1, -⟩ | ⟨h1, -⟩ | ⟨h1, -⟩
  · exact ⟨x, rfl, h1, h2⟩
  all_goals (rw [h0] at h1; cases h1)
theorem vty1 {ad : Nat → Nat} {t : VT} {v : Value} (h : vty ad t v) (h0 : t.1 = 1) : ∃ x : Int64, v = .long x ∧ t.2.1 ≤ x.toInt ∧ x.toInt ≤ t.2.2 := by
  rcases h with ⟨h1, -⟩ | ⟨-, ⟨x, rfl⟩, h1, h2⟩ | ⟨h1, -⟩ | ⟨h1, -⟩
  · rw [h0] at h1; cases h1
  · exact ⟨x, rfl, h1, h2⟩
  all_goals (rw [h0] at h1; cases h1)
theorem vty2 {ad : Nat → Nat} {t : VT} {v : Value} (h : vty ad t v) (h0 : t.1 = 2) : v = .ref (ad t.2.1.toNat) := by
  rcases h with ⟨h1, -⟩ | ⟨h1, -⟩ | ⟨-, h1⟩ | ⟨h1, -⟩
  · rw [h0] at h1; cases h1
  · rw [h0] at h1; cases h1
  · exact h1
  · rw [h0] at h1; cases h1
/-- what is known of a name: the first entry -/
def aty : AEv → Nat → VT
  | [], _ => (9, 0, 0)
  | q :: l, i => bif Nat.beq q.1 i then q.2 else aty l i
theorem aty_sound {ad : Nat → Nat} {ν : Nat → Value} : ∀ (ev : AEv) (i : Nat), (∀ q ∈ ev, vty ad q.2 (ν q.1)) → (aty ev i).1 = 9 ∨ vty ad (aty ev i) (ν i)
  | [], _, _ => Or.inl rfl
  | q :: l, i, h => by
    unfold aty
    cases hb : Nat.beq q.1 i with
    | true =>
      have e : q.1 = i := Nat.eq_of_beq_eq_true hb
      rw [← e]
      exact Or.inr (h q List.mem_cons_self)
    | false => exact aty_sound l i (fun q hq => h q (List.mem_cons_of_mem _ hq))
theorem aty_of {ad : Nat → Nat} {ν : Nat → Value} {ev : AEv} {i k : Nat} (h : ∀ q ∈ ev, vty ad q.2 (ν q.1)) (hk : (aty ev i).1 = k) (h9 : k ≠ 9) : vty ad (aty ev i) (ν i) := (aty_sound ev i h).resolve_left (fun e => h9 (hk.symm.trans e))
def omin : Option Int → Option Int → Option Int
  | some a, some b => some (bif decide (a ≤ b) then a else b)
  | some a, none => some a
  | none, b => b
def omax : Option Int → Option Int → Option Int
  | some a, some b => some (bif decide (a ≤ b) then b else a)
  | some a, none => some a
  | none, b => b
def isNum (t : VT) : Bool := Nat.ble t.1 1
def ahi (ev : AEv) (rl : ARl) : Nat → Nat → Option Int
  | 0, i => bif isNum (aty ev i) then some (aty ev i).2.2 else none
  | n + 1, i => rl.foldr (fun q acc => bif Nat.beq q.1 i then omin acc ((ahi ev rl n q.2.1).map (· + q.2.2)) else acc) (bif isNum (aty ev i) then some (aty ev i).2.2 else none)
def alo (ev : AEv) (rl : ARl) : Nat → Nat → Option Int
  | 0, i => bif isNum (aty ev i) then some (aty ev i).2.1 else none
  | n + 1, i => rl.foldr (fun q acc => bif Nat.beq q.2.1 i then omax acc ((alo ev rl n q.1).map (· - q.2.2)) else acc) (bif isNum (aty ev i) then some (aty ev i).2.1 else none)
/-- the least d known with a ≤ b + d -/
def adif (ev : AEv) (rl : ARl) (b : Nat) : Nat → Nat → Option Int
  | 0, a => bif Nat.beq a b then some 0 else match ahi ev rl 1 a, alo ev rl 1 b with
    | some h, some l => some (h - l)
    | _, _ => none
  | n + 1, a => rl.foldr (fun q acc => bif Nat.beq q.1 a then omin acc ((adif ev rl b n q.2.1).map (· + q.2.2)) else acc) (bif Nat.beq a b then some 0 else match ahi ev rl 1 a, alo ev rl 1 b with
    | some h, some l => some (h - l)
    | _, _ => none)
theorem omin_le {a b : Option Int} {x : Int} (ha : ∀ h, a = some h → x ≤ h) (hb : ∀ h, b = some h → x ≤ h) : ∀ h, omin a b = some h → x ≤ h := by
  intro h e
  cases a with
  | none => exact hb h e
  | some a =>
    cases b with
    | none => exact ha h e
    | some b =>
      simp only [omin, Option.some.injEq] at e
      have h1 := ha a rfl
      have h2 := hb b rfl
      cases hd : decide (a ≤ b) <;> rw [hd] at e <;> simp only [cond_true, cond_false] at e <;> omega
theorem omax_le {a b : Option Int} {x : Int} (ha : ∀ h, a = some h → h ≤ x) (hb : ∀ h, b = some h → h ≤ x) : ∀ h, omax a b = some h → h ≤ x := by
  intro h e
  cases a with
  | none => exact hb h e
  | some a =>
    cases b with
    | none => exact ha h e
    | some b =>
      simp only [omax, Option.some.injEq] at e
      have h1 := ha a rfl
      have h2 := hb b rfl
      cases hd : decide (a ≤ b) <;> rw [hd] at e <;> simp only [cond_true, cond_false] at e <;> omega
theorem aown {ad : Nat → Nat} {ν : Nat → Value} {ev : AEv} (hv : ∀ q ∈ ev, vty ad q.2 (ν q.1)) {i : Nat} (hn : isNum (aty ev i) = true) : (aty ev i).2.1 ≤ vI (ν i) ∧ vI (ν i) ≤ (aty ev i).2.2 := by
  have h1 : (aty ev i).1 ≤ 1 := Nat.le_of_ble_eq_true hn
  rcases aty_sound ev i hv with h | h
  · omega
  · rcases h with ⟨-, -, h⟩ | ⟨-, -, h⟩ | ⟨h, -⟩ | ⟨h, -⟩
    · exact h
    · exact h
    · omega
    · omega
theorem fold_le {α : Type} (rl : List α) (p : α → Bool) (g : α → Option Int) {x : Int} {b0 : Option Int} (h0 : ∀ h, b0 = some h → x ≤ h) (hg : ∀ q ∈ rl, p q = true → ∀ h, g q = some h → x ≤ h) : ∀ h, rl.foldr (fun q acc => bif p q then omin acc (g q) else acc) b0 = some h → x ≤ h := by
  induction rl with
  | nil => exact h0
  | cons q rl ih =>
    have h1 := ih (fun z hz => hg z (List.mem_cons_of_mem _ hz))
    intro h e
    simp only [List.foldr_cons] at e
    cases hp : p q with
    | true =>
      rw [hp] at e
      exact omin_le h1 (hg q List.mem_cons_self hp) h e
    | false =>
      rw [hp] at e
      exact h1 h e
theorem fold_ge {α : Type} (rl : List α) (p : α → Bool) (g : α → Option Int) {x : Int} {b0 : Option Int} (h0 : ∀ h, b0 = some h → h ≤ x) (hg : ∀ q ∈ rl, p q = true → ∀ h, g q = some h → h ≤ x) : ∀ h, rl.foldr (fun q acc => bif p q then omax acc (g q) else acc) b0 = some h → h ≤ x := by
  induction rl with
  | nil => exact h0
  | cons q rl ih =>
    have h1 := ih (fun z hz => hg z (List.mem_cons_of_mem _ hz))
    intro h e
    simp only [List.foldr_cons] at e
    cases hp : p q with
    | true =>
      rw [hp] at e
      exact omax_le h1 (hg q List.mem_cons_self hp) h e
    | false =>
      rw [hp] at e
      exact h1 h e
section QUERY
variable {ad : Nat → Nat} {ν : Nat → Value} {ev : AEv} {rl : ARl}
theorem ahi_own (hv : ∀ q ∈ ev, vty ad q.2 (ν q.1)) (i : Nat) : ∀ h, (bif isNum (aty ev i) then some (aty ev i).2.2 else none) = some h → vI (ν i) ≤ h := by
  intro h e
  cases hn : isNum (aty ev i) with
  | true =>
    rw [hn] at e
    cases e
    exact (aown hv hn).2
  | false =>
    rw [hn] at e
    cases e
theorem alo_own (hv : ∀ q ∈ ev, vty ad q.2 (ν q.1)) (i : Nat) : ∀ h, (bif isNum (aty ev i) then some (aty ev i).2.1 else none) = some h → h ≤ vI (ν i) := by
  intro h e
  cases hn : isNum (aty ev i) with
  | true =>
    rw [hn] at e
    cases e
    exact (aown hv hn).1
  | false =>
    rw [hn] at e
    cases e
theorem ahi_ok (hv : ∀ q ∈ ev, vty ad q.2 (ν q.1)) (hr : ∀ q ∈ rl, vI (ν q.1) ≤ vI (ν q.2.1) + q.2.2) : ∀ (n i : Nat) (h : Int), ahi ev rl n i = some h → vI (ν i) ≤ h
  | 0, i, h, e => ahi_own hv i h e
  | n + 1, i, h, e => by
    refine fold_le rl (fun q => Nat.beq q.1 i) (fun q => (ahi ev rl n q.2.1).map (· + q.2.2)) (ahi_own hv i) ?_ h e
    intro q hq hp k ek
    cases h2 : ahi ev rl n q.2.1 with
    | none => rw [h2] at ek; cases ek
    | some k2 =>
      rw [h2] at ek
      cases ek
      have h3 := ahi_ok hv hr n q.2.1 k2 h2
      have h4 := hr q hq
      have e1 : q.1 = i := Nat.eq_of_beq_eq_true hp
      rw [e1] at h4
      show vI (ν i) ≤ k2 + q.2.2
      omega
theorem alo_ok (hv : ∀ q ∈ ev, vty ad q.2 (ν q.1)) (hr : ∀ q ∈ rl, vI (ν q.1) ≤ vI (ν q.2.1) + q.2.2) : ∀ (n i : Nat) (h : Int), alo ev rl n i = some h → h ≤ vI (ν i)
  | 0, i, h, e => alo_own hv i h e
  | n + 1, i, h, e => by
    refine fold_ge rl (fun q => Nat.beq q.2.1 i) (fun q => (alo ev rl n q.1).map (· - q.2.2)) (alo_own hv i) ?_ h e
    intro q hq hp k ek
    cases h2 : alo ev rl n q.1 with
    | none => rw [h2] at ek; cases ek
    | some k2 =>
      rw [h2] at ek
      cases ek
      have h3 := alo_ok hv hr n q.1 k2 h2
      have h4 := hr q hq
      have e1 : q.2.1 = i := Nat.eq_of_beq_eq_true hp
      rw [e1] at h4
      show k2 - q.2.2 ≤ vI (ν i)
      omega
theorem adif_own (hv : ∀ q ∈ ev, vty ad q.2 (ν q.1)) (hr : ∀ q ∈ rl, vI (ν q.1) ≤ vI (ν q.2.1) + q.2.2) (b a : Nat) : ∀ h, (bif Nat.beq a b then some (0 : Int) else match ahi ev rl 1 a, alo ev rl 1 b with
    | some h, some l => some (h - l)
    | _, _ => none) = some h → vI (ν a) - vI (ν b) ≤ h := by
  intro h e
  cases hb : Nat.beq a b with
  | true =>
    rw [hb] at e
    cases e
    rw [Nat.eq_of_beq_eq_true hb]
    omega
  | false =>
    rw [hb] at e
    cases h1 : ahi ev rl 1 a with
    | none => rw [h1] at e; cases e
    | some k1 =>
      cases h2 : alo ev rl 1 b with
      | none => rw [h1, h2] at e; cases e
      | some k2 =>
        rw [h1, h2] at e
        cases e
        have h3 := ahi_ok hv hr 1 a k1 h1
        have h4 := alo_ok hv hr 1 b k2 h2
        omega
theorem adif_ok (hv : ∀ q ∈ ev, vty ad q.2 (ν q.1)) (hr : ∀ q ∈ rl, vI (ν q.1) ≤ vI (ν q.2.1) + q.2.2) (b : Nat) : ∀ (n a : Nat) (h : Int), adif ev rl b n a = some h → vI (ν a) - vI (ν b) ≤ h
  | 0, a, h, e => adif_own hv hr b a h e
  | n + 1, a, h, e => by
    refine fold_le rl (fun q => Nat.beq q.1 a) (fun q => (adif ev rl b n q.2.1).map (· + q.2.2)) (adif_own hv hr b a) ?_ h e
    intro q hq hp k ek
    cases h2 : adif ev rl b n q.2.1 with
    | none => rw [h2] at ek; cases ek
    | some k2 =>
      rw [h2] at ek
      cases ek
      have h3 := adif_ok hv hr b n q.2.1 k2 h2
      have h4 := hr q hq
      have e1 : q.1 = a := Nat.eq_of_beq_eq_true hp
      rw [e1] at h4
      show vI (ν a) - vI (ν b) ≤ k2 + q.2.2
      omega
end QUERY
end
section
def nup (ν : Nat → Value) (n : Nat) (v : Value) : Nat → Value := fun i => if i = n then v else ν i
theorem nup_eq {ν : Nat → Value} {n : Nat} {v : Value} : nup ν n v n = v := if_pos rfl
theorem nup_ne {ν : Nat → Value} {n i : Nat} {v : Value} (h : i < n) : nup ν n v i = ν i := if_neg (Nat.ne_of_lt h)
/-- all names below the next one -/
def afr (σ : AS) : Bool := Nat.ble 1000 σ.2.2.2.2.2 && (σ.1.all (fun q => Nat.blt q.2.1 σ.2.2.2.2.2) && (σ.2.1.all (fun i => Nat.blt i σ.2.2.2.2.2) && (σ.2.2.1.all (fun q => Nat.blt q.1 σ.2.2.2.2.2) && (σ.2.2.2.1.all (fun q => Nat.blt q.2.2 σ.2.2.2.2.2) && σ.2.2.2.2.1.all (fun q => Nat.blt q.1 σ.2.2.2.2.2 && Nat.blt q.2.1 σ.2.2.2.2.2)))))
theorem blt_lt {a b : Nat} (h : Nat.blt a b = true) : a < b := Nat.le_of_ble_eq_true h
theorem afr_ok {lv : ALv} {st : List Nat} {ev : AEv} {ca : ACa} {rl : ARl} {nx : Nat} (h : afr (lv, st, ev, ca, rl, nx) = true) : 1000 ≤ nx ∧ (∀ q ∈ lv, q.2.1 < nx) ∧ (∀ i ∈ st, i < nx) ∧ (∀ q ∈ ev, q.1 < nx) ∧ (∀ q ∈ ca, q.2.2 < nx) ∧ ∀ q ∈ rl, q.1 < nx ∧ q.2.1 < nx := by
  unfold afr at h
  simp only [Bool.and_eq_true, List.all_eq_true] at h
  obtain ⟨h0, h1, h2, h3, h4, h5⟩ := h
  exact ⟨Nat.le_of_ble_eq_true h0, fun q hq => blt_lt (h1 q hq), fun q hq => blt_lt (h2 q hq), fun q hq => blt_lt (h3 q hq), fun q hq => blt_lt (h4 q hq), fun q hq => ⟨blt_lt (h5 q hq).1, blt_lt (h5 q hq).2⟩⟩
def fget (ws : va_W) (k j : Nat) : Option Value := match ws[k]? with
  | some (_, .inr o) => o.2[j]?
  | _ => none
def cget (ws : va_W) (k j : Nat) : Option (Value ⊕ (ClassId × vp_A)) := match ws[k]? with
  | some (_, .inr o) => (o.2[j]?).map Sum.inl
  | some (_, .inl a) => some (.inr a)
  | none => none
/-- which fields, which arrays (999) may be written -/
def mkq (mk : List (Nat × Nat)) (k j : Nat) : Bool := mk.any (fun q => Nat.beq q.1 k && (Nat.beq q.2 j || Nat.beq q.2 999))
def FRM (mk : List (Nat × Nat)) (w0 ws : va_W) : Prop := ws.length = w0.length ∧ ∀ k j, mkq mk k j = false → cget ws k j = cget w0 k j
/-- what lies in the kept array, by its place -/
def KTY (k : Nat) : Int × Int := bif Nat.beq (k % 154) 0 then (-1, 15) else bif Nat.ble 2 (k % 154) && Nat.blt (k % 154) 18 then (0, 9) else bif Nat.beq (k % 154) 44 then (0, 12) else bif Nat.ble 45 (k % 154) && Nat.beq ((k % 154 - 45) % 9) 0 then (0, 5) else (iMin, iMax)
def aint (n : Nat) (t : VT) (f : Nat → Int32) : Prop := ∀ k, k < n → t.2.1 ≤ (f k).toInt ∧ (f k).toInt ≤ t.2.2 ∧ (t.1 = 1 → (KTY k).1 ≤ (f k).toInt ∧ (f k).toInt ≤ (KTY k).2)
/-- a code of an array's elements and a field: 0, 1: as many of the first as the field tells are no less than that; 2: each is 0 or less than the field -/
def pcl (c : Nat) : Nat := (c - 2) / 512
def pfl (c : Nat) : Nat := (c - 2) / 4 % 128
def pkd (c : Nat) : Nat := (c - 2) % 4
def PP (c i : Nat) (v F : Int) : Prop := (pkd c ≤ 1 ∧ ((i : Int) < F → ((pkd c : Nat) : Int) ≤ v)) ∨ (2 ≤ pkd c ∧ (v = 0 ∨ v < F))
def pord (c : Nat) (x o : Int) : Prop := (pkd c ≤ 1 ∧ x ≤ o) ∨ (2 ≤ pkd c ∧ o ≤ x)
theorem PP.mono {c i : Nat} {v o x : Int} (h : PP c i v o) (h2 : pord c x o) : PP c i v x := by
  rcases h with ⟨h1, h⟩ | ⟨h1, h⟩
  · rcases h2 with ⟨_, h2⟩ | ⟨h3, _⟩
    · exact Or.inl ⟨h1, fun hi => h (by omega)⟩
    · omega
  · rcases h2 with ⟨h3, _⟩ | ⟨_, h2⟩
    · omega
    · exact Or.inr ⟨h1, h.imp id (fun h => by omega)⟩
def PFX (G : KG) (T : List TE) (ws : va_W) : Prop := ∀ (k n : Nat) (t : VT) (a : Nat) (f : Nat → Int32) (c : Int32) (i : Nat), T[k]? = some (.inr (0, n, t)) → 2 ≤ t.1 → ws[k]? = some (a, aI G n f) → fget ws (pcl t.1) (pfl t.1) = some (.int c) → i < n → PP t.1 i (f i).toInt c.toInt
def ety (G : KG) (ad : Nat → Nat) : TE → va_E → Prop
  | .inl (ci, ts), en => ∃ fs, en = ob ci fs ∧ fs.length = ts.length ∧ ∀ (j : Nat) (t : VT) (v : Value), ts[j]? = some t → fs[j]? = some v → vty ad t v
  | .inr (kd, n, t), en => (kd = 0 ∧ ∃ f, en = aI G n f ∧ aint n t f) ∨ (kd = 1 ∧ ∃ f : Nat → Int64, en = aJ G n f) ∨ (kd = 2 ∧ ∃ f, en = aZ G n f ∧ aint n t f) ∨ (kd = 3 ∧ ∃ f, en = aO G n f ∧ ∀ k, k < n → f k = some (ad (t.2.1.toNat + k * t.2.2.toNat)))
def WT (G : KG) (ad : Nat → Nat) (T : List TE) (ws : va_W) : Prop := T.length ≤ ws.length ∧ (∀ (k : Nat) (te : TE), T[k]? = some te → ∃ en, ws[k]? = some (ad k, en) ∧ ety G ad te en) ∧ PFX G T ws
/-- the state σ is so, by the names ν -/
def AK (G : KG) (ad : Nat → Nat) (T : List TE) (mk : List (Nat × Nat)) (w0 : va_W) (pin : List (Nat × Value)) (σ : AS) (ν : Nat → Value) (ws : va_W) : Prop :=
  (∀ q ∈ σ.1, (ν q.2.1).category = bif q.2.2 then 2 else 1) ∧ (∀ q ∈ σ.2.2.1, vty ad q.2 (ν q.1)) ∧ (∀ q ∈ σ.2.2.2.1, fget ws q.1 q.2.1 = some (ν q.2.2)) ∧ (∀ q ∈ σ.2.2.2.2.1, vI (ν q.1) ≤ vI (ν q.2.1) + q.2.2) ∧ (∀ q ∈ pin, q.1 < 1000 ∧ ν q.1 = q.2) ∧ WT G ad T ws ∧ FRM mk w0 ws
def AG (G : KG) (ad : Nat → Nat) (T : List TE) (mk : List (Nat × Nat)) (w0 : va_W) (pin : List (Nat × Value)) (σ : AS) (ν : Nat → Value) (lv : List (Nat × Value)) (st : List Value) (ws : va_W) : Prop :=
  lv = σ.1.map (fun q => (q.1, ν q.2.1)) ∧ st = σ.2.1.map ν ∧ AK G ad T mk w0 pin σ ν ws
section AGS
variable {G : KG} {ad : Nat → Nat} {T : List TE} {mk : List (Nat × Nat)} {w0 : va_W} {pin : List (Nat × Value)} {ν : Nat → Value} {ws : va_W}
variable {lv : ALv} {st : List Nat} {ev : AEv} {ca : ACa} {rl : ARl} {nx : Nat}
theorem AK.cong {ν' : Nat → Value} (h : AK G ad T mk w0 pin (lv, st, ev, ca, rl, nx) ν ws) (hf : afr (lv, st, ev, ca, rl, nx) = true) (e : ∀ i, i < nx → ν' i = ν i) : AK G ad T mk w0 pin (lv, st, ev, ca, rl, nx) ν' ws := by
  obtain ⟨f0, f1, f2, f3, f4, f5⟩ := afr_ok hf
  obtain ⟨h1, h2, h3, h4, h5, h6⟩ := h
  refine ⟨fun q hq => ?_, fun q hq => ?_, fun q hq => ?_, fun q hq => ?_, fun q hq => ?_, h6⟩
  · rw [e _ (f1 q hq)]; exact h1 q hq
  · rw [e _ (f3 q hq)]; exact h2 q hq
  · rw [e _ (f4 q hq)]; exact h3 q hq
  · rw [e _ (f5 q hq).1, e _ (f5 q hq).2]; exact h4 q hq
  · refine ⟨(h5 q hq).1, ?_⟩
    rw [e _ (Nat.lt_of_lt_of_le (h5 q hq).1 f0)]; exact (h5 q hq).2
theorem lvs_cong {ν' : Nat → Value} (hf : afr (lv, st, ev, ca, rl, nx) = true) (e : ∀ i, i < nx → ν' i = ν i) : lv.map (fun q => (q.1, ν' q.2.1)) = lv.map (fun q => (q.1, ν q.2.1)) := by
  obtain ⟨f0, f1, f2, f3, f4, f5⟩ := afr_ok hf
  refine List.map_congr_left (fun q hq => ?_)
  rw [e _ (f1 q hq)]
theorem sts_cong {ν' : Nat → Value} (hf : afr (lv, st, ev, ca, rl, nx) = true) (e : ∀ i, i < nx → ν' i = ν i) : st.map ν' = st.map ν := by
  obtain ⟨f0, f1, f2, f3, f4, f5⟩ := afr_ok hf
  exact List.map_congr_left (fun q hq => e _ (f2 q hq))
/-- a new name of type t, its relations nr -/
theorem AK.new {t : VT} {v : Value} {nr : ARl} (h : AK G ad T mk w0 pin (lv, st, ev, ca, rl, nx) ν ws) (hf : afr (lv, st, ev, ca, rl, nx) = true) (hv : vty ad t v) (hr : ∀ q ∈ nr, vI (nup ν nx v q.1) ≤ vI (nup ν nx v q.2.1) + q.2.2) : AK G ad T mk w0 pin (lv, st, (nx, t) :: ev, ca, nr ++ rl, nx + 1) (nup ν nx v) ws := by
  obtain ⟨h1, h2, h3, h4, h5, h6⟩ := h.cong hf (ν' := nup ν nx v) (fun i hi => nup_ne hi)
  refine ⟨h1, fun q hq => ?_, h3, fun q hq => ?_, h5, h6⟩
  · rcases List.mem_cons.mp hq with e | hq
    · rw [e]
      show vty ad t (nup ν nx v nx)
      rw [nup_eq]
      exact hv
    · exact h2 q hq
  · rcases List.mem_append.mp hq with hq | hq
    · exact hr q hq
    · exact h4 q hq
theorem AK.stk {st' : List Nat} (h : AK G ad T mk w0 pin (lv, st, ev, ca, rl, nx) ν ws) : AK G ad T mk w0 pin (lv, st', ev, ca, rl, nx) ν ws := h
theorem AG.push {t : VT} {v : Value} {nr : ARl} {lw : List (Nat × Value)} {sw : List Value} (h : AG G ad T mk w0 pin (lv, st, ev, ca, rl, nx) ν lw sw ws) (hf : afr (lv, st, ev, ca, rl, nx) = true) (hv : vty ad t v) (hr : ∀ q ∈ nr, vI (nup ν nx v q.1) ≤ vI (nup ν nx v q.2.1) + q.2.2) : AG G ad T mk w0 pin (lv, nx :: st, (nx, t) :: ev, ca, nr ++ rl, nx + 1) (nup ν nx v) lw (v :: sw) ws := by
  obtain ⟨h1, h2, h3⟩ := h
  have e : ∀ i, i < nx → nup ν nx v i = ν i := fun i hi => nup_ne hi
  refine ⟨?_, ?_, AK.stk (h3.new hf hv hr)⟩
  · show lw = lv.map (fun q => (q.1, nup ν nx v q.2.1))
    rw [lvs_cong hf e]; exact h1
  · show v :: sw = nup ν nx v nx :: st.map (nup ν nx v)
    rw [sts_cong hf e, nup_eq]
    exact congrArg _ h2
/-- popping: the freshness of what is left -/
theorem afr_pop {i : Nat} (hf : afr (lv, i :: st, ev, ca, rl, nx) = true) : afr (lv, st, ev, ca, rl, nx) = true := by
  unfold afr at hf ⊢
  simp only [Bool.and_eq_true, List.all_cons] at hf ⊢
  exact ⟨hf.1, hf.2.1, hf.2.2.1.2, hf.2.2.2⟩
theorem AK.hi (h : AK G ad T mk w0 pin (lv, st, ev, ca, rl, nx) ν ws) {i : Nat} {x : Int} {n : Nat} (e : ahi ev rl n i = some x) : vI (ν i) ≤ x := ahi_ok h.2.1 h.2.2.2.1 n i x e
theorem AK.lo (h : AK G ad T mk w0 pin (lv, st, ev, ca, rl, nx) ν ws) {i : Nat} {x : Int} {n : Nat} (e : alo ev rl n i = some x) : x ≤ vI (ν i) := alo_ok h.2.1 h.2.2.2.1 n i x e
theorem AK.dif (h : AK G ad T mk w0 pin (lv, st, ev, ca, rl, nx) ν ws) {a b : Nat} {x : Int} {n : Nat} (e : adif ev rl b n a = some x) : vI (ν a) - vI (ν b) ≤ x := adif_ok h.2.1 h.2.2.2.1 b n a x e
theorem AK.int (h : AK G ad T mk w0 pin (lv, st, ev, ca, rl, nx) ν ws) {i : Nat} (e : (aty ev i).1 = 0) : ∃ x : Int32, ν i = .int x := by
  obtain ⟨x, hx, -⟩ := vty0 (aty_of h.2.1 e (by decide)) e
  exact ⟨x, hx⟩
theorem AK.long (h : AK G ad T mk w0 pin (lv, st, ev, ca, rl, nx) ν ws) {i : Nat} (e : (aty ev i).1 = 1) : ∃ x : Int64, ν i = .long x := by
  obtain ⟨x, hx, -⟩ := vty1 (aty_of h.2.1 e (by decide)) e
  exact ⟨x, hx⟩
theorem AK.ref (h : AK G ad T mk w0 pin (lv, st, ev, ca, rl, nx) ν ws) {i : Nat} (e : (aty ev i).1 = 2) : ν i = .ref (ad (aty ev i).2.1.toNat) := vty2 (aty_of h.2.1 e (by decide)) e
end AGS
/-- bounds of a name -/
def xlo (ev : AEv) (rl : ARl) (i : Nat) : Int := (alo ev rl 2 i).getD lMin
def xhi (ev : AEv) (rl : ARl) (i : Nat) : Int := (ahi ev rl 2 i).getD lMax
theorem vI_lo (v : Value) : lMin ≤ vI v := by
  unfold vI
  split
  · rename_i x
    have := i32_lo x
    unfold iMin at this
    unfold lMin
    omega
  · exact i64_lo _
  · decide
theorem vI_hi (v : Value) : vI v ≤ lMax := by
  unfold vI
  split
  · rename_i x
    have := i32_hi x
    unfold iMax at this
    unfold lMax
    omega
  · exact i64_hi _
  · decide
section AGT
variable {G : KG} {ad : Nat → Nat} {T : List TE} {mk : List (Nat × Nat)} {w0 : va_W} {pin : List (Nat × Value)} {ν : Nat → Value} {ws : va_W}
variable {lv : ALv} {st : List Nat} {ev : AEv} {ca : ACa} {rl : ARl} {nx : Nat}
theorem AK.lo2 (h : AK G ad T mk w0 pin (lv, st, ev, ca, rl, nx) ν ws) (i : Nat) : xlo ev rl i ≤ vI (ν i) := by
  show (alo ev rl 2 i).getD lMin ≤ vI (ν i)
  cases e : alo ev rl 2 i with
  | none => exact vI_lo _
  | some x => exact h.lo e
theorem AK.hi2 (h : AK G ad T mk w0 pin (lv, st, ev, ca, rl, nx) ν ws) (i : Nat) : vI (ν i) ≤ xhi ev rl i := by
  show vI (ν i) ≤ (ahi ev rl 2 i).getD lMax
  cases e : ahi ev rl 2 i with
  | none => exact vI_hi _
  | some x => exact h.hi e
end AGT
end
section
/-- from every state that σ tells of -/
abbrev ZZT : Type := Nat → List (Nat × Value) → List Value → va_W → Prop
def AZ (ZZ : ZZT) (G : KG) (ad : Nat → Nat) (T : List TE) (mk : List (Nat × Nat)) (w0 : va_W) (pin : List (Nat × Value)) (σ : AS) (pc : Nat) : Prop := ∀ (ν : Nat → Value) (lv : List (Nat × Value)) (st : List Value) (ws : va_W), AG G ad T mk w0 pin σ ν lv st ws → ZZ pc lv st ws
def tagv : Nat → Value → Prop
  | 0, v => ∃ x : Int32, v = .int x
  | 1, v => ∃ x : Int64, v = .long x
  | 2, v => ∃ a : Nat, v = .ref a
  | _, _ => False
def fitI (a b : Int) : VT := bif decide (iMin ≤ a) && decide (b ≤ iMax) then (0, a, b) else tI0
def mnz (c : Bool) (r : ARl) : ARl := bif c then r else []
section AZ1
variable {ZZ : ZZT} {G : KG} {ad : Nat → Nat} {T : List TE} {mk : List (Nat × Nat)} {w0 : va_W} {pin : List (Nat × Value)}
variable {lv : ALv} {st : List Nat} {ev : AEv} {ca : ACa} {rl : ARl} {nx pc pc' : Nat}
theorem AK.tag {ν : Nat → Value} {ws : va_W} (h : AK G ad T mk w0 pin (lv, st, ev, ca, rl, nx) ν ws) {i k : Nat} (e : (aty ev i).1 = k) (h9 : k ≤ 2) : tagv k (ν i) := by
  match k, h9 with
  | 0, _ => exact h.int e
  | 1, _ => exact h.long e
  | 2, _ => exact ⟨_, h.ref e⟩
theorem az_un {op : Value → Value} {kx : Nat} (hk : kx ≤ 2) (row : ∀ (vx : Value) (lw : List (Nat × Value)) (rest : List Value) (ws : va_W), tagv kx vx → ZZ pc' lw (op vx :: rest) ws → ZZ pc lw (vx :: rest) ws) {x : Nat} (hx : (aty ev x).1 = kx) (hf : afr (lv, x :: st, ev, ca, rl, nx) = true) {t : VT} {nr : ARl}
    (ht : ∀ (ν : Nat → Value) (ws : va_W), AK G ad T mk w0 pin (lv, st, ev, ca, rl, nx) ν ws → tagv kx (ν x) → vty ad t (op (ν x)) ∧ ∀ q ∈ nr, vI (nup ν nx (op (ν x)) q.1) ≤ vI (nup ν nx (op (ν x)) q.2.1) + q.2.2)
    (k : AZ ZZ G ad T mk w0 pin (lv, nx :: st, (nx, t) :: ev, ca, nr ++ rl, nx + 1) pc') : AZ ZZ G ad T mk w0 pin (lv, x :: st, ev, ca, rl, nx) pc := by
  intro ν lw sw ws h
  obtain ⟨h1, h2, h3⟩ := h
  have h3 : AK G ad T mk w0 pin (lv, st, ev, ca, rl, nx) ν ws := h3
  have tx := h3.tag hx hk
  have h2' : sw = ν x :: st.map ν := h2
  rw [h2']
  obtain ⟨q1, q2⟩ := ht ν ws h3 tx
  exact row _ lw _ ws tx (k _ _ _ _ (AG.push ⟨h1, rfl, h3⟩ (afr_pop hf) q1 q2))
theorem az_bin {op : Value → Value → Value} {kx ky : Nat} (hk : kx ≤ 2 ∧ ky ≤ 2) (row : ∀ (vx vy : Value) (lw : List (Nat × Value)) (rest : List Value) (ws : va_W), tagv kx vx → tagv ky vy → ZZ pc' lw (op vx vy :: rest) ws → ZZ pc lw (vy :: vx :: rest) ws) {x y : Nat} (hx : (aty ev x).1 = kx) (hy : (aty ev y).1 = ky) (hf : afr (lv, y :: x :: st, ev, ca, rl, nx) = true) {t : VT} {nr : ARl}
    (ht : ∀ (ν : Nat → Value) (ws : va_W), AK G ad T mk w0 pin (lv, st, ev, ca, rl, nx) ν ws → tagv kx (ν x) → tagv ky (ν y) → vty ad t (op (ν x) (ν y)) ∧ ∀ q ∈ nr, vI (nup ν nx (op (ν x) (ν y)) q.1) ≤ vI (nup ν nx (op (ν x) (ν y)) q.2.1) + q.2.2)
    (k : AZ ZZ G ad T mk w0 pin (lv, nx :: st, (nx, t) :: ev, ca, nr ++ rl, nx + 1) pc') : AZ ZZ G ad T mk w0 pin (lv, y :: x :: st, ev, ca, rl, nx) pc := by
  intro ν lw sw ws h
  obtain ⟨h1, h2, h3⟩ := h
  have h3 : AK G ad T mk w0 pin (lv, st, ev, ca, rl, nx) ν ws := h3
  have tx := h3.tag hx hk.1
  have ty := h3.tag hy hk.2
  have h2' : sw = ν y :: ν x :: st.map ν := h2
  rw [h2']
  obtain ⟨q1, q2⟩ := ht ν ws h3 tx ty
  exact row _ _ lw _ ws tx ty (k _ _ _ _ (AG.push ⟨h1, rfl, h3⟩ (afr_pop (afr_pop hf)) q1 q2))
theorem az_con {v : Value} {t : VT} (row : ∀ (lw : List (Nat × Value)) (rest : List Value) (ws : va_W), ZZ pc' lw (v :: rest) ws → ZZ pc lw rest ws) (hf : afr (lv, st, ev, ca, rl, nx) = true) (ht : vty ad t v)
    (k : AZ ZZ G ad T mk w0 pin (lv, nx :: st, (nx, t) :: ev, ca, rl, nx + 1) pc') : AZ ZZ G ad T mk w0 pin (lv, st, ev, ca, rl, nx) pc := by
  intro ν lw sw ws h
  exact row lw _ ws (k _ _ _ _ (AG.push (nr := []) h hf ht (fun q hq => by cases hq)))
/-- a local's name -/
def alv : ALv → Nat → Option Nat
  | [], _ => none
  | q :: l, i => bif Nat.beq q.1 i then some q.2.1 else alv l i
theorem alv_mem : ∀ (lv : ALv) (i n : Nat), alv lv i = some n → ∃ b, (i, n, b) ∈ lv
  | [], i, n, h => by cases h
  | q :: l, i, n, h => by
    unfold alv at h
    cases hb : Nat.beq q.1 i with
    | true =>
      rw [hb] at h
      cases h
      have e : q.1 = i := Nat.eq_of_beq_eq_true hb
      subst e
      exact ⟨q.2.2, List.mem_cons_self⟩
    | false =>
      rw [hb] at h
      obtain ⟨b, hm⟩ := alv_mem l i n h
      exact ⟨b, List.mem_cons_of_mem _ hm⟩
theorem az_load {kx i x : Nat} (hk : kx ≤ 2) (row : ∀ (v : Value) (lw : List (Nat × Value)) (rest : List Value) (ws : va_W) (q : Nat), lw[q]? = some (i, v) → tagv kx v → ZZ pc' lw (v :: rest) ws → ZZ pc lw rest ws) (hi : alv lv i = some x) (hx : (aty ev x).1 = kx)
    (k : AZ ZZ G ad T mk w0 pin (lv, x :: st, ev, ca, rl, nx) pc') : AZ ZZ G ad T mk w0 pin (lv, st, ev, ca, rl, nx) pc := by
  intro ν lw sw ws h
  obtain ⟨h1, h2, h3⟩ := h
  obtain ⟨b, hm⟩ := alv_mem lv i x hi
  have hm2 : (i, ν x) ∈ lw := by
    rw [h1]
    exact List.mem_map.mpr ⟨_, hm, rfl⟩
  obtain ⟨q, hq⟩ := List.getElem?_of_mem hm2
  have h3' : AK G ad T mk w0 pin (lv, st, ev, ca, rl, nx) ν ws := h3
  refine row (ν x) lw sw ws q hq (h3'.tag hx hk) (k ν lw _ ws ⟨h1, ?_, h3⟩)
  show ν x :: sw = ν x :: st.map ν
  rw [h2]
/-- a local told anew -/
def aset (i : Nat) (n : Nat) (two : Bool) (lv : ALv) : ALv := (i, n, two) :: lv.filter (fun q => bif two then !(Nat.beq q.1 i) && (!(Nat.beq q.1 (i + 1)) && !(Nat.beq (q.1 + 1) i && q.2.2)) else !(Nat.beq q.1 i) && !(Nat.beq (q.1 + 1) i && q.2.2))
theorem nbeq (a b : Nat) : Nat.beq a b = (a == b) := by
  cases h : (a == b) with
  | true =>
    have e : a = b := by simpa using h
    rw [e]; exact Nat.beq_refl b
  | false =>
    cases h2 : Nat.beq a b with
    | true =>
      have e := Nat.eq_of_beq_eq_true h2
      rw [e] at h
      simp at h
    | false => rfl
theorem aset1 {ν : Nat → Value} (lv : ALv) (hc : ∀ q ∈ lv, (ν q.2.1).category = bif q.2.2 then 2 else 1) (i n : Nat) : (aset i n false lv).map (fun q => (q.1, ν q.2.1)) = zs1 i (ν n) (lv.map (fun q => (q.1, ν q.2.1))) := by
  unfold aset zs1
  rw [List.map_cons, List.filter_map]
  congr 2
  refine List.filter_congr (fun q hq => ?_)
  have := hc q hq
  simp only [Function.comp, cond_false, nbeq]
  rw [this]
  cases q.2.2 <;> rfl
theorem aset2 {ν : Nat → Value} (lv : ALv) (hc : ∀ q ∈ lv, (ν q.2.1).category = bif q.2.2 then 2 else 1) (i n : Nat) : (aset i n true lv).map (fun q => (q.1, ν q.2.1)) = zs2 i (ν n) (lv.map (fun q => (q.1, ν q.2.1))) := by
  unfold aset zs2
  rw [List.map_cons, List.filter_map]
  congr 2
  refine List.filter_congr (fun q hq => ?_)
  have := hc q hq
  simp only [Function.comp, cond_true, nbeq]
  rw [this]
  cases q.2.2 <;> rfl
theorem aset_cat {ν : Nat → Value} {lv : ALv} (hc : ∀ q ∈ lv, (ν q.2.1).category = bif q.2.2 then 2 else 1) {i n : Nat} {two : Bool} (hn : (ν n).category = bif two then 2 else 1) : ∀ q ∈ aset i n two lv, (ν q.2.1).category = bif q.2.2 then 2 else 1 := by
  intro q hq
  unfold aset at hq
  rcases List.mem_cons.mp hq with e | hq
  · rw [e]; exact hn
  · exact hc q (List.mem_filter.mp hq).1
theorem az_store {kx i x : Nat} {two : Bool} (hk : kx ≤ 2) (h2k : two = Nat.beq kx 1) (row : ∀ (v : Value) (lw : List (Nat × Value)) (rest : List Value) (ws : va_W), tagv kx v → ZZ pc' (bif two then zs2 i v lw else zs1 i v lw) rest ws → ZZ pc lw (v :: rest) ws) (hx : (aty ev x).1 = kx)
    (k : AZ ZZ G ad T mk w0 pin (aset i x two lv, st, ev, ca, rl, nx) pc') : AZ ZZ G ad T mk w0 pin (lv, x :: st, ev, ca, rl, nx) pc := by
  intro ν lw sw ws h
  obtain ⟨h1, h2, h3⟩ := h
  have h3' : AK G ad T mk w0 pin (lv, st, ev, ca, rl, nx) ν ws := h3
  have tx := h3'.tag hx hk
  have h2' : sw = ν x :: st.map ν := h2
  rw [h2']
  have hcat : (ν x).category = bif two then 2 else 1 := by
    match kx, hk, h2k, tx with
    | 0, _, h2k, ⟨a, ha⟩ => rw [ha, h2k]; rfl
    | 1, _, h2k, ⟨a, ha⟩ => rw [ha, h2k]; rfl
    | 2, _, h2k, ⟨a, ha⟩ => rw [ha, h2k]; rfl
  refine row _ lw _ ws tx (k ν _ _ ws ⟨?_, rfl, aset_cat h3.1 hcat, h3.2⟩)
  cases two with
  | true =>
    show zs2 i (ν x) lw = _
    rw [h1]
    exact (aset2 lv h3.1 i x).symm
  | false =>
    show zs1 i (ν x) lw = _
    rw [h1]
    exact (aset1 lv h3.1 i x).symm
theorem az_pop {x : Nat} (hx : (aty ev x).1 = 0 ∨ (aty ev x).1 = 2) (row : ∀ (v : Value) (lw : List (Nat × Value)) (rest : List Value) (ws : va_W), v.category = 1 → ZZ pc' lw rest ws → ZZ pc lw (v :: rest) ws)
    (k : AZ ZZ G ad T mk w0 pin (lv, st, ev, ca, rl, nx) pc') : AZ ZZ G ad T mk w0 pin (lv, x :: st, ev, ca, rl, nx) pc := by
  intro ν lw sw ws h
  obtain ⟨h1, h2, h3⟩ := h
  have h3' : AK G ad T mk w0 pin (lv, st, ev, ca, rl, nx) ν ws := h3
  have h2' : sw = ν x :: st.map ν := h2
  rw [h2']
  have hcat : (ν x).category = 1 := by
    rcases hx with hx | hx
    · obtain ⟨a, ha⟩ := h3'.int hx
      rw [ha]; rfl
    · rw [h3'.ref hx]; rfl
  exact row _ lw _ ws hcat (k ν _ _ ws ⟨h1, rfl, h3⟩)
theorem az_dup {x : Nat} (hx : (aty ev x).1 = 0 ∨ (aty ev x).1 = 2) (row : ∀ (v : Value) (lw : List (Nat × Value)) (rest : List Value) (ws : va_W), v.category = 1 → ZZ pc' lw (v :: v :: rest) ws → ZZ pc lw (v :: rest) ws)
    (k : AZ ZZ G ad T mk w0 pin (lv, x :: x :: st, ev, ca, rl, nx) pc') : AZ ZZ G ad T mk w0 pin (lv, x :: st, ev, ca, rl, nx) pc := by
  intro ν lw sw ws h
  obtain ⟨h1, h2, h3⟩ := h
  have h3' : AK G ad T mk w0 pin (lv, st, ev, ca, rl, nx) ν ws := h3
  have h2' : sw = ν x :: st.map ν := h2
  rw [h2']
  have hcat : (ν x).category = 1 := by
    rcases hx with hx | hx
    · obtain ⟨a, ha⟩ := h3'.int hx
      rw [ha]; rfl
    · rw [h3'.ref hx]; rfl
  exact row _ lw _ ws hcat (k ν _ _ ws ⟨h1, rfl, h3⟩)
theorem az_dup2 {x y : Nat} (hx : (aty ev x).1 = 0 ∨ (aty ev x).1 = 2) (hy : (aty ev y).1 = 0 ∨ (aty ev y).1 = 2) (row : ∀ (va vb : Value) (lw : List (Nat × Value)) (rest : List Value) (ws : va_W), va.category = 1 → vb.category = 1 → ZZ pc' lw (va :: vb :: va :: vb :: rest) ws → ZZ pc lw (va :: vb :: rest) ws)
    (k : AZ ZZ G ad T mk w0 pin (lv, x :: y :: x :: y :: st, ev, ca, rl, nx) pc') : AZ ZZ G ad T mk w0 pin (lv, x :: y :: st, ev, ca, rl, nx) pc := by
  intro ν lw sw ws h
  obtain ⟨h1, h2, h3⟩ := h
  have h3' : AK G ad T mk w0 pin (lv, st, ev, ca, rl, nx) ν ws := h3
  have h2' : sw = ν x :: ν y :: st.map ν := h2
  rw [h2']
  have hcat : ∀ z, ((aty ev z).1 = 0 ∨ (aty ev z).1 = 2) → (ν z).category = 1 := by
    intro z hz
    rcases hz with hz | hz
    · obtain ⟨a, ha⟩ := h3'.int hz
      rw [ha]; rfl
    · rw [h3'.ref hz]; rfl
  exact row _ _ lw _ ws (hcat x hx) (hcat y hy) (k ν _ _ ws ⟨h1, rfl, h3⟩)
/-- a fact more: x ≤ y + c -/
def ale (x y : Nat) (c : Int) (ev : AEv) (rl : ARl) : AEv × ARl := ((bif isNum (aty ev x) then [(x, (aty ev x).1, (aty ev x).2.1, min (aty ev x).2.2 (xhi ev rl y + c))] else []) ++ ((bif isNum (aty ev y) then [(y, (aty ev y).1, max (aty ev y).2.1 (xlo ev rl x - c), (aty ev y).2.2)] else []) ++ ev), (x, y, c) :: rl)
theorem vty_cut {ad : Nat → Nat} {v : Value} {t : VT} {a b : Int} (h : vty ad t v) (hn : isNum t = true) (h1 : a ≤ vI v) (h2 : vI v ≤ b) : vty ad (t.1, a, b) v := by
  have hn : t.1 ≤ 1 := Nat.le_of_ble_eq_true hn
  rcases h with ⟨e, h, -, -⟩ | ⟨e, h, -, -⟩ | ⟨e, -⟩ | ⟨e, -⟩
  · exact Or.inl ⟨e, h, h1, h2⟩
  · exact Or.inr (Or.inl ⟨e, h, h1, h2⟩)
  · omega
  · omega
theorem AK.le {ν : Nat → Value} {ws : va_W} (h : AK G ad T mk w0 pin (lv, st, ev, ca, rl, nx) ν ws) {x y : Nat} {c : Int} (hle : vI (ν x) ≤ vI (ν y) + c) : AK G ad T mk w0 pin (lv, st, (ale x y c ev rl).1, ca, (ale x y c ev rl).2, nx) ν ws := by
  have hy := h.hi2 y
  have hx := h.lo2 x
  obtain ⟨h1, h2, h3, h4, h5, h6⟩ := h
  have num : ∀ z, isNum (aty ev z) = true → vty ad (aty ev z) (ν z) := fun z hz => (aty_sound ev z h2).resolve_left (fun e => by
    have : (aty ev z).1 ≤ 1 := Nat.le_of_ble_eq_true hz
    omega)
  refine ⟨h1, fun q hq => ?_, h3, fun q hq => ?_, h5, h6⟩
  · unfold ale at hq
    rcases List.mem_append.mp hq with hq | hq
    · cases hn : isNum (aty ev x) with
      | false => rw [hn] at hq; cases hq
      | true =>
        rw [hn] at hq
        rw [List.mem_singleton.mp hq]
        have hw : (aty ev x).2.1 ≤ vI (ν x) ∧ vI (ν x) ≤ (aty ev x).2.2 := aown h2 hn
        exact vty_cut (num x hn) hn hw.1 (show vI (ν x) ≤ min (aty ev x).2.2 (xhi ev rl y + c) by omega)
    · rcases List.mem_append.mp hq with hq | hq
      · cases hn : isNum (aty ev y) with
        | false => rw [hn] at hq; cases hq
        | true =>
          rw [hn] at hq
          rw [List.mem_singleton.mp hq]
          have hw : (aty ev y).2.1 ≤ vI (ν y) ∧ vI (ν y) ≤ (aty ev y).2.2 := aown h2 hn
          exact vty_cut (num y hn) hn (show max (aty ev y).2.1 (xlo ev rl x - c) ≤ vI (ν y) by omega) hw.2
      · exact h2 q hq
  · rcases List.mem_cons.mp hq with e | hq
    · rw [e]; exact hle
    · exact h4 q hq
end AZ1
end
section
/-! the world's fields and arrays; branches -/
theorem fget_of {ws : va_W} {k j a ci : Nat} {fs : List Value} (h : ws[k]? = some (a, .inr (ci, fs))) : fget ws k j = fs[j]? := by
  unfold fget
  rw [h]
theorem cget_of {ws : va_W} {k j a ci : Nat} {fs : List Value} (h : ws[k]? = some (a, .inr (ci, fs))) : cget ws k j = (fs[j]?).map Sum.inl := by
  unfold cget
  rw [h]
theorem lt_of_getE {α : Type} {l : List α} {k : Nat} {x : α} (h : l[k]? = some x) : k < l.length := (List.getElem?_eq_some_iff.mp h).1
theorem set_same {ws : va_W} {k : Nat} {q q' : Nat × va_E} (h : ws[k]? = some q) : (ws.set k q')[k]? = some q' := by
  rw [List.getElem?_set_self (lt_of_getE h)]
theorem set_other {ws : va_W} {k i : Nat} {q' : Nat × va_E} (h : k ≠ i) : (ws.set k q')[i]? = ws[i]? := List.getElem?_set_ne h
theorem fget_set {ws : va_W} {k j a ci k' j' : Nat} {fs : List Value} {v : Value} (h : ws[k]? = some (a, .inr (ci, fs))) (hn : ¬ (k' = k ∧ j' = j)) : fget (ws.set k (a, .inr (ci, fs.set j v))) k' j' = fget ws k' j' := by
  by_cases e : k' = k
  · subst e
    have hj : j ≠ j' := fun e => hn ⟨rfl, e.symm⟩
    rw [fget_of (set_same h), fget_of h, List.getElem?_set_ne hj]
  · unfold fget
    rw [set_other (fun h => e h.symm)]
theorem cget_set {ws : va_W} {k j a ci k' j' : Nat} {fs : List Value} {v : Value} (h : ws[k]? = some (a, .inr (ci, fs))) (hn : ¬ (k' = k ∧ j' = j)) : cget (ws.set k (a, .inr (ci, fs.set j v))) k' j' = cget ws k' j' := by
  by_cases e : k' = k
  · subst e
    have hj : j ≠ j' := fun e => hn ⟨rfl, e.symm⟩
    rw [cget_of (set_same h), cget_of h, List.getElem?_set_ne hj]
  · unfold cget
    rw [set_other (fun h => e h.symm)]
theorem cget_arr {ws : va_W} {k k' j' : Nat} {q' : Nat × va_E} (hn : k' ≠ k) : cget (ws.set k q') k' j' = cget ws k' j' := by
  unfold cget
  rw [set_other (fun h => hn h.symm)]
theorem fget_arr {ws : va_W} {k k' j' a : Nat} {x y : ClassId × vp_A} {v : Value} (h : ws[k]? = some (a, .inl x)) (hf : fget ws k' j' = some v) : fget (ws.set k (a, .inl y)) k' j' = some v := by
  by_cases e : k' = k
  · subst e
    unfold fget at hf
    rw [h] at hf
    cases hf
  · unfold fget
    rw [set_other (fun h => e h.symm)]
    exact hf
theorem mkq_arr {mk : List (Nat × Nat)} {k : Nat} (h : mk.any (fun q => Nat.beq q.1 k && Nat.beq q.2 999) = true) (j : Nat) : mkq mk k j = true := by
  unfold mkq
  obtain ⟨q, hq, h⟩ := List.any_eq_true.mp h
  refine List.any_eq_true.mpr ⟨q, hq, ?_⟩
  rw [Bool.and_eq_true] at h ⊢
  exact ⟨h.1, by rw [h.2, Bool.or_true]⟩
/-- within a type -/
def vsub (ev : AEv) (rl : ARl) (i : Nat) (t : VT) : Bool := Nat.beq (aty ev i).1 t.1 && (bif isNum t then decide (t.2.1 ≤ xlo ev rl i) && decide (xhi ev rl i ≤ t.2.2) else Nat.beq t.1 2 && decide (t.2.1 = (aty ev i).2.1))
def ain (ev : AEv) (rl : ARl) (i n : Nat) : Bool := decide (0 ≤ xlo ev rl i) && decide (xhi ev rl i < (n : Int))
section AZ2
variable {ZZ : ZZT} {G : KG} {ad : Nat → Nat} {T : List TE} {mk : List (Nat × Nat)} {w0 : va_W} {pin : List (Nat × Value)} {ν : Nat → Value} {ws : va_W}
variable {lv : ALv} {st : List Nat} {ev : AEv} {ca : ACa} {rl : ARl} {nx pc pc' : Nat}
theorem AK.sub (h : AK G ad T mk w0 pin (lv, st, ev, ca, rl, nx) ν ws) {i : Nat} {t : VT} (e : vsub ev rl i t = true) : vty ad t (ν i) := by
  unfold vsub at e
  rw [Bool.and_eq_true] at e
  obtain ⟨e1, e2⟩ := e
  have e1 : (aty ev i).1 = t.1 := Nat.eq_of_beq_eq_true e1
  cases hn : isNum t with
  | true =>
    rw [hn] at e2
    simp only [cond_true, Bool.and_eq_true, decide_eq_true_eq] at e2
    have h1 := h.lo2 i
    have h2 := h.hi2 i
    have ht : t.1 ≤ 1 := Nat.le_of_ble_eq_true hn
    have hq : vty ad (aty ev i) (ν i) := aty_of (ev := ev) h.2.1 e1 (by omega)
    rcases hq with ⟨q, q1, -⟩ | ⟨q, q1, -⟩ | ⟨q, -⟩ | ⟨q, -⟩
    · exact Or.inl ⟨by omega, q1, by omega, by omega⟩
    · exact Or.inr (Or.inl ⟨by omega, q1, by omega, by omega⟩)
    · omega
    · omega
  | false =>
    rw [hn] at e2
    simp only [cond_false, Bool.and_eq_true, decide_eq_true_eq] at e2
    have e3 : t.1 = 2 := Nat.eq_of_beq_eq_true e2.1
    refine Or.inr (Or.inr (Or.inl ⟨e3, ?_⟩))
    rw [e2.2]
    exact h.ref (e1.trans e3)
theorem AK.inr (h : AK G ad T mk w0 pin (lv, st, ev, ca, rl, nx) ν ws) {i n : Nat} (e : ain ev rl i n = true) {x : Int32} (hx : ν i = .int x) : vp_in x n ∧ x.toNatClampNeg < n := by
  unfold ain at e
  simp only [Bool.and_eq_true, decide_eq_true_eq] at e
  have h1 := h.lo2 i
  have h2 := h.hi2 i
  rw [hx] at h1 h2
  have h1 : xlo ev rl i ≤ x.toInt := h1
  have h2 : x.toInt ≤ xhi ev rl i := h2
  refine ⟨vin rfl (by omega) (by omega), ?_⟩
  have : (x.toNatClampNeg : Int) = x.toInt := by
    show ((x.toInt).toNat : Int) = x.toInt
    omega
  omega
theorem vin0 {x : Int32} {n : Nat} (h : vp_in x n) : 0 ≤ x.toInt := by
  rcases (by omega : x.toInt < 0 ∨ 0 ≤ x.toInt) with h1 | h1
  · exact absurd (Or.inl (Int32.lt_iff_toInt_lt.mpr h1)) h
  · exact h1
theorem WT.obj (h : WT G ad T ws) {k ci j : Nat} {ts : List VT} {t : VT} (hT : T[k]? = some (.inl (ci, ts))) (ht : ts[j]? = some t) : ∃ (fs : List Value) (v : Value), ws[k]? = some (ad k, ob ci fs) ∧ fs.length = ts.length ∧ fs[j]? = some v ∧ vty ad t v := by
  obtain ⟨en, h1, fs, rfl, h2, h3⟩ := h.2.1 k _ hT
  have hj : j < fs.length := by rw [h2]; exact lt_of_getE ht
  exact ⟨fs, fs[j], h1, h2, List.getElem?_eq_getElem hj, h3 j t _ ht (List.getElem?_eq_getElem hj)⟩
theorem fget_arr_eq {ws : va_W} {k k' j' a b : Nat} {x y : ClassId × vp_A} (h : ws[k]? = some (a, .inl x)) : fget (ws.set k (b, .inl y)) k' j' = fget ws k' j' := by
  by_cases e : k' = k
  · subst e
    unfold fget
    rw [set_same h, h]
  · unfold fget
    rw [set_other (fun h => e h.symm)]
theorem WT.setO (h : WT G ad T ws) {k ci j : Nat} {ts : List VT} {t : VT} {fs : List Value} {v : Value} (hT : T[k]? = some (.inl (ci, ts))) (ht : ts[j]? = some t) (hw : ws[k]? = some (ad k, ob ci fs)) (hv : vty ad t v) (hpf : ∀ (k' n : Nat) (t' : VT), T[k']? = some (.inr (0, n, t')) → 2 ≤ t'.1 → pcl t'.1 = k → pfl t'.1 = j → ∃ o x : Int32, fs[j]? = some (.int o) ∧ v = .int x ∧ pord t'.1 x.toInt o.toInt) : WT G ad T (ws.set k (ad k, ob ci (fs.set j v))) := by
  refine ⟨by rw [List.length_set]; exact h.1, fun k' te hT' => ?_, ?_⟩
  rotate_left
  · intro k' n t' a f c i hT' h2 hw' hf hi
    have hk : k' ≠ k := by
      intro e
      subst e
      rw [set_same hw] at hw'
      cases hw'
    rw [set_other (fun h => hk h.symm)] at hw'
    by_cases e : pcl t'.1 = k ∧ pfl t'.1 = j
    · obtain ⟨o, x, o1, rfl, o2⟩ := hpf k' n t' hT' h2 e.1 e.2
      rw [e.1, e.2, fget_of (set_same hw), List.getElem?_set_self (lt_of_getE o1)] at hf
      cases hf
      exact (h.2.2 k' n t' a f o i hT' h2 hw' (by rw [e.1, e.2, fget_of hw]; exact o1) hi).mono o2
    · rw [fget_set hw e] at hf
      exact h.2.2 k' n t' a f c i hT' h2 hw' hf hi
  by_cases e : k' = k
  · subst e
    rw [hT] at hT'
    cases hT'
    obtain ⟨en, h1, fs', rfl, h2, h3⟩ := h.2.1 k' _ hT
    rw [hw] at h1
    cases h1
    refine ⟨_, set_same hw, _, rfl, by rw [List.length_set]; exact h2, fun j' t' v' ht' hv' => ?_⟩
    by_cases e : j' = j
    · subst e
      rw [ht] at ht'
      cases ht'
      have hj : j' < fs.length := by rw [h2]; exact lt_of_getE ht
      rw [List.getElem?_set_self hj] at hv'
      cases hv'
      exact hv
    · rw [List.getElem?_set_ne (fun h => e h.symm)] at hv'
      exact h3 j' t' v' ht' hv'
  · obtain ⟨en, h1, h2⟩ := h.2.1 k' te hT'
    exact ⟨en, by rw [set_other (fun h => e h.symm)]; exact h1, h2⟩
theorem WT.setA (h : WT G ad T ws) {k : Nat} {te : TE} {x y : ClassId × vp_A} (hT : T[k]? = some te) (hw : ws[k]? = some (ad k, .inl x)) (hv : ety G ad te (.inl y)) (hpa : ∀ (n : Nat) (t : VT), te = .inr (0, n, t) → 2 ≤ t.1 → ∀ (f : Nat → Int32) (c : Int32) (i : Nat), (Sum.inl y : va_E) = aI G n f → fget ws (pcl t.1) (pfl t.1) = some (.int c) → i < n → PP t.1 i (f i).toInt c.toInt) : WT G ad T (ws.set k (ad k, .inl y)) := by
  refine ⟨by rw [List.length_set]; exact h.1, fun k' te' hT' => ?_, ?_⟩
  rotate_left
  · intro k' n t' a f c i hT' h2 hw' hf hi
    rw [fget_arr_eq hw] at hf
    by_cases e : k' = k
    · subst e
      rw [set_same hw] at hw'
      rw [hT] at hT'
      exact hpa n t' (Option.some.inj hT') h2 f c i (congrArg Prod.snd (Option.some.inj hw')) hf hi
    · rw [set_other (fun h => e h.symm)] at hw'
      exact h.2.2 k' n t' a f c i hT' h2 hw' hf hi
  by_cases e : k' = k
  · subst e
    rw [hT] at hT'
    cases hT'
    exact ⟨_, set_same hw, hv⟩
  · obtain ⟨en, h1, h2⟩ := h.2.1 k' te' hT'
    exact ⟨en, by rw [set_other (fun h => e h.symm)]; exact h1, h2⟩
theorem az_get {r j ci : Nat} {ts : List VT} {t : VT} (hr : (aty ev r).1 = 2) (hT : T[(aty ev r).2.1.toNat]? = some (.inl (ci, ts))) (ht : ts[j]? = some t) (hf : afr (lv, r :: st, ev, ca, rl, nx) = true)
    (row : ∀ (a : Nat) (fs : List Value) (v : Value) (lw : List (Nat × Value)) (rest : List Value) (ws : va_W), ws[(aty ev r).2.1.toNat]? = some (a, ob ci fs) → fs[j]? = some v → ZZ pc' lw (v :: rest) ws → ZZ pc lw (.ref a :: rest) ws)
    (k : AZ ZZ G ad T mk w0 pin (lv, nx :: st, (nx, t) :: ev, ((aty ev r).2.1.toNat, j, nx) :: ca, rl, nx + 1) pc') : AZ ZZ G ad T mk w0 pin (lv, r :: st, ev, ca, rl, nx) pc := by
  intro ν lw sw ws h
  obtain ⟨h1, h2, h3⟩ := h
  have h3 : AK G ad T mk w0 pin (lv, st, ev, ca, rl, nx) ν ws := h3
  have h2' : sw = ν r :: st.map ν := h2
  obtain ⟨fs, v, q1, q2, q3, q4⟩ := h3.2.2.2.2.2.1.obj hT ht
  rw [h2', h3.ref hr]
  obtain ⟨g1, g2, g3⟩ := AG.push (st := st) (nr := []) (v := v) (t := t) ⟨h1, rfl, h3⟩ (afr_pop hf) q4 (fun q hq => by cases hq)
  refine row _ fs v lw _ ws q1 q3 (k _ _ _ _ ⟨g1, g2, g3.1, g3.2.1, fun q hq => ?_, g3.2.2.2⟩)
  rcases List.mem_cons.mp hq with e | hq
  · rw [e]
    show fget ws _ j = some (nup ν nx v nx)
    rw [nup_eq, fget_of q1]
    exact q3
  · exact g3.2.2.1 q hq
theorem az_getc {r j ci i : Nat} {ts : List VT} {t : VT} (hr : (aty ev r).1 = 2) (hT : T[(aty ev r).2.1.toNat]? = some (.inl (ci, ts))) (ht : ts[j]? = some t) (hc : ((aty ev r).2.1.toNat, j, i) ∈ ca)
    (row : ∀ (a : Nat) (fs : List Value) (v : Value) (lw : List (Nat × Value)) (rest : List Value) (ws : va_W), ws[(aty ev r).2.1.toNat]? = some (a, ob ci fs) → fs[j]? = some v → ZZ pc' lw (v :: rest) ws → ZZ pc lw (.ref a :: rest) ws)
    (k : AZ ZZ G ad T mk w0 pin (lv, i :: st, ev, ca, rl, nx) pc') : AZ ZZ G ad T mk w0 pin (lv, r :: st, ev, ca, rl, nx) pc := by
  intro ν lw sw ws h
  obtain ⟨h1, h2, h3⟩ := h
  have h3 : AK G ad T mk w0 pin (lv, st, ev, ca, rl, nx) ν ws := h3
  have h2' : sw = ν r :: st.map ν := h2
  obtain ⟨fs, v, q1, q2, q3, q4⟩ := h3.2.2.2.2.2.1.obj hT ht
  have h5 := h3.2.2.1 _ hc
  rw [fget_of q1] at h5
  rw [h2', h3.ref hr]
  exact row _ fs _ lw _ ws q1 h5 (k ν _ _ _ ⟨h1, rfl, h3⟩)
def acut (k j : Nat) (ca : ACa) : ACa := ca.filter (fun q => !(Nat.beq q.1 k && Nat.beq q.2.1 j))
theorem az_put {r x j ci : Nat} {ts : List VT} {t : VT} (hr : (aty ev r).1 = 2) (hT : T[(aty ev r).2.1.toNat]? = some (.inl (ci, ts))) (ht : ts[j]? = some t) (hv : vsub ev rl x t = true) (hm : mkq mk (aty ev r).2.1.toNat j = true) (hpf : ∀ (ν : Nat → Value) (ws : va_W), AK G ad T mk w0 pin (lv, st, ev, ca, rl, nx) ν ws → ∀ (k' n : Nat) (t' : VT), T[k']? = some (.inr (0, n, t')) → 2 ≤ t'.1 → pcl t'.1 = (aty ev r).2.1.toNat → pfl t'.1 = j → t.1 = 0 ∧ ∃ o : Nat, fget ws (aty ev r).2.1.toNat j = some (ν o) ∧ pord t'.1 (vI (ν x)) (vI (ν o)))
    (row : ∀ (a : Nat) (fs : List Value) (v : Value) (lw : List (Nat × Value)) (rest : List Value) (ws : va_W), ws[(aty ev r).2.1.toNat]? = some (a, ob ci fs) → j < fs.length → vty ad t v → ZZ pc' lw rest (ws.set (aty ev r).2.1.toNat (a, ob ci (fs.set j v))) → ZZ pc lw (v :: .ref a :: rest) ws)
    (k : AZ ZZ G ad T mk w0 pin (lv, st, ev, ((aty ev r).2.1.toNat, j, x) :: acut (aty ev r).2.1.toNat j ca, rl, nx) pc') : AZ ZZ G ad T mk w0 pin (lv, x :: r :: st, ev, ca, rl, nx) pc := by
  intro ν lw sw ws h
  obtain ⟨h1, h2, h3⟩ := h
  have h3 : AK G ad T mk w0 pin (lv, st, ev, ca, rl, nx) ν ws := h3
  have h2' : sw = ν x :: ν r :: st.map ν := h2
  obtain ⟨fs, v, q1, q2, q3, q4⟩ := h3.2.2.2.2.2.1.obj hT ht
  have hj := lt_of_getE q3
  rw [h2', h3.ref hr]
  have hvx := h3.sub hv
  refine row _ fs _ lw _ ws q1 hj hvx (k ν _ _ _ ⟨h1, rfl, h3.1, h3.2.1, fun q hq => ?_, h3.2.2.2.1, h3.2.2.2.2.1, h3.2.2.2.2.2.1.setO hT ht q1 hvx (fun k' n t' g1 g2 g3 g4 => ?_), ?_⟩)
  rotate_left
  · obtain ⟨u1, o, u2, u3⟩ := hpf ν ws h3 k' n t' g1 g2 g3 g4
    obtain ⟨x1, e1, -⟩ := vty0 q4 u1
    obtain ⟨x2, e2, -⟩ := vty0 hvx u1
    rw [fget_of q1, q3, Option.some.injEq] at u2
    rw [e2, ← u2, e1] at u3
    exact ⟨x1, x2, by rw [q3, e1], e2, u3⟩
  rotate_left
  · rcases List.mem_cons.mp hq with e | hq
    · rw [e]
      show fget _ _ j = some (ν x)
      rw [fget_of (set_same q1), List.getElem?_set_self hj]
    · obtain ⟨m1, m2⟩ := List.mem_filter.mp hq
      rw [fget_set q1]
      · exact h3.2.2.1 q m1
      · rintro ⟨e1, e2⟩
        rw [e1, e2] at m2
        simp at m2
  · obtain ⟨f1, f2⟩ := h3.2.2.2.2.2.2
    refine ⟨by rw [List.length_set]; exact f1, fun k' j' hk => ?_⟩
    rw [cget_set q1]
    · exact f2 k' j' hk
    · rintro ⟨e1, e2⟩
      rw [e1, e2, hm] at hk
      cases hk
theorem WT.arr (h : WT G ad T ws) {k kd n : Nat} {t : VT} (hT : T[k]? = some (.inr (kd, n, t))) : ∃ en, ws[k]? = some (ad k, en) ∧ ((kd = 0 ∧ ∃ f, en = aI G n f ∧ aint n t f) ∨ (kd = 1 ∧ ∃ f : Nat → Int64, en = aJ G n f) ∨ (kd = 2 ∧ ∃ f, en = aZ G n f ∧ aint n t f) ∨ (kd = 3 ∧ ∃ f, en = aO G n f ∧ ∀ k, k < n → f k = some (ad (t.2.1.toNat + k * t.2.2.toNat)))) := h.2.1 k _ hT
/-- what an array gives, what it takes -/
def atyA (kd : Nat) (t : VT) : VT := bif Nat.beq kd 1 then tL0 else (0, t.2.1, t.2.2)
theorem az_ald {a i n kd : Nat} {t : VT} (hk : kd ≤ 2) (ha : (aty ev a).1 = 2) (hT : T[(aty ev a).2.1.toNat]? = some (.inr (kd, n, t))) (hi : (aty ev i).1 = 0) (hin : ain ev rl i n = true) (hf : afr (lv, i :: a :: st, ev, ca, rl, nx) = true) {rt : VT} {nr : ARl} (hnr : ∀ (ν : Nat → Value) (ws : va_W), AK G ad T mk w0 pin (lv, st, ev, ca, rl, nx) ν ws → ∀ (v : Value), (∀ (b : Nat) (f : Nat → Int32) (x : Int32), kd = 0 → ws[(aty ev a).2.1.toNat]? = some (b, aI G n f) → ν i = .int x → x.toNatClampNeg < n → v = .int (f x.toNatClampNeg)) → ∀ q ∈ nr, vI (nup ν nx v q.1) ≤ vI (nup ν nx v q.2.1) + q.2.2) (hn1 : kd ≠ 0 → nr = []) (hr0 : kd = 0 → ∀ (ν : Nat → Value) (ws : va_W), AK G ad T mk w0 pin (lv, st, ev, ca, rl, nx) ν ws → ∀ (b : Nat) (f : Nat → Int32) (x : Int32), ws[(aty ev a).2.1.toNat]? = some (b, aI G n f) → ν i = .int x → x.toNatClampNeg < n → aint n t f → 0 ≤ x.toInt → vty ad rt (.int (f x.toNatClampNeg))) (hr1 : kd ≠ 0 → rt = atyA kd t)
    (row0 : kd = 0 → ∀ (b : Nat) (f : Nat → Int32) (x : Int32) (lw : List (Nat × Value)) (rest : List Value) (ws : va_W), ws[(aty ev a).2.1.toNat]? = some (b, aI G n f) → vp_in x n → ZZ pc' lw (.int (f x.toNatClampNeg) :: rest) ws → ZZ pc lw (.int x :: .ref b :: rest) ws)
    (row1 : kd = 1 → ∀ (b : Nat) (f : Nat → Int64) (x : Int32) (lw : List (Nat × Value)) (rest : List Value) (ws : va_W), ws[(aty ev a).2.1.toNat]? = some (b, aJ G n f) → vp_in x n → ZZ pc' lw (.long (f x.toNatClampNeg) :: rest) ws → ZZ pc lw (.int x :: .ref b :: rest) ws)
    (row2 : kd = 2 → ∀ (b : Nat) (f : Nat → Int32) (x : Int32) (lw : List (Nat × Value)) (rest : List Value) (ws : va_W), ws[(aty ev a).2.1.toNat]? = some (b, aZ G n f) → vp_in x n → ZZ pc' lw (.int (f x.toNatClampNeg) :: rest) ws → ZZ pc lw (.int x :: .ref b :: rest) ws)
    (k : AZ ZZ G ad T mk w0 pin (lv, nx :: st, (nx, rt) :: ev, ca, nr ++ rl, nx + 1) pc') : AZ ZZ G ad T mk w0 pin (lv, i :: a :: st, ev, ca, rl, nx) pc := by
  intro ν lw sw ws h
  obtain ⟨h1, h2, h3⟩ := h
  have h3 : AK G ad T mk w0 pin (lv, st, ev, ca, rl, nx) ν ws := h3
  have h2' : sw = ν i :: ν a :: st.map ν := h2
  obtain ⟨x, hx⟩ := h3.int hi
  obtain ⟨v1, v2⟩ := h3.inr hin hx
  have hf2 := afr_pop (afr_pop hf)
  have hg : AG G ad T mk w0 pin (lv, st, ev, ca, rl, nx) ν lw (st.map ν) ws := ⟨h1, rfl, h3⟩
  rw [h2', h3.ref ha, hx]
  obtain ⟨en, q1, q2⟩ := h3.2.2.2.2.2.1.arr hT
  rcases q2 with ⟨rfl, f, rfl, q3⟩ | ⟨rfl, f, rfl⟩ | ⟨rfl, f, rfl, q3⟩ | ⟨rfl, -⟩
  · exact row0 rfl _ f x lw _ ws q1 v1 (k _ _ _ _ (AG.push hg hf2 (hr0 rfl ν ws h3 _ f x q1 hx v2 q3 (vin0 v1)) (hnr ν ws h3 _ (fun b' f' x' _ w1 w2 _ => by
      rw [q1] at w1
      cases w1
      rw [hx] at w2
      cases w2
      rfl))))
  · rw [hr1 (by decide), hn1 (by decide)] at k
    exact row1 rfl _ f x lw _ ws q1 v1 (k _ _ _ _ (AG.push (nr := []) hg hf2 (vty_l0 _) (fun q hq => by cases hq)))
  · rw [hr1 (by decide), hn1 (by decide)] at k
    exact row2 rfl _ f x lw _ ws q1 v1 (k _ _ _ _ (AG.push (nr := []) hg hf2 (vty_i (q3 _ v2).1 (q3 _ v2).2.1) (fun q hq => by cases hq)))
  · omega
theorem aint_upd {n j : Nat} {t : VT} {f : Nat → Int32} {x : Int32} (h : aint n t f) (h1 : t.2.1 ≤ x.toInt) (h2 : x.toInt ≤ t.2.2) (h3 : t.1 = 1 → (KTY j).1 ≤ x.toInt ∧ x.toInt ≤ (KTY j).2) : aint n t (upd f j x) := by
  intro k hk
  unfold upd
  split
  · rename_i e
    exact ⟨h1, h2, by rw [e]; exact h3⟩
  · exact h k hk
theorem nar_z {x : Int32} (h1 : 0 ≤ x.toInt) (h2 : x.toInt ≤ 1) : narrow .boolean (.int x) = .int x := by
  rcases (by omega : x.toInt = 0 ∨ x.toInt = 1) with e | e
  · have : x = 0 := Int32.toInt_inj.mp (by rw [e]; rfl)
    rw [this]; rfl
  · have : x = 1 := Int32.toInt_inj.mp (by rw [e]; rfl)
    rw [this]; rfl
theorem vnar_z {x : Int32} (h1 : 0 ≤ x.toInt) (h2 : x.toInt ≤ 1) : vp_nar .boolean x = x := by
  unfold vp_nar
  rw [nar_z h1 h2]
theorem AK.setA (h3 : AK G ad T mk w0 pin (lv, st, ev, ca, rl, nx) ν ws) {k : Nat} {te : TE} {x y : ClassId × vp_A} (hT : T[k]? = some te) (hw : ws[k]? = some (ad k, .inl x)) (hv : ety G ad te (.inl y)) (hpa : ∀ (n : Nat) (t : VT), te = .inr (0, n, t) → 2 ≤ t.1 → ∀ (f : Nat → Int32) (c : Int32) (i : Nat), (Sum.inl y : va_E) = aI G n f → fget ws (pcl t.1) (pfl t.1) = some (.int c) → i < n → PP t.1 i (f i).toInt c.toInt) (hm : mk.any (fun q => Nat.beq q.1 k && Nat.beq q.2 999) = true) : AK G ad T mk w0 pin (lv, st, ev, ca, rl, nx) ν (ws.set k (ad k, .inl y)) := by
  refine ⟨h3.1, h3.2.1, fun q hq => fget_arr hw (h3.2.2.1 q hq), h3.2.2.2.1, h3.2.2.2.2.1, h3.2.2.2.2.2.1.setA hT hw hv hpa, ?_⟩
  obtain ⟨f1, f2⟩ := h3.2.2.2.2.2.2
  refine ⟨by rw [List.length_set]; exact f1, fun k' j' hk => ?_⟩
  rw [cget_arr]
  · exact f2 k' j' hk
  · intro e
    rw [e, mkq_arr hm] at hk
    cases hk
theorem az_ast {a i v n kd : Nat} {t : VT} (hk : kd ≤ 2) (ha : (aty ev a).1 = 2) (hT : T[(aty ev a).2.1.toNat]? = some (.inr (kd, n, t))) (hi : (aty ev i).1 = 0) (hin : ain ev rl i n = true) (hv : vsub ev rl v (atyA kd t) = true) (hz : kd = 2 → (0 ≤ t.2.1 ∧ t.2.2 ≤ 1) ∧ t.1 = 0) (hp : kd = 0 → ∀ (ν : Nat → Value) (ws : va_W), AK G ad T mk w0 pin (lv, st, ev, ca, rl, nx) ν ws → ∀ x y : Int32, ν i = .int x → ν v = .int y → 0 ≤ x.toInt → (t.1 = 1 → (KTY x.toNatClampNeg).1 ≤ y.toInt ∧ y.toInt ≤ (KTY x.toNatClampNeg).2) ∧ (2 ≤ t.1 → ∀ c : Int32, fget ws (pcl t.1) (pfl t.1) = some (.int c) → PP t.1 x.toNatClampNeg y.toInt c.toInt)) (hm : mk.any (fun q => Nat.beq q.1 (aty ev a).2.1.toNat && Nat.beq q.2 999) = true)
    (row0 : kd = 0 → ∀ (b : Nat) (f : Nat → Int32) (x y : Int32) (lw : List (Nat × Value)) (rest : List Value) (ws : va_W), ws[(aty ev a).2.1.toNat]? = some (b, aI G n f) → vp_in x n → ZZ pc' lw rest (ws.set (aty ev a).2.1.toNat (b, aI G n (upd f x.toNatClampNeg y))) → ZZ pc lw (.int y :: .int x :: .ref b :: rest) ws)
    (row1 : kd = 1 → ∀ (b : Nat) (f : Nat → Int64) (x : Int32) (y : Int64) (lw : List (Nat × Value)) (rest : List Value) (ws : va_W), ws[(aty ev a).2.1.toNat]? = some (b, aJ G n f) → vp_in x n → ZZ pc' lw rest (ws.set (aty ev a).2.1.toNat (b, aJ G n (vp_updL f x.toNatClampNeg y))) → ZZ pc lw (.long y :: .int x :: .ref b :: rest) ws)
    (row2 : kd = 2 → ∀ (b : Nat) (f : Nat → Int32) (x y : Int32) (lw : List (Nat × Value)) (rest : List Value) (ws : va_W), ws[(aty ev a).2.1.toNat]? = some (b, aZ G n f) → vp_in x n → ZZ pc' lw rest (ws.set (aty ev a).2.1.toNat (b, aZ G n (upd f x.toNatClampNeg (vp_nar .boolean y)))) → ZZ pc lw (.int y :: .int x :: .ref b :: rest) ws)
    (k : AZ ZZ G ad T mk w0 pin (lv, st, ev, ca, rl, nx) pc') : AZ ZZ G ad T mk w0 pin (lv, v :: i :: a :: st, ev, ca, rl, nx) pc := by
  intro ν lw sw ws h
  obtain ⟨h1, h2, h3⟩ := h
  have h3 : AK G ad T mk w0 pin (lv, st, ev, ca, rl, nx) ν ws := h3
  have h2' : sw = ν v :: ν i :: ν a :: st.map ν := h2
  obtain ⟨x, hx⟩ := h3.int hi
  obtain ⟨v1, v2⟩ := h3.inr hin hx
  rw [h2', h3.ref ha, hx]
  have hvx := h3.sub hv
  obtain ⟨en, q1, q2⟩ := h3.2.2.2.2.2.1.arr hT
  rcases q2 with ⟨rfl, f, rfl, q3⟩ | ⟨rfl, f, rfl⟩ | ⟨rfl, f, rfl, q3⟩ | ⟨rfl, -⟩
  · obtain ⟨y, hy, y1, y2⟩ := vty0 hvx rfl
    rw [hy]
    have x0 : 0 ≤ x.toInt := vin0 v1
    obtain ⟨p1, p2⟩ := hp rfl ν ws h3 x y hx hy x0
    have ex : (x.toNatClampNeg : Int) = x.toInt := by
      show ((x.toInt).toNat : Int) = x.toInt
      omega
    refine row0 rfl _ f x y lw _ ws q1 v1 (k ν _ _ _ ⟨h1, rfl, h3.setA hT q1 (Or.inl ⟨rfl, _, rfl, aint_upd q3 y1 y2 p1⟩) (fun n' t' e' g2 f' c i g3 g4 g5 => ?_) hm⟩)
    cases e'
    cases g3
    unfold upd
    split
    · rename_i ei
      rw [ei]
      exact p2 g2 c g4
    · exact h3.2.2.2.2.2.1.2.2 _ _ _ _ f c i hT g2 q1 g4 g5
  · obtain ⟨y, hy, y1, y2⟩ := vty1 hvx rfl
    rw [hy]
    exact row1 rfl _ f x y lw _ ws q1 v1 (k ν _ _ _ ⟨h1, rfl, h3.setA hT q1 (Or.inr (Or.inl ⟨rfl, _, rfl⟩)) (fun n' t' e' => by cases e') hm⟩)
  · obtain ⟨y, hy, y1, y2⟩ := vty0 hvx rfl
    have y1 : t.2.1 ≤ y.toInt := y1
    have y2 : y.toInt ≤ t.2.2 := y2
    rw [hy]
    obtain ⟨⟨z1, z2⟩, z3⟩ := hz rfl
    refine row2 rfl _ f x y lw _ ws q1 v1 (k ν _ _ _ ⟨h1, rfl, h3.setA hT q1 (Or.inr (Or.inr (Or.inl ⟨rfl, _, rfl, ?_⟩))) (fun n' t' e' => by cases e') hm⟩)
    rw [vnar_z (by omega) (by omega)]
    exact aint_upd q3 y1 y2 (fun e => by rw [z3] at e; cases e)
  · omega
end AZ2
end
section
/-! branches; switches; arrays of references -/
def chold (c : Nat) (a b : Int) : Prop := match c with
  | 0 => a = b
  | 1 => a ≠ b
  | 2 => a < b
  | 3 => b ≤ a
  | 4 => b < a
  | _ => a ≤ b
def cneg : Nat → Nat
  | 0 => 1
  | 1 => 0
  | 2 => 3
  | 3 => 2
  | 4 => 5
  | _ => 4
def alq (x y : Nat) (c : Int) (ev : AEv) (rl : ARl) : Option (AEv × ARl) := match adif ev rl x 2 y with
  | some d => bif decide (d + c < 0) then none else some (ale x y c ev rl)
  | none => some (ale x y c ev rl)
def leD (x y : Nat) (ev : AEv) (rl : ARl) : Bool := match adif ev rl y 2 x with
  | some d => decide (d ≤ 0)
  | none => false
/-- what is known where x c y -/
def atk (c x y : Nat) (ev : AEv) (rl : ARl) : Option (AEv × ARl) := match c with
  | 0 => match alq x y 0 ev rl with
    | some q => alq y x 0 q.1 q.2
    | none => none
  | 1 => bif leD x y ev rl then alq x y (-1) ev rl else bif leD y x ev rl then alq y x (-1) ev rl else some (ev, rl)
  | 2 => alq x y (-1) ev rl
  | 3 => alq y x 0 ev rl
  | 4 => alq y x (-1) ev rl
  | _ => alq x y 0 ev rl
section AZ3
variable {ZZ : ZZT} {G : KG} {ad : Nat → Nat} {T : List TE} {mk : List (Nat × Nat)} {w0 : va_W} {pin : List (Nat × Value)} {ν : Nat → Value} {ws : va_W}
variable {lv : ALv} {st : List Nat} {ev : AEv} {ca : ACa} {rl : ARl} {nx pc pc' : Nat}
theorem AK.sAl (h : AK G ad T mk w0 pin (lv, st, ev, ca, rl, nx) ν ws) {x y : Nat} {c : Int} (hle : vI (ν x) ≤ vI (ν y) + c) : ∃ q, alq x y c ev rl = some q ∧ AK G ad T mk w0 pin (lv, st, q.1, ca, q.2, nx) ν ws := by
  show ∃ q, (match adif ev rl x 2 y with
    | some d => bif decide (d + c < 0) then none else some (ale x y c ev rl)
    | none => some (ale x y c ev rl)) = some q ∧ _
  cases e : adif ev rl x 2 y with
  | none => exact ⟨_, rfl, h.le hle⟩
  | some d =>
    have h1 := h.dif e
    have h2 : decide (d + c < 0) = false := decide_eq_false (by omega)
    refine ⟨ale x y c ev rl, ?_, h.le hle⟩
    simp only [h2, cond_false]
theorem AK.sLe (h : AK G ad T mk w0 pin (lv, st, ev, ca, rl, nx) ν ws) {x y : Nat} (hle : leD x y ev rl = true) : vI (ν x) ≤ vI (ν y) := by
  have hle : (match adif ev rl y 2 x with
    | some d => decide (d ≤ 0)
    | none => false) = true := hle
  cases e : adif ev rl y 2 x with
  | none => rw [e] at hle; cases hle
  | some d =>
    rw [e] at hle
    have h1 := h.dif e
    have h2 := of_decide_eq_true hle
    omega
theorem AK.tk (h : AK G ad T mk w0 pin (lv, st, ev, ca, rl, nx) ν ws) {c x y : Nat} (hc : chold c (vI (ν x)) (vI (ν y))) : ∃ q, atk c x y ev rl = some q ∧ AK G ad T mk w0 pin (lv, st, q.1, ca, q.2, nx) ν ws := by
  match c, hc with
  | 0, hc =>
    have hc : vI (ν x) = vI (ν y) := hc
    obtain ⟨q, e1, h1⟩ := h.sAl (x := x) (y := y) (c := 0) (by omega)
    obtain ⟨q2, e2, h2⟩ := h1.sAl (x := y) (y := x) (c := 0) (by omega)
    exact ⟨q2, by simp only [atk, e1, e2], h2⟩
  | 1, hc =>
    have hc : vI (ν x) ≠ vI (ν y) := hc
    cases e1 : leD x y ev rl with
    | true =>
      have h1 := h.sLe e1
      obtain ⟨q, e2, h2⟩ := h.sAl (x := x) (y := y) (c := -1) (by omega)
      exact ⟨q, by simp only [atk, e1, cond_true, e2], h2⟩
    | false =>
      cases e3 : leD y x ev rl with
      | true =>
        have h1 := h.sLe e3
        obtain ⟨q, e2, h2⟩ := h.sAl (x := y) (y := x) (c := -1) (by omega)
        exact ⟨q, by simp only [atk, e1, e3, cond_true, cond_false, e2], h2⟩
      | false => exact ⟨(ev, rl), by simp only [atk, e1, e3, cond_false], h⟩
  | 2, hc =>
    have hc : vI (ν x) < vI (ν y) := hc
    exact h.sAl (by omega)
  | 3, hc =>
    have hc : vI (ν y) ≤ vI (ν x) := hc
    exact h.sAl (by omega)
  | 4, hc =>
    have hc : vI (ν y) < vI (ν x) := hc
    exact h.sAl (by omega)
  | n + 5, hc =>
    have hc : vI (ν x) ≤ vI (ν y) := hc
    exact h.sAl (by omega)
theorem az_br {c x y tgt k : Nat} (hk : k ≤ 1) (hx : (aty ev x).1 = k) (hy : (aty ev y).1 = k) (row : ∀ (vx vy : Value) (lw : List (Nat × Value)) (rest : List Value) (ws : va_W), tagv k vx → tagv k vy → (chold c (vI vx) (vI vy) → ZZ tgt lw rest ws) → (chold (cneg c) (vI vx) (vI vy) → ZZ pc' lw rest ws) → ZZ pc lw (vy :: vx :: rest) ws)
    (kt : ∀ q, atk c x y ev rl = some q → AZ ZZ G ad T mk w0 pin (lv, st, q.1, ca, q.2, nx) tgt) (kf : ∀ q, atk (cneg c) x y ev rl = some q → AZ ZZ G ad T mk w0 pin (lv, st, q.1, ca, q.2, nx) pc') : AZ ZZ G ad T mk w0 pin (lv, y :: x :: st, ev, ca, rl, nx) pc := by
  intro ν lw sw ws h
  obtain ⟨h1, h2, h3⟩ := h
  have h3 : AK G ad T mk w0 pin (lv, st, ev, ca, rl, nx) ν ws := h3
  have h2' : sw = ν y :: ν x :: st.map ν := h2
  rw [h2']
  refine row _ _ lw _ ws (h3.tag hx (by omega)) (h3.tag hy (by omega)) (fun hc => ?_) (fun hc => ?_)
  · obtain ⟨q, e, h4⟩ := h3.tk hc
    exact kt q e ν _ _ ws ⟨h1, rfl, h4⟩
  · obtain ⟨q, e, h4⟩ := h3.tk hc
    exact kf q e ν _ _ ws ⟨h1, rfl, h4⟩
theorem az_br0 {c x tgt : Nat} (hx : (aty ev x).1 = 0) (hf : afr (lv, x :: st, ev, ca, rl, nx) = true) (row : ∀ (vx : Value) (lw : List (Nat × Value)) (rest : List Value) (ws : va_W), tagv 0 vx → (chold c (vI vx) 0 → ZZ tgt lw rest ws) → (chold (cneg c) (vI vx) 0 → ZZ pc' lw rest ws) → ZZ pc lw (vx :: rest) ws)
    (kt : ∀ q, atk c x nx ((nx, (0, 0, 0)) :: ev) rl = some q → AZ ZZ G ad T mk w0 pin (lv, st, q.1, ca, q.2, nx + 1) tgt) (kf : ∀ q, atk (cneg c) x nx ((nx, (0, 0, 0)) :: ev) rl = some q → AZ ZZ G ad T mk w0 pin (lv, st, q.1, ca, q.2, nx + 1) pc') : AZ ZZ G ad T mk w0 pin (lv, x :: st, ev, ca, rl, nx) pc := by
  intro ν lw sw ws h
  obtain ⟨h1, h2, h3⟩ := h
  have h3 : AK G ad T mk w0 pin (lv, st, ev, ca, rl, nx) ν ws := h3
  have h2' : sw = ν x :: st.map ν := h2
  rw [h2']
  have hf2 := afr_pop hf
  have hxn : x < nx := (afr_ok hf).2.2.1 x List.mem_cons_self
  have h4 : AK G ad T mk w0 pin (lv, st, (nx, (0, 0, 0)) :: ev, ca, rl, nx + 1) (nup ν nx (.int 0)) ws := h3.new (nr := []) hf2 (vty_i (by decide) (by decide)) (fun q hq => by cases hq)
  have ex : nup ν nx (.int 0) x = ν x := nup_ne hxn
  have en : nup ν nx (.int 0) nx = .int 0 := nup_eq
  have e0 : vI (nup ν nx (.int 0) nx) = 0 := by rw [en]; rfl
  have l1 : lw = lv.map (fun q => (q.1, nup ν nx (.int 0) q.2.1)) := by
    rw [lvs_cong hf2 (fun i hi => nup_ne hi)]; exact h1
  have s1 : st.map ν = st.map (nup ν nx (.int 0)) := (sts_cong hf2 (fun i hi => nup_ne hi)).symm
  refine row _ lw _ ws (h3.tag hx (by omega)) (fun hc => ?_) (fun hc => ?_)
  · obtain ⟨q, e, h5⟩ := h4.tk (c := c) (x := x) (y := nx) (by rw [ex, e0]; exact hc)
    exact kt q e _ _ _ ws ⟨l1, s1, h5⟩
  · obtain ⟨q, e, h5⟩ := h4.tk (c := cneg c) (x := x) (y := nx) (by rw [ex, e0]; exact hc)
    exact kf q e _ _ _ ws ⟨l1, s1, h5⟩
/-- a fact more: x is just v -/
theorem AK.is (h : AK G ad T mk w0 pin (lv, st, ev, ca, rl, nx) ν ws) {x : Nat} (hx : (aty ev x).1 = 0) {v : Int} (hv : vI (ν x) = v) : AK G ad T mk w0 pin (lv, st, (x, (0, v, v)) :: ev, ca, rl, nx) ν ws := by
  refine ⟨h.1, fun q hq => ?_, h.2.2⟩
  rcases List.mem_cons.mp hq with e | hq
  · rw [e]
    obtain ⟨a, ha⟩ := h.int hx
    show vty ad (0, v, v) (ν x)
    rw [ha] at hv ⊢
    have hv : a.toInt = v := hv
    exact vty_i (by omega) (by omega)
  · exact h.2.1 q hq
/-- the places of a switch -/
def aoffs (pc : Nat) (lo : Int) : Nat → List Int → Int → Int → List (Nat × Int)
  | _, [], _, _ => []
  | j, o :: os, a, b => (bif decide (a ≤ lo + j) && decide (lo + j ≤ b) then [(((pc : Int) + o).toNat, lo + j)] else []) ++ aoffs pc lo (j + 1) os a b
theorem aoffs_in {pc : Nat} {lo a b : Int} : ∀ (os : List Int) (j i : Nat) (o : Int), os[i]? = some o → a ≤ lo + ((j + i : Nat) : Int) → lo + ((j + i : Nat) : Int) ≤ b → (((pc : Int) + o).toNat, lo + ((j + i : Nat) : Int)) ∈ aoffs pc lo j os a b
  | [], j, i, o, h, _, _ => by simp at h
  | o' :: os, j, 0, o, h, h1, h2 => by
    cases h
    unfold aoffs
    have h1 : a ≤ lo + (j : Int) := h1
    have h2 : lo + (j : Int) ≤ b := h2
    rw [decide_eq_true h1, decide_eq_true h2]
    exact List.mem_append_left _ (List.mem_singleton.mpr rfl)
  | o' :: os, j, i + 1, o, h, h1, h2 => by
    unfold aoffs
    have e : j + (i + 1) = (j + 1) + i := by omega
    rw [e] at h1 h2 ⊢
    exact List.mem_append_right _ (aoffs_in os (j + 1) i o (by simpa using h) h1 h2)
theorem az_table {x dt : Nat} {dflt lo hi : Int} {offs : List Int} (hx : (aty ev x).1 = 0) (hd : 0 ≤ (pc : Int) + dflt) (hds : dt = ((pc : Int) + dflt).toNat) (hoff : offs.all (fun o => decide (0 ≤ (pc : Int) + o)) = true) (hlen : hi - lo + 1 = (offs.length : Int))
    (rowOut : ∀ (v : Int32) (lw : List (Nat × Value)) (rest : List Value) (ws : va_W), (v.toInt < lo ∨ hi < v.toInt) → ZZ dt lw rest ws → ZZ pc lw (.int v :: rest) ws)
    (rowIn : ∀ (v : Int32) (off : Int) (tgt : Nat) (lw : List (Nat × Value)) (rest : List Value) (ws : va_W), ¬ v.toInt < lo → ¬ hi < v.toInt → offs[(v.toInt - lo).toNat]? = some off → (pc : Int) + off = (tgt : Int) → ZZ tgt lw rest ws → ZZ pc lw (.int v :: rest) ws)
    (kd : (decide (xlo ev rl x < lo) || decide (hi < xhi ev rl x)) = true → AZ ZZ G ad T mk w0 pin (lv, st, ev, ca, rl, nx) dt)
    (kt : ∀ q ∈ aoffs pc lo 0 offs (xlo ev rl x) (xhi ev rl x), AZ ZZ G ad T mk w0 pin (lv, st, (x, (0, q.2, q.2)) :: ev, ca, rl, nx) q.1) : AZ ZZ G ad T mk w0 pin (lv, x :: st, ev, ca, rl, nx) pc := by
  intro ν lw sw ws h
  obtain ⟨h1, h2, h3⟩ := h
  have h3 : AK G ad T mk w0 pin (lv, st, ev, ca, rl, nx) ν ws := h3
  have h2' : sw = ν x :: st.map ν := h2
  obtain ⟨a, ha⟩ := h3.int hx
  have l1 := h3.lo2 x
  have l2 := h3.hi2 x
  rw [ha] at l1 l2
  have l1 : xlo ev rl x ≤ a.toInt := l1
  have l2 : a.toInt ≤ xhi ev rl x := l2
  rw [h2', ha]
  by_cases hin : a.toInt < lo ∨ hi < a.toInt
  · refine rowOut a lw _ ws hin (kd ?_ ν _ _ ws ⟨h1, rfl, h3⟩)
    rw [Bool.or_eq_true, decide_eq_true_eq, decide_eq_true_eq]
    omega
  · have g1 : ¬ a.toInt < lo := fun h => hin (Or.inl h)
    have g2 : ¬ hi < a.toInt := fun h => hin (Or.inr h)
    have hb : (a.toInt - lo).toNat < offs.length := by omega
    have ho := List.getElem?_eq_getElem hb
    have hp := of_decide_eq_true (List.all_eq_true.mp hoff _ (List.mem_of_getElem? ho))
    have hm := aoffs_in (pc := pc) (lo := lo) (a := xlo ev rl x) (b := xhi ev rl x) offs 0 _ _ ho (by omega) (by omega)
    have ev2 : lo + ((0 + (a.toInt - lo).toNat : Nat) : Int) = a.toInt := by omega
    rw [ev2] at hm
    refine rowIn a _ _ lw _ ws g1 g2 ho ?_ (kt _ hm ν _ _ ws ⟨h1, rfl, h3.is hx (by rw [ha]; rfl)⟩)
    show (pc : Int) + _ = ((((pc : Int) + _).toNat : Nat) : Int)
    omega
/-- an array of references: each place by itself -/
def arng : Nat → Nat → List Nat
  | 0, _ => []
  | n + 1, a => a :: arng n (a + 1)
theorem arng_in : ∀ (n a x : Nat), a ≤ x → x < a + n → x ∈ arng n a
  | 0, a, x, h1, h2 => by omega
  | n + 1, a, x, h1, h2 => by
    unfold arng
    by_cases e : x = a
    · rw [e]; exact List.mem_cons_self
    · exact List.mem_cons_of_mem _ (arng_in n (a + 1) x (by omega) (by omega))
theorem az_ald3 {a i n : Nat} {t : VT} (ha : (aty ev a).1 = 2) (hT : T[(aty ev a).2.1.toNat]? = some (.inr (3, n, t))) (hi : (aty ev i).1 = 0) (hin : ain ev rl i n = true) (hf : afr (lv, i :: a :: st, ev, ca, rl, nx) = true)
    (row : ∀ (b : Nat) (f : Nat → Option Nat) (x : Int32) (z : Nat) (lw : List (Nat × Value)) (rest : List Value) (ws : va_W), ws[(aty ev a).2.1.toNat]? = some (b, aO G n f) → vp_in x n → f x.toNatClampNeg = some z → ZZ pc' lw (.ref z :: rest) ws → ZZ pc lw (.int x :: .ref b :: rest) ws)
    (k : ∀ j ∈ arng n 0, AZ ZZ G ad T mk w0 pin (lv, nx :: st, (i, (0, (j : Int), (j : Int))) :: (nx, (2, ((t.2.1.toNat + j * t.2.2.toNat : Nat) : Int), 0)) :: ev, ca, rl, nx + 1) pc') : AZ ZZ G ad T mk w0 pin (lv, i :: a :: st, ev, ca, rl, nx) pc := by
  intro ν lw sw ws h
  obtain ⟨h1, h2, h3⟩ := h
  have h3 : AK G ad T mk w0 pin (lv, st, ev, ca, rl, nx) ν ws := h3
  have h2' : sw = ν i :: ν a :: st.map ν := h2
  obtain ⟨x, hx⟩ := h3.int hi
  obtain ⟨v1, v2⟩ := h3.inr hin hx
  have hf2 := afr_pop (afr_pop hf)
  have hin' : i < nx := (afr_ok hf).2.2.1 i List.mem_cons_self
  have hx0 : (x.toNatClampNeg : Int) = x.toInt := by
    unfold ain at hin
    simp only [Bool.and_eq_true, decide_eq_true_eq] at hin
    have q1 := h3.lo2 i
    rw [hx] at q1
    have q1 : xlo ev rl i ≤ x.toInt := q1
    show ((x.toInt).toNat : Int) = x.toInt
    omega
  rw [h2', h3.ref ha, hx]
  obtain ⟨en, q1, q2⟩ := h3.2.2.2.2.2.1.arr hT
  rcases q2 with ⟨e, -⟩ | ⟨e, -⟩ | ⟨e, -⟩ | ⟨-, f, rfl, q3⟩
  · cases e
  · cases e
  · cases e
  · refine row _ f x _ lw _ ws q1 v1 (q3 _ v2) ?_
    have g := AG.push (st := st) (nr := []) (v := .ref (ad (t.2.1.toNat + x.toNatClampNeg * t.2.2.toNat))) (t := (2, ((t.2.1.toNat + x.toNatClampNeg * t.2.2.toNat : Nat) : Int), 0)) ⟨h1, rfl, h3⟩ hf2 (Or.inr (Or.inr (Or.inl ⟨rfl, rfl⟩))) (fun q hq => by cases hq)
    refine k x.toNatClampNeg (arng_in _ _ _ (Nat.zero_le _) (by omega)) _ _ _ ws ⟨g.1, g.2.1, g.2.2.1, fun q hq => ?_, g.2.2.2.2⟩
    rcases List.mem_cons.mp hq with e | hq
    · rw [e]
      show vty ad (0, (x.toNatClampNeg : Int), (x.toNatClampNeg : Int)) (nup ν nx _ i)
      rw [nup_ne hin', hx]
      exact vty_i (by omega) (by omega)
    · exact g.2.2.2.1 q hq
end AZ3
end
section
/-! contracts in names: 0 .. 49 the arguments, 50 the answer, 100 .. fields before, 200 .. fields after -/
abbrev ALT : Type := Option VT × List (Nat × VT) × List (Nat × Nat × VT) × ARl
abbrev CE : Type := List VT × List (Nat × Nat × VT) × ARl × List ALT × List (Nat × Nat) × Nat × Nat
def PRE (ad : Nat → Nat) (C : CE) (μ : Nat → Value) (w0 : va_W) : Prop := (∀ j t, C.1[j]? = some t → vty ad t (μ j)) ∧ (∀ n q, C.2.1[n]? = some q → vty ad q.2.2 (μ (100 + n)) ∧ fget w0 q.1 q.2.1 = some (μ (100 + n))) ∧ ∀ q ∈ C.2.2.1, vI (μ q.1) ≤ vI (μ q.2.1) + q.2.2
def resOK (ad : Nat → Nat) (t : Option VT) (r : Option Value) (v : Value) : Prop := match t with
  | none => r = none
  | some t => r = some v ∧ vty ad t v
def POST (G : KG) (ad : Nat → Nat) (T : List TE) (C : CE) (μ : Nat → Value) (w0 : va_W) (r : Option Value) (w1 : va_W) : Prop :=
  ∃ A ∈ C.2.2.2.1, ∃ μ' : Nat → Value, (∀ i, i < 50 → μ' i = μ i) ∧ (∀ i, 100 ≤ i → i < 200 → μ' i = μ i) ∧ resOK ad A.1 r (μ' 50) ∧ (∀ q ∈ A.2.1, vty ad q.2 (μ' q.1)) ∧ (∀ n q, A.2.2.1[n]? = some q → vty ad q.2.2 (μ' (200 + n)) ∧ fget w1 q.1 q.2.1 = some (μ' (200 + n))) ∧ (∀ q ∈ A.2.2.2, vI (μ' q.1) ≤ vI (μ' q.2.1) + q.2.2) ∧ WT G ad T w1 ∧ FRM C.2.2.2.2.1 w0 w1
abbrev rmOf (C : CE) : Room := { frames := C.2.2.2.2.2.1, cells := 0, slots := 0, locals := C.2.2.2.2.2.2 }
def ACt (l : Launch) (G : KG) (T : List TE) (y : MethodName) (cc : ByteArray) (maxL : Nat) (ret : Option FieldType) (C : CE) : Prop := ∀ (ad : Nat → Nat) (w0 : va_W) (μ : Nat → Value), WT G ad T w0 → PRE ad C μ w0 → Ct l G y cc maxL ret (rmOf C) ((List.range C.1.length).map μ) w0 (fun r w1 => POST G ad T C μ w0 r w1)
def acaf : ACa → Nat → Nat → Option Nat
  | [], _, _ => none
  | q :: l, k, j => bif Nat.beq q.1 k && Nat.beq q.2.1 j then some q.2.2 else acaf l k j
theorem acaf_mem : ∀ (ca : ACa) (k j i : Nat), acaf ca k j = some i → (k, j, i) ∈ ca
  | [], k, j, i, h => by cases h
  | q :: l, k, j, i, h => by
    unfold acaf at h
    cases hb : (Nat.beq q.1 k && Nat.beq q.2.1 j) with
    | true =>
      rw [hb] at h
      cases h
      rw [Bool.and_eq_true] at hb
      have e1 : q.1 = k := Nat.eq_of_beq_eq_true hb.1
      have e2 : q.2.1 = j := Nat.eq_of_beq_eq_true hb.2
      subst e1; subst e2
      exact List.mem_cons_self
    | false =>
      rw [hb] at h
      exact List.mem_cons_of_mem _ (acaf_mem l k j i h)
def dle (ev : AEv) (rl : ARl) (a b : Nat) (c : Int) : Bool := match adif ev rl b 3 a with
  | some d => decide (d ≤ c)
  | none => false
/-- the fields' names: of what is held -/
def acas (ca : ACa) : List (Nat × Nat × VT) → Option (List Nat)
  | [] => some []
  | q :: l => match acaf ca q.1 q.2.1, acas ca l with
    | some i, some is => some (i :: is)
    | _, _ => none
theorem acas_ok {ca : ACa} : ∀ (l : List (Nat × Nat × VT)) (is : List Nat), acas ca l = some is → is.length = l.length ∧ ∀ n q, l[n]? = some q → (q.1, q.2.1, is.getD n 0) ∈ ca
  | [], is, h => by
    cases h
    exact ⟨rfl, fun n q hq => by simp at hq⟩
  | q :: l, is, h => by
    unfold acas at h
    cases h1 : acaf ca q.1 q.2.1 with
    | none => rw [h1] at h; cases h
    | some i =>
      cases h2 : acas ca l with
      | none => rw [h1, h2] at h; cases h
      | some is2 =>
        rw [h1, h2] at h
        cases h
        obtain ⟨q1, q2⟩ := acas_ok l is2 h2
        refine ⟨by simp [q1], fun n p hp => ?_⟩
        cases n with
        | zero =>
          cases hp
          exact acaf_mem ca _ _ i h1
        | succ n => exact q2 n p (by simpa using hp)
def cmap (as ps : List Nat) (nx : Nat) (i : Nat) : Nat := bif Nat.blt i 50 then as.getD i 0 else bif Nat.beq i 50 then nx else bif Nat.blt i 200 then ps.getD (i - 100) 0 else nx + 1 + (i - 200)
def vrefB (i : Nat) : Bool := Nat.ble i 50 || Nat.ble 100 i
/-- the state behind a call, by the answer A -/
def aafter (as ps : List Nat) (A : ALT) (msk : List (Nat × Nat)) (lv : ALv) (st : List Nat) (ev : AEv) (ca : ACa) (rl : ARl) (nx : Nat) : AS :=
  (lv, (match A.1 with | some _ => nx :: st | none => st), A.2.1.map (fun q => (cmap as ps nx q.1, q.2)) ++ ((match A.1 with | some t => [(nx, t)] | none => []) ++ (A.2.2.1.zipIdx.map (fun q => (nx + 1 + q.2, q.1.2.2)) ++ ev)),
   A.2.2.1.zipIdx.map (fun q => (q.1.1, q.1.2.1, nx + 1 + q.2)) ++ ca.filter (fun q => !(mkq msk q.1 q.2.1)), A.2.2.2.map (fun q => (cmap as ps nx q.1, cmap as ps nx q.2.1, q.2.2)) ++ rl, nx + 1 + A.2.2.1.length)
def altB (A : ALT) : Bool := A.2.1.all (fun q => vrefB q.1) && A.2.2.2.all (fun q => vrefB q.1 && vrefB q.2.1)
def cov (mk msk : List (Nat × Nat)) : Bool := msk.all (fun q => bif Nat.beq q.2 999 then mk.any (fun p => Nat.beq p.1 q.1 && Nat.beq p.2 999) else mkq mk q.1 q.2)
theorem cov_ok {mk msk : List (Nat × Nat)} (h : cov mk msk = true) {k j : Nat} (hk : mkq mk k j = false) : mkq msk k j = false := by
  cases e : mkq msk k j with
  | false => rfl
  | true =>
    unfold mkq at e
    obtain ⟨q, hq, e⟩ := List.any_eq_true.mp e
    rw [Bool.and_eq_true] at e
    have e1 : q.1 = k := Nat.eq_of_beq_eq_true e.1
    have h1 := List.all_eq_true.mp h q hq
    cases h9 : Nat.beq q.2 999 with
    | true =>
      rw [h9] at h1
      have h1 : mk.any (fun p => Nat.beq p.1 q.1 && Nat.beq p.2 999) = true := h1
      rw [e1] at h1
      rw [mkq_arr h1] at hk
      cases hk
    | false =>
      rw [h9] at h1
      have h1 : mkq mk q.1 q.2 = true := h1
      rw [h9, Bool.or_false] at e
      have e2 : q.2 = j := Nat.eq_of_beq_eq_true e.2
      rw [e1, e2, hk] at h1
      cases h1
section AZ4
variable {ZZ : ZZT} {G : KG} {ad : Nat → Nat} {T : List TE} {mk : List (Nat × Nat)} {w0 : va_W} {pin : List (Nat × Value)} {ν : Nat → Value} {ws : va_W}
variable {lv : ALv} {st : List Nat} {ev : AEv} {ca : ACa} {rl : ARl} {nx pc pc' : Nat}
theorem AK.dl (h : AK G ad T mk w0 pin (lv, st, ev, ca, rl, nx) ν ws) {a b : Nat} {c : Int} (e : dle ev rl a b c = true) : vI (ν a) ≤ vI (ν b) + c := by
  unfold dle at e
  cases h1 : adif ev rl b 3 a with
  | none => rw [h1] at e; cases e
  | some d =>
    rw [h1] at e
    have h2 := h.dif h1
    have h3 := of_decide_eq_true e
    omega
theorem afr_of_app {as : List Nat} (hf : afr (lv, as ++ st, ev, ca, rl, nx) = true) : afr (lv, st, ev, ca, rl, nx) = true := by
  induction as with
  | nil => exact hf
  | cons a as ih => exact ih (afr_pop hf)
theorem az_touch {k j ci : Nat} {ts : List VT} {t : VT} (hT : T[k]? = some (.inl (ci, ts))) (ht : ts[j]? = some t) (hf : afr (lv, st, ev, ca, rl, nx) = true)
    (kk : AZ ZZ G ad T mk w0 pin (lv, st, (nx, t) :: ev, (k, j, nx) :: ca, rl, nx + 1) pc) : AZ ZZ G ad T mk w0 pin (lv, st, ev, ca, rl, nx) pc := by
  intro ν lw sw ws h
  obtain ⟨h1, h2, h3⟩ := h
  obtain ⟨fs, v, q1, q2, q3, q4⟩ := h3.2.2.2.2.2.1.obj hT ht
  have g := h3.new (nr := []) (v := v) (t := t) hf q4 (fun q hq => by cases hq)
  refine kk _ lw sw ws ⟨?_, ?_, g.1, g.2.1, fun q hq => ?_, g.2.2.2⟩
  · show lw = lv.map (fun q => (q.1, nup ν nx v q.2.1))
    rw [lvs_cong hf (fun i hi => nup_ne hi)]; exact h1
  · show sw = st.map (nup ν nx v)
    rw [sts_cong hf (fun i hi => nup_ne hi)]; exact h2
  · rcases List.mem_cons.mp hq with e | hq
    · rw [e]
      show fget ws k j = some (nup ν nx v nx)
      rw [nup_eq, fget_of q1]
      exact q3
    · exact g.2.2.1 q hq
theorem zipIdx_mem {α : Type} {l : List α} {q : α × Nat} (h : q ∈ l.zipIdx) : l[q.2]? = some q.1 := by
  obtain ⟨a, i⟩ := q
  exact List.mem_zipIdx_iff_getElem?.mp h
theorem fget_frame {msk : List (Nat × Nat)} {wa wb : va_W} (h : FRM msk wa wb) {k j : Nat} {v : Value} (hm : mkq msk k j = false) (hf : fget wa k j = some v) : fget wb k j = some v := by
  have h1 := h.2 k j hm
  unfold fget at hf ⊢
  unfold cget at h1
  cases ha : wa[k]? with
  | none => rw [ha] at hf; cases hf
  | some q =>
    obtain ⟨a, e⟩ := q
    cases e with
    | inl e => rw [ha] at hf; cases hf
    | inr o =>
      rw [ha] at hf h1
      have hf : o.2[j]? = some v := hf
      have h1 : _ = (o.2[j]?).map Sum.inl := h1
      rw [hf] at h1
      cases hb : wb[k]? with
      | none => rw [hb] at h1; cases h1
      | some q2 =>
        obtain ⟨a2, e2⟩ := q2
        cases e2 with
        | inl e2 =>
          rw [hb] at h1
          cases h1
        | inr o2 =>
          rw [hb] at h1
          have h1 : (o2.2[j]?).map Sum.inl = some (Sum.inl v) := h1
          cases h2 : o2.2[j]? with
          | none => rw [h2] at h1; cases h1
          | some v2 =>
            rw [h2] at h1
            cases h1
            exact h2
theorem frm_trans {mk msk : List (Nat × Nat)} {wa wb wc : va_W} (h1 : FRM mk wa wb) (h2 : FRM msk wb wc) (hc : cov mk msk = true) : FRM mk wa wc := ⟨h2.1.trans h1.1, fun k j hk => (h2.2 k j (cov_ok hc hk)).trans (h1.2 k j hk)⟩
theorem az_call {PR : List Value → Prop} {C : CE} {as ps : List Nat} (hPR : ∀ (ν : Nat → Value) (ws : va_W), AK G ad T mk w0 pin (lv, st, ev, ca, rl, nx) ν ws → PR (st.map ν)) (hf : afr (lv, as.reverse ++ st, ev, ca, rl, nx) = true) (hn : as.length = C.1.length) (hp : acas ca C.2.1 = some ps)
    (ha : (C.1.zipIdx.all fun q => vsub ev rl (as.getD q.2 0) q.1) = true) (hpf : (C.2.1.zipIdx.all fun q => vsub ev rl (ps.getD q.2 0) q.1.2.2) = true) (hrl : (C.2.2.1.all fun q => dle ev rl (cmap as ps nx q.1) (cmap as ps nx q.2.1) q.2.2 && (Nat.blt q.1 50 || (Nat.ble 100 q.1 && Nat.blt q.1 200)) && (Nat.blt q.2.1 50 || (Nat.ble 100 q.2.1 && Nat.blt q.2.1 200))) = true) (hal : C.2.2.2.1.all altB = true) (hcv : cov mk C.2.2.2.2.1 = true)
    (hl1 : C.1.length ≤ 50) (hl2 : C.2.1.length ≤ 100)
    (row : ∀ (lw : List (Nat × Value)) (rest : List Value) (ws : va_W) (μ : Nat → Value), PR rest → WT G ad T ws → PRE ad C μ ws → (∀ (r : Option Value) (w1 : va_W), POST G ad T C μ ws r w1 → ZZ pc' lw (r.toList ++ rest) w1) → ZZ pc lw (((List.range C.1.length).map μ).reverse ++ rest) ws)
    (k : ∀ A ∈ C.2.2.2.1, AZ ZZ G ad T mk w0 pin (aafter as ps A C.2.2.2.2.1 lv st ev ca rl nx) pc') : AZ ZZ G ad T mk w0 pin (lv, as.reverse ++ st, ev, ca, rl, nx) pc := by
  intro ν lw sw ws h
  obtain ⟨h1, h2, h3⟩ := h
  obtain ⟨f0, f1, f2, f3, f4, f5⟩ := afr_ok hf
  obtain ⟨p1, p2⟩ := acas_ok _ _ hp
  have hasl : ∀ i, as.getD i 0 < nx := by
    intro i
    by_cases hi : i < as.length
    · have e : as.getD i 0 = as[i] := by simp [List.getD, List.getElem?_eq_getElem hi]
      rw [e]
      exact f2 _ (List.mem_append_left _ (List.mem_reverse.mpr (List.getElem_mem hi)))
    · have e : as.getD i 0 = 0 := by simp [List.getD, List.getElem?_eq_none (Nat.le_of_not_lt hi)]
      rw [e]
      omega
  have hpsl : ∀ i, ps.getD i 0 < nx := by
    intro i
    by_cases hi : i < C.2.1.length
    · exact f4 _ (p2 i _ (List.getElem?_eq_getElem hi))
    · have e : ps.getD i 0 = 0 := by simp [List.getD, List.getElem?_eq_none (show ps.length ≤ i by omega)]
      rw [e]
      omega
  have hm1 : ∀ i, i < 50 → cmap as ps nx i = as.getD i 0 := by
    intro i hi
    unfold cmap
    rw [show Nat.blt i 50 = true from Nat.ble_eq_true_of_le hi]
    rfl
  have hm2 : ∀ i, 100 ≤ i → i < 200 → cmap as ps nx i = ps.getD (i - 100) 0 := by
    intro i hi hj
    unfold cmap
    have e1 : Nat.blt i 50 = false := by
      cases e : Nat.blt i 50 with
      | false => rfl
      | true => have := blt_lt e; omega
    have e2 : Nat.beq i 50 = false := by
      cases e : Nat.beq i 50 with
      | false => rfl
      | true => have := Nat.eq_of_beq_eq_true e; omega
    rw [e1, e2, show Nat.blt i 200 = true from Nat.ble_eq_true_of_le hj]
    rfl
  have hm3 : ∀ i, 200 ≤ i → cmap as ps nx i = nx + 1 + (i - 200) := by
    intro i hi
    unfold cmap
    have e1 : Nat.blt i 50 = false := by
      cases e : Nat.blt i 50 with
      | false => rfl
      | true => have := blt_lt e; omega
    have e2 : Nat.beq i 50 = false := by
      cases e : Nat.beq i 50 with
      | false => rfl
      | true => have := Nat.eq_of_beq_eq_true e; omega
    have e3 : Nat.blt i 200 = false := by
      cases e : Nat.blt i 200 with
      | false => rfl
      | true => have := blt_lt e; omega
    rw [e1, e2, e3]
    rfl
  have hm5 : cmap as ps nx 50 = nx := rfl
  have hargs : sw = ((List.range C.1.length).map (fun i => ν (cmap as ps nx i))).reverse ++ st.map ν := by
    have h2 : sw = (as.reverse ++ st).map ν := h2
    rw [h2, List.map_append, List.map_reverse]
    congr 2
    refine List.ext_getElem (by simp [hn]) (fun i q1 q2 => ?_)
    have hi : i < as.length := by simpa using q1
    simp only [List.getElem_map, List.getElem_range]
    rw [hm1 i (by omega)]
    simp [List.getD, List.getElem?_eq_getElem hi]
  have h3 : AK G ad T mk w0 pin (lv, st, ev, ca, rl, nx) ν ws := h3
  rw [hargs]
  refine row lw (st.map ν) ws (fun i => ν (cmap as ps nx i)) (hPR ν ws h3) h3.2.2.2.2.2.1 ⟨fun j t hj => ?_, fun n q hq => ?_, fun q hq => ?_⟩ (fun r w1 hP => ?_)
  · have hj2 := lt_of_getE hj
    show vty ad t (ν (cmap as ps nx j))
    rw [hm1 j (by omega)]
    exact h3.sub (List.all_eq_true.mp ha (t, j) (List.mem_zipIdx_iff_getElem?.mpr hj))
  · have hn2 := lt_of_getE hq
    have e : cmap as ps nx (100 + n) = ps.getD n 0 := by
      rw [hm2 (100 + n) (by omega) (by omega), Nat.add_sub_cancel_left]
    refine ⟨?_, ?_⟩
    · show vty ad q.2.2 (ν (cmap as ps nx (100 + n)))
      rw [e]
      exact h3.sub (List.all_eq_true.mp hpf (q, n) (List.mem_zipIdx_iff_getElem?.mpr hq))
    · show fget ws q.1 q.2.1 = some (ν (cmap as ps nx (100 + n)))
      rw [e]
      exact h3.2.2.1 _ (p2 n q hq)
  · have := List.all_eq_true.mp hrl q hq
    simp only [Bool.and_eq_true] at this
    exact h3.dl this.1.1
  · obtain ⟨A, hA, μ', m1, m2, m3, m4, m5, m6, m7, m8⟩ := hP
    obtain ⟨ν', hν'⟩ : ∃ ν' : Nat → Value, ν' = fun i => if i < nx then ν i else if i = nx then μ' 50 else μ' (200 + (i - (nx + 1))) := ⟨_, rfl⟩
    have n1 : ∀ i, i < nx → ν' i = ν i := fun i hi => by rw [hν']; exact if_pos hi
    have n2 : ν' nx = μ' 50 := by
      rw [hν']
      show (if nx < nx then _ else if nx = nx then _ else _) = _
      rw [if_neg (Nat.lt_irrefl nx), if_pos rfl]
    have n3 : ∀ n, ν' (nx + 1 + n) = μ' (200 + n) := fun n => by
      rw [hν']
      show (if nx + 1 + n < nx then _ else if nx + 1 + n = nx then _ else _) = _
      rw [if_neg (by omega), if_neg (by omega), Nat.add_sub_cancel_left]
    have hmap : ∀ i, vrefB i = true → ν' (cmap as ps nx i) = μ' i := by
      intro i hi
      by_cases c1 : i < 50
      · rw [n1 _ (by rw [hm1 i c1]; exact hasl i), m1 i c1]
      · by_cases c2 : i = 50
        · rw [c2, hm5, n2]
        · have c3 : 100 ≤ i := by
            unfold vrefB at hi
            rcases Bool.or_eq_true _ _ ▸ hi with e | e
            · have := Nat.le_of_ble_eq_true e; omega
            · exact Nat.le_of_ble_eq_true e
          by_cases c4 : i < 200
          · rw [n1 _ (by rw [hm2 i c3 c4]; exact hpsl _), m2 i c3 c4]
          · rw [hm3 i (by omega), n3, show 200 + (i - 200) = i from by omega]
    have hAB := List.all_eq_true.mp hal A hA
    unfold altB at hAB
    rw [Bool.and_eq_true, List.all_eq_true, List.all_eq_true] at hAB
    have g := h3.cong (afr_of_app hf) n1
    refine k A hA ν' lw (r.toList ++ st.map ν) w1 ⟨?_, ?_, g.1, fun q hq => ?_, fun q hq => ?_, fun q hq => ?_, g.2.2.2.2.1, m7, frm_trans h3.2.2.2.2.2.2 m8 hcv⟩
    · show lw = lv.map (fun q => (q.1, ν' q.2.1))
      rw [lvs_cong hf n1]; exact h1
    · have e : st.map ν' = st.map ν := List.map_congr_left (fun i hi => n1 i (f2 i (List.mem_append_right _ hi)))
      unfold resOK at m3
      show r.toList ++ st.map ν = (match A.1 with | some _ => nx :: st | none => st).map ν'
      cases hA1 : A.1 with
      | none =>
        rw [hA1] at m3
        have m3 : r = none := m3
        rw [m3]
        exact e.symm
      | some t =>
        rw [hA1] at m3
        obtain ⟨m3, -⟩ := m3
        rw [m3]
        show μ' 50 :: st.map ν = ν' nx :: st.map ν'
        rw [e, n2]
    · rcases List.mem_append.mp hq with hq | hq
      · obtain ⟨q0, hq0, rfl⟩ := List.mem_map.mp hq
        show vty ad q0.2 (ν' (cmap as ps nx q0.1))
        rw [hmap _ (hAB.1 q0 hq0)]
        exact m4 q0 hq0
      · rcases List.mem_append.mp hq with hq | hq
        · cases hA1 : A.1 with
          | none => rw [hA1] at hq; cases hq
          | some t =>
            rw [hA1] at hq m3
            rw [List.mem_singleton.mp hq]
            show vty ad t (ν' nx)
            rw [n2]
            exact m3.2
        · rcases List.mem_append.mp hq with hq | hq
          · obtain ⟨q0, hq0, rfl⟩ := List.mem_map.mp hq
            show vty ad q0.1.2.2 (ν' (nx + 1 + q0.2))
            rw [n3]
            exact (m5 q0.2 q0.1 (zipIdx_mem hq0)).1
          · exact g.2.1 q hq
    · rcases List.mem_append.mp hq with hq | hq
      · obtain ⟨q0, hq0, rfl⟩ := List.mem_map.mp hq
        show fget w1 q0.1.1 q0.1.2.1 = some (ν' (nx + 1 + q0.2))
        rw [n3]
        exact (m5 q0.2 q0.1 (zipIdx_mem hq0)).2
      · obtain ⟨q1, q2⟩ := List.mem_filter.mp hq
        have q2 : mkq C.2.2.2.2.1 q.1 q.2.1 = false := by simpa using q2
        exact fget_frame m8 q2 (g.2.2.1 q q1)
    · rcases List.mem_append.mp hq with hq | hq
      · obtain ⟨q0, hq0, rfl⟩ := List.mem_map.mp hq
        have hb := hAB.2 q0 hq0
        rw [Bool.and_eq_true] at hb
        show vI (ν' (cmap as ps nx q0.1)) ≤ vI (ν' (cmap as ps nx q0.2.1)) + q0.2.2
        rw [hmap _ hb.1, hmap _ hb.2]
        exact m6 q0 hq0
      · exact g.2.2.2.1 q hq
end AZ4
end
section
/-! the end of a method; places where a state is told by itself (cuts), with what gets less -/
def arn (r : Nat) (ps : List Nat) (i : Nat) : Nat := bif Nat.beq i 50 then r else bif Nat.blt i 200 then i else ps.getD (i - 200) 0
def vrefR (n p i : Nat) : Bool := Nat.blt i n || (Nat.beq i 50 || ((Nat.ble 100 i && Nat.blt i (100 + p)) || Nat.ble 200 i))
def aretA (n p : Nat) (A : ALT) (stk : List Nat) (ev : AEv) (ca : ACa) (rl : ARl) : Bool := match acas ca A.2.2.1 with
  | none => false
  | some ps => (match A.1, stk with
      | some t, [r] => vsub ev rl r t
      | none, [] => true
      | _, _ => false) && (A.2.1.all (fun q => vrefR n p q.1 && vsub ev rl (arn (stk.headD 0) ps q.1) q.2) && (A.2.2.1.zipIdx.all (fun q => vsub ev rl (ps.getD q.2 0) q.1.2.2) && A.2.2.2.all (fun q => vrefR n p q.1 && (vrefR n p q.2.1 && dle ev rl (arn (stk.headD 0) ps q.1) (arn (stk.headD 0) ps q.2.1) q.2.2))))
abbrev CUT : Type := Nat × AS × Int × List (Int × Nat)
def mfind : List (Nat × Nat) → Nat → Nat
  | [], _ => 0
  | q :: l, i => bif Nat.beq q.1 i then q.2 else mfind l i
def alv2 : ALv → Nat → Option (Nat × Bool)
  | [], _ => none
  | q :: l, i => bif Nat.beq q.1 i then some q.2 else alv2 l i
theorem alv2_mem : ∀ (lv : ALv) (i : Nat) (q : Nat × Bool), alv2 lv i = some q → (i, q) ∈ lv
  | [], i, n, h => by cases h
  | q :: l, i, n, h => by
    unfold alv2 at h
    cases hb : Nat.beq q.1 i with
    | true =>
      rw [hb] at h
      cases h
      have e : q.1 = i := Nat.eq_of_beq_eq_true hb
      subst e
      exact List.mem_cons_self
    | false =>
      rw [hb] at h
      exact List.mem_cons_of_mem _ (alv2_mem l i n h)
def mpL (lv : ALv) : ALv → Option (List (Nat × Nat))
  | [] => some []
  | q :: l => match alv2 lv q.1, mpL lv l with
    | some z, some r => bif z.2 == q.2.2 then some ((q.2.1, z.1) :: r) else none
    | _, _ => none
def mpS : List Nat → List Nat → Option (List (Nat × Nat))
  | [], [] => some []
  | a :: l, b :: r => match mpS l r with
    | some m => some ((a, b) :: m)
    | none => none
  | _, _ => none
def mpC (ca : ACa) : ACa → Option (List (Nat × Nat))
  | [] => some []
  | q :: l => match acaf ca q.1 q.2.1, mpC ca l with
    | some i, some r => some ((q.2.2, i) :: r)
    | _, _ => none
def amap (pids : List Nat) (σ σc : AS) : Option (List (Nat × Nat)) := match mpL σ.1 σc.1, mpS σc.2.1 σ.2.1, mpC σ.2.2.2.1 σc.2.2.2.1 with
  | some a, some b, some c => some (pids.map (fun i => (i, i)) ++ (a ++ (b ++ c)))
  | _, _, _ => none
def asubB (m : List (Nat × Nat)) (ev : AEv) (rl : ARl) (σc : AS) : Bool := m.all (fun q => Nat.beq (mfind m q.1) q.2) && (σc.2.2.1.all (fun q => vsub ev rl (mfind m q.1) q.2) && σc.2.2.2.2.1.all (fun q => dle ev rl (mfind m q.1) (mfind m q.2.1) q.2.2))
def rsum (ts : List (Int × Nat)) (ν : Nat → Value) : Int := match ts with
  | [] => 0
  | q :: l => q.1 * vI (ν q.2) + rsum l ν
/-- the most that a term may be -/
def tub (ev : AEv) (rl : ARl) (w : Int) (i : Nat) : Int := bif decide (0 ≤ w) then w * xhi ev rl i else w * xlo ev rl i
/-- the most of start's terms less the end's -/
def rub (ev : AEv) (rl : ARl) (m : List (Nat × Nat)) : List (Int × Nat) → List (Int × Nat) → Option Int
  | [], [] => some 0
  | s :: ss, e :: es => match rub ev rl m ss es with
    | none => none
    | some r => bif decide (s.1 = e.1) then (bif decide (0 ≤ s.1) then (match adif ev rl (mfind m e.2) 3 s.2 with
        | some d => some (s.1 * d + r)
        | none => none) else (match adif ev rl s.2 3 (mfind m e.2) with
        | some d => some (-s.1 * d + r)
        | none => none)) else some (tub ev rl s.1 s.2 + tub ev rl (-e.1) (mfind m e.2) + r)
  | _, _ => none
def rdec (ev : AEv) (rl : ARl) (m : List (Nat × Nat)) (sr : Option (Int × List (Int × Nat))) (d : CUT) : Bool := match sr with
  | none => true
  | some s => match rub ev rl m s.2 d.2.2.2 with
    | some r => decide (r + d.2.2.1 < s.1)
    | none => false
/-- arriving at a cut -/
def aarr (pids : List Nat) (sr : Option (Int × List (Int × Nat))) (d : CUT) (σ : AS) : Bool := match amap pids σ d.2.1 with
  | none => false
  | some m => asubB m σ.2.2.1 σ.2.2.2.2.1 d.2.1 && rdec σ.2.2.1 σ.2.2.2.2.1 m sr d
def rposB (d : CUT) : Bool := decide (d.2.2.2.foldr (fun q acc => tub d.2.1.2.2.1 d.2.1.2.2.2.2.1 q.1 q.2 + acc) 0 ≤ d.2.2.1)
section AZ5
variable {ZZ : ZZT} {G : KG} {ad : Nat → Nat} {T : List TE} {mk : List (Nat × Nat)} {w0 : va_W} {pin : List (Nat × Value)} {ν : Nat → Value} {ws : va_W}
variable {lv : ALv} {st : List Nat} {ev : AEv} {ca : ACa} {rl : ARl} {nx pc pc' : Nat}
theorem AG.ret {C : CE} {A : ALT} {μ : Nat → Value} {lw : List (Nat × Value)} {sw : List Value} (hA : A ∈ C.2.2.2.1) (h : AG G ad T C.2.2.2.2.1 w0 pin (lv, st, ev, ca, rl, nx) ν lw sw ws) (hp1 : ∀ j, j < C.1.length → (j, μ j) ∈ pin) (hp2 : ∀ j, j < C.2.1.length → (100 + j, μ (100 + j)) ∈ pin) (hl1 : C.1.length ≤ 50) (hl2 : C.2.1.length ≤ 100) (e : aretA C.1.length C.2.1.length A st ev ca rl = true) : ∃ r, sw = r.toList ∧ POST G ad T C μ w0 r ws ∧ ∃ v, resOK ad A.1 r v := by
  obtain ⟨h1, h2, h3⟩ := h
  unfold aretA at e
  cases hc : acas ca A.2.2.1 with
  | none => rw [hc] at e; cases e
  | some ps =>
    rw [hc] at e
    simp only [Bool.and_eq_true] at e
    obtain ⟨e1, e2, e3, e4⟩ := e
    obtain ⟨p1, p2⟩ := acas_ok _ _ hc
    obtain ⟨μ', hμ⟩ : ∃ μ' : Nat → Value, μ' = fun i => if i < 50 ∨ (100 ≤ i ∧ i < 200) then μ i else ν (arn (st.headD 0) ps i) := ⟨_, rfl⟩
    have m1 : ∀ i, i < 50 → μ' i = μ i := fun i hi => by rw [hμ]; exact if_pos (Or.inl hi)
    have m2 : ∀ i, 100 ≤ i → i < 200 → μ' i = μ i := fun i hi hj => by rw [hμ]; exact if_pos (Or.inr ⟨hi, hj⟩)
    have m3 : ∀ i, ¬ (i < 50 ∨ (100 ≤ i ∧ i < 200)) → μ' i = ν (arn (st.headD 0) ps i) := fun i hi => by rw [hμ]; exact if_neg hi
    have a50 : arn (st.headD 0) ps 50 = st.headD 0 := rfl
    have a1 : ∀ i, i ≠ 50 → i < 200 → arn (st.headD 0) ps i = i := by
      intro i hi hj
      unfold arn
      have e1 : Nat.beq i 50 = false := by
        cases e : Nat.beq i 50 with
        | false => rfl
        | true => have := Nat.eq_of_beq_eq_true e; omega
      rw [e1, show Nat.blt i 200 = true from Nat.ble_eq_true_of_le hj]
      rfl
    have a2 : ∀ n, arn (st.headD 0) ps (200 + n) = ps.getD n 0 := by
      intro n
      unfold arn
      have e1 : Nat.beq (200 + n) 50 = false := by
        cases e : Nat.beq (200 + n) 50 with
        | false => rfl
        | true => have := Nat.eq_of_beq_eq_true e; omega
      have e3 : Nat.blt (200 + n) 200 = false := by
        cases e : Nat.blt (200 + n) 200 with
        | false => rfl
        | true => have := blt_lt e; omega
      rw [e1, e3, Nat.add_sub_cancel_left]
      rfl
    have hv : ∀ i, vrefR C.1.length C.2.1.length i = true → μ' i = ν (arn (st.headD 0) ps i) := by
      intro i hi
      unfold vrefR at hi
      simp only [Bool.or_eq_true, Bool.and_eq_true] at hi
      rcases hi with hi | hi | ⟨hi, hj⟩ | hi
      · have hi := blt_lt hi
        rw [m1 i (by omega), a1 i (by omega) (by omega)]
        exact (h3.2.2.2.2.1 _ (hp1 i hi)).2.symm
      · have hi := Nat.eq_of_beq_eq_true hi
        exact m3 i (by omega)
      · have hi := Nat.le_of_ble_eq_true hi
        have hj := blt_lt hj
        rw [m2 i hi (by omega), a1 i (by omega) (by omega)]
        have := (h3.2.2.2.2.1 _ (hp2 (i - 100) (by omega))).2
        rw [show 100 + (i - 100) = i from by omega] at this
        exact this.symm
      · have hi := Nat.le_of_ble_eq_true hi
        exact m3 i (by omega)
    have hst : ∃ r, sw = r.toList ∧ resOK ad A.1 r (μ' 50) := by
      have h2 : sw = st.map ν := h2
      cases hA1 : A.1 with
      | none =>
        rw [hA1] at e1
        match st, e1, h2 with
        | [], _, h2 => exact ⟨none, h2, rfl⟩
      | some t =>
        rw [hA1] at e1
        match st, e1, h2, h3, hv with
        | [r], e1, h2, h3, hv =>
          refine ⟨some (ν r), h2, ?_⟩
          have : μ' 50 = ν r := hv 50 (by unfold vrefR; simp)
          rw [this]
          exact ⟨rfl, AK.sub h3 e1⟩
    obtain ⟨r, r1, r2⟩ := hst
    refine ⟨r, r1, ⟨A, hA, μ', m1, m2, r2, fun q hq => ?_, fun n q hq => ?_, fun q hq => ?_, h3.2.2.2.2.2.1, h3.2.2.2.2.2.2⟩, μ' 50, r2⟩
    · have := List.all_eq_true.mp e2 q hq
      rw [Bool.and_eq_true] at this
      rw [hv _ this.1]
      exact AK.sub h3 this.2
    · have e5 : μ' (200 + n) = ν (ps.getD n 0) := by rw [m3 _ (by omega), a2]
      rw [e5]
      exact ⟨AK.sub h3 (List.all_eq_true.mp e3 (q, n) (List.mem_zipIdx_iff_getElem?.mpr hq)), h3.2.2.1 _ (p2 n q hq)⟩
    · have := List.all_eq_true.mp e4 q hq
      simp only [Bool.and_eq_true] at this
      rw [hv _ this.1, hv _ this.2.1]
      exact AK.dl h3 this.2.2
theorem mpL_ok {lv : ALv} : ∀ (l : ALv) (r : List (Nat × Nat)), mpL lv l = some r → ∀ q ∈ l, ∃ i, (q.1, i, q.2.2) ∈ lv ∧ (q.2.1, i) ∈ r
  | [], r, h, q, hq => by cases hq
  | p :: l, r, h, q, hq => by
    unfold mpL at h
    cases h1 : alv2 lv p.1 with
    | none => rw [h1] at h; cases h
    | some z =>
      cases h2 : mpL lv l with
      | none => rw [h1, h2] at h; cases h
      | some r2 =>
        rw [h1, h2] at h
        cases hb : (z.2 == p.2.2) with
        | false => simp only [hb, cond_false] at h; cases h
        | true =>
          simp only [hb, cond_true] at h
          cases h
          rcases List.mem_cons.mp hq with e | hq
          · rw [e]
            have hz : z.2 = p.2.2 := by simpa using hb
            refine ⟨z.1, ?_, List.mem_cons_self⟩
            rw [← hz]
            exact alv2_mem lv _ z h1
          · obtain ⟨i, g1, g2⟩ := mpL_ok l r2 h2 q hq
            exact ⟨i, g1, List.mem_cons_of_mem _ g2⟩
theorem mpS_ok {f : Nat → Nat} : ∀ (a b : List Nat) (r : List (Nat × Nat)), mpS a b = some r → (∀ q ∈ r, f q.1 = q.2) → a.map f = b
  | [], [], r, h, _ => rfl
  | a :: l, b :: s, r, h, hf => by
    unfold mpS at h
    cases h1 : mpS l s with
    | none => rw [h1] at h; cases h
    | some m =>
      rw [h1] at h
      cases h
      rw [List.map_cons, hf _ List.mem_cons_self, mpS_ok l s m h1 (fun q hq => hf q (List.mem_cons_of_mem _ hq))]
  | [], b :: s, r, h, _ => by cases h
  | a :: l, [], r, h, _ => by cases h
theorem mpC_ok {ca : ACa} : ∀ (l : ACa) (r : List (Nat × Nat)), mpC ca l = some r → ∀ q ∈ l, ∃ i, (q.1, q.2.1, i) ∈ ca ∧ (q.2.2, i) ∈ r
  | [], r, h, q, hq => by cases hq
  | p :: l, r, h, q, hq => by
    unfold mpC at h
    cases h1 : acaf ca p.1 p.2.1 with
    | none => rw [h1] at h; cases h
    | some z =>
      cases h2 : mpC ca l with
      | none => rw [h1, h2] at h; cases h
      | some r2 =>
        rw [h1, h2] at h
        cases h
        rcases List.mem_cons.mp hq with e | hq
        · rw [e]
          exact ⟨z, acaf_mem ca _ _ z h1, List.mem_cons_self⟩
        · obtain ⟨i, g1, g2⟩ := mpC_ok l r2 h2 q hq
          exact ⟨i, g1, List.mem_cons_of_mem _ g2⟩
theorem mfind_pid {l : List (Nat × Nat)} : ∀ (pids : List Nat) (i : Nat), i ∈ pids → mfind (pids.map (fun i => (i, i)) ++ l) i = i
  | p :: ps, i, h => by
    show (bif Nat.beq p i then p else mfind (ps.map (fun i => (i, i)) ++ l) i) = i
    cases hb : Nat.beq p i with
    | true => exact Nat.eq_of_beq_eq_true hb
    | false =>
      rcases List.mem_cons.mp h with e | h
      · rw [e, Nat.beq_refl] at hb; cases hb
      · exact mfind_pid ps i h
theorem AG.sub {pids : List Nat} {σc : AS} {m : List (Nat × Nat)} {lw : List (Nat × Value)} {sw : List Value} (h : AG G ad T mk w0 pin (lv, st, ev, ca, rl, nx) ν lw sw ws) (hpin : ∀ q ∈ pin, q.1 ∈ pids) (hm : amap pids (lv, st, ev, ca, rl, nx) σc = some m) (hb : asubB m ev rl σc = true) : AG G ad T mk w0 pin σc (fun i => ν (mfind m i)) (σc.1.map (fun q => (q.1, ν (mfind m q.2.1)))) sw ws ∧ ∀ q ∈ σc.1.map (fun q => (q.1, ν (mfind m q.2.1))), q ∈ lw := by
  obtain ⟨lvc, stc, evc, cac, rlc, nxc⟩ := σc
  obtain ⟨h1, h2, h3⟩ := h
  have h3 : AK G ad T mk w0 pin (lv, st, ev, ca, rl, nx) ν ws := h3
  unfold asubB at hb
  simp only [Bool.and_eq_true, List.all_eq_true] at hb
  obtain ⟨b1, b2, b3⟩ := hb
  have hf : ∀ q ∈ m, mfind m q.1 = q.2 := fun q hq => Nat.eq_of_beq_eq_true (b1 q hq)
  unfold amap at hm
  cases c1 : mpL lv lvc with
  | none => simp only [c1] at hm; cases hm
  | some a =>
    cases c2 : mpS stc st with
    | none => simp only [c1, c2] at hm; cases hm
    | some b =>
      cases c3 : mpC ca cac with
      | none => simp only [c1, c2, c3] at hm; cases hm
      | some c =>
        simp only [c1, c2, c3] at hm
        have hm : pids.map (fun i => (i, i)) ++ (a ++ (b ++ c)) = m := Option.some.inj hm
        have ha : ∀ q ∈ a, q ∈ m := fun q hq => by rw [← hm]; exact List.mem_append_right _ (List.mem_append_left _ hq)
        have hbm : ∀ q ∈ b, q ∈ m := fun q hq => by rw [← hm]; exact List.mem_append_right _ (List.mem_append_right _ (List.mem_append_left _ hq))
        have hcm : ∀ q ∈ c, q ∈ m := fun q hq => by rw [← hm]; exact List.mem_append_right _ (List.mem_append_right _ (List.mem_append_right _ hq))
        have hL : ∀ q ∈ lvc, (q.1, mfind m q.2.1, q.2.2) ∈ lv := by
          intro q hq
          obtain ⟨i, g1, g2⟩ := mpL_ok lvc a c1 q hq
          have := hf _ (ha _ g2)
          rw [this]
          exact g1
        have hC : ∀ q ∈ cac, (q.1, q.2.1, mfind m q.2.2) ∈ ca := by
          intro q hq
          obtain ⟨i, g1, g2⟩ := mpC_ok cac c c3 q hq
          have := hf _ (hcm _ g2)
          rw [this]
          exact g1
        refine ⟨⟨rfl, ?_, fun q hq => ?_, fun q hq => ?_, fun q hq => ?_, fun q hq => ?_, fun q hq => ⟨(h3.2.2.2.2.1 q hq).1, ?_⟩, h3.2.2.2.2.2⟩, fun q hq => ?_⟩
        · have h2 : sw = st.map ν := h2
          show sw = stc.map (fun i => ν (mfind m i))
          rw [h2, ← mpS_ok (f := mfind m) stc st b c2 (fun q hq => hf _ (hbm _ hq)), List.map_map]
          rfl
        · exact h3.1 _ (hL q hq)
        · exact h3.sub (b2 q hq)
        · exact h3.2.2.1 _ (hC q hq)
        · exact h3.dl (b3 q hq)
        · show ν (mfind m q.1) = q.2
          rw [← hm, mfind_pid pids q.1 (hpin q hq)]
          exact (h3.2.2.2.2.1 q hq).2
        · obtain ⟨q0, hq0, rfl⟩ := List.mem_map.mp hq
          rw [h1]
          exact List.mem_map.mpr ⟨_, hL q0 hq0, rfl⟩
theorem AK.sTub (h : AK G ad T mk w0 pin (lv, st, ev, ca, rl, nx) ν ws) (w : Int) (i : Nat) : w * vI (ν i) ≤ tub ev rl w i := by
  show w * vI (ν i) ≤ bif decide (0 ≤ w) then w * xhi ev rl i else w * xlo ev rl i
  by_cases hw : 0 ≤ w
  · rw [decide_eq_true hw]
    exact Int.mul_le_mul_of_nonneg_left (h.hi2 i) hw
  · rw [decide_eq_false hw]
    exact Int.mul_le_mul_of_nonpos_left (by omega) (h.lo2 i)
theorem AK.sRub (h : AK G ad T mk w0 pin (lv, st, ev, ca, rl, nx) ν ws) {m : List (Nat × Nat)} : ∀ (ss es : List (Int × Nat)) (r : Int), rub ev rl m ss es = some r → rsum ss ν - rsum es (fun i => ν (mfind m i)) ≤ r
  | [], [], r, e => by
    cases e
    show (0 : Int) - 0 ≤ 0
    omega
  | s :: ss, e :: es, r, he => by
    unfold rub at he
    cases h1 : rub ev rl m ss es with
    | none => rw [h1] at he; cases he
    | some r1 =>
      have ih := AK.sRub h ss es r1 h1
      rw [h1] at he
      show s.1 * vI (ν s.2) + rsum ss ν - (e.1 * vI (ν (mfind m e.2)) + rsum es (fun i => ν (mfind m i))) ≤ r
      by_cases hw : s.1 = e.1
      · simp only [decide_eq_true hw, cond_true] at he
        rw [← hw]
        by_cases h0 : 0 ≤ s.1
        · simp only [decide_eq_true h0, cond_true] at he
          cases h2 : adif ev rl (mfind m e.2) 3 s.2 with
          | none => rw [h2] at he; cases he
          | some d =>
            rw [h2] at he
            cases he
            have h3 := h.dif h2
            have h4 := Int.mul_le_mul_of_nonneg_left h3 h0
            rw [Int.mul_sub] at h4
            omega
        · simp only [decide_eq_false h0, cond_false] at he
          cases h2 : adif ev rl s.2 3 (mfind m e.2) with
          | none => rw [h2] at he; cases he
          | some d =>
            rw [h2] at he
            cases he
            have h3 := h.dif h2
            have h4 := Int.mul_le_mul_of_nonneg_left h3 (show 0 ≤ -s.1 by omega)
            rw [Int.mul_sub, Int.neg_mul, Int.neg_mul] at h4
            omega
      · simp only [decide_eq_false hw, cond_false] at he
        cases he
        have h3 := h.sTub s.1 s.2
        have h4 := h.sTub (-e.1) (mfind m e.2)
        rw [Int.neg_mul] at h4
        omega
  | [], e :: es, r, he => by cases he
  | s :: ss, [], r, he => by cases he
end AZ5
end
section
/-! the instructions, over Z -/
abbrev ZF (p : Program) (l : Launch) (e : Env) (R : Room) (s : State) (m : MethodId) (args : Array Value) (below : List Frame) (meth : Method) (c : Code) (nL : Nat) (G : KG) (A : Nat → Prop) (Q : State → Prop) (kc ks : Nat) : ZZT := fun pc lv st ws => Z p l e R s m args below meth c nL G A Q pc lv st ws kc ks
def fits32 (a b : Int) : Bool := decide (iMin ≤ a) && decide (b ≤ iMax)
def bop : Instr → Value → Value → Value
  | .iadd, .int x, .int y => .int (x + y)
  | .isub, .int x, .int y => .int (x - y)
  | .imul, .int x, .int y => .int (x * y)
  | .iand, .int x, .int y => .int (x &&& y)
  | .ior, .int x, .int y => .int (x ||| y)
  | .ixor, .int x, .int y => .int (x ^^^ y)
  | .ishl, .int x, .int y => .int (x <<< (y &&& 31))
  | .ishr, .int x, .int y => .int (x >>> (y &&& 31))
  | .iushr, .int x, .int y => .int ((x.toUInt32 >>> (y.toUInt32 &&& Int32.toUInt32 31)).toInt32)
  | .idiv, .int x, .int y => .int (x / y)
  | .irem, .int x, .int y => .int (x - x / y * y)
  | .ladd, .long x, .long y => .long (x + y)
  | .lsub, .long x, .long y => .long (x - y)
  | .lmul, .long x, .long y => .long (x * y)
  | .land, .long x, .long y => .long (x &&& y)
  | .lor, .long x, .long y => .long (x ||| y)
  | .lxor, .long x, .long y => .long (x ^^^ y)
  | .ldiv, .long x, .long y => .long (x / y)
  | .lrem, .long x, .long y => .long (x - x / y * y)
  | .lshl, .long x, .int y => .long (x <<< (y.toInt64 &&& 63))
  | .lushr, .long x, .int y => .long ((x.toUInt64 >>> (y.toInt64.toUInt64 &&& Int64.toUInt64 63)).toInt64)
  | _, _, _ => .null
def uop : Instr → Value → Value
  | .ineg, .int x => .int (-x)
  | .lneg, .long x => .long (-x)
  | .i2l, .int x => .long x.toInt64
  | .l2i, .long x => .int x.toInt32
  | .i2b, .int x => .int x.toInt8.toInt32
  | .i2s, .int x => .int x.toInt16.toInt32
  | _, _ => .null
/-- a divisor that is not 0 -/
def anz (ev : AEv) (rl : ARl) (y : Nat) : Bool := decide (0 < xlo ev rl y) || decide (xhi ev rl y < 0)
def orT (lx hx ly hy : Int) : VT := bif decide (0 ≤ lx) && decide (0 ≤ ly) then (0, 0, ((2 ^ (Nat.log2 (max hx.toNat hy.toNat) + 1) : Nat) : Int) - 1) else tI0
def shlT (lx hx ly hy : Int) : VT := bif decide (0 ≤ lx) && (decide (0 ≤ ly) && decide (hy ≤ 30)) then fitI (lx * ((2 ^ ly.toNat : Nat) : Int)) (hx * ((2 ^ hy.toNat : Nat) : Int)) else tI0
def shrT (lx hx ly hy : Int) : VT := bif decide (0 ≤ lx) && (decide (0 ≤ ly) && decide (hy ≤ 31)) then (0, 0, hx / ((2 ^ ly.toNat : Nat) : Int)) else tI0
def divT (lx hx ly hy : Int) : VT := bif decide (0 ≤ lx) && decide (0 < ly) then (0, lx / hy, hx / ly) else tI0
def remT (lx hx ly hy : Int) : VT := bif decide (0 ≤ lx) && decide (0 < ly) then (bif decide (lx = hx) && decide (ly = hy) then (0, lx % ly, lx % ly) else (0, 0, hy - 1)) else tI0
def sublo (ev : AEv) (rl : ARl) (x y : Nat) : Int := match adif ev rl x 3 y with
  | some d => max (xlo ev rl x - xhi ev rl y) (-d)
  | none => xlo ev rl x - xhi ev rl y
def subhi (ev : AEv) (rl : ARl) (x y : Nat) : Int := match adif ev rl y 3 x with
  | some d => min (xhi ev rl x - xlo ev rl y) d
  | none => xhi ev rl x - xlo ev rl y
def fitL (a b : Int) : VT := bif decide (lMin ≤ a) && decide (b ≤ lMax) then (1, a, b) else tL0
def mulLo (lx hx ly hy : Int) : Int := min (min (lx * ly) (lx * hy)) (min (hx * ly) (hx * hy))
def mulHi (lx hx ly hy : Int) : Int := max (max (lx * ly) (lx * hy)) (max (hx * ly) (hx * hy))
def abinT (i : Instr) (ev : AEv) (rl : ARl) (x y nx : Nat) : Option (Nat × Nat × VT × ARl) := match i with
  | .iadd => some (0, 0, fitI (xlo ev rl x + xlo ev rl y) (xhi ev rl x + xhi ev rl y), mnz (fits32 (xlo ev rl x + xlo ev rl y) (xhi ev rl x + xhi ev rl y)) (mnz (decide (xlo ev rl y = xhi ev rl y)) [(nx, x, xhi ev rl y), (x, nx, -xlo ev rl y)] ++ mnz (decide (xlo ev rl x = xhi ev rl x)) [(nx, y, xhi ev rl x), (y, nx, -xlo ev rl x)] ++ [(x, nx, -xlo ev rl y), (y, nx, -xlo ev rl x)]))
  | .isub => some (0, 0, fitI (sublo ev rl x y) (subhi ev rl x y), mnz (fits32 (sublo ev rl x y) (subhi ev rl x y)) (mnz (decide (xlo ev rl y = xhi ev rl y)) [(nx, x, -xlo ev rl y), (x, nx, xhi ev rl y)]))
  | .imul => some (0, 0, (bif decide (0 ≤ xlo ev rl x) && decide (0 ≤ xlo ev rl y) then fitI (xlo ev rl x * xlo ev rl y) (xhi ev rl x * xhi ev rl y) else tI0), [])
  | .iand => some (0, 0, (bif decide (0 ≤ xlo ev rl y) then (0, 0, xhi ev rl y) else bif decide (0 ≤ xlo ev rl x) then (0, 0, xhi ev rl x) else tI0), [])
  | .idiv => bif anz ev rl y then some (0, 0, divT (xlo ev rl x) (xhi ev rl x) (xlo ev rl y) (xhi ev rl y), []) else none
  | .irem => bif anz ev rl y then some (0, 0, remT (xlo ev rl x) (xhi ev rl x) (xlo ev rl y) (xhi ev rl y), []) else none
  | .ldiv => bif anz ev rl y then some (1, 1, tL0, []) else none
  | .lrem => bif anz ev rl y then some (1, 1, tL0, []) else none
  | .ior => some (0, 0, orT (xlo ev rl x) (xhi ev rl x) (xlo ev rl y) (xhi ev rl y), [])
  | .ishl => some (0, 0, shlT (xlo ev rl x) (xhi ev rl x) (xlo ev rl y) (xhi ev rl y), [])
  | .ishr => some (0, 0, shrT (xlo ev rl x) (xhi ev rl x) (xlo ev rl y) (xhi ev rl y), [])
  | .ixor => some (0, 0, tI0, [])
  | .iushr => some (0, 0, tI0, [])
  | .ladd => some (1, 1, fitL (xlo ev rl x + xlo ev rl y) (xhi ev rl x + xhi ev rl y), [])
  | .lsub => some (1, 1, fitL (xlo ev rl x - xhi ev rl y) (xhi ev rl x - xlo ev rl y), [])
  | .lmul => some (1, 1, fitL (mulLo (xlo ev rl x) (xhi ev rl x) (xlo ev rl y) (xhi ev rl y)) (mulHi (xlo ev rl x) (xhi ev rl x) (xlo ev rl y) (xhi ev rl y)), [])
  | .land => some (1, 1, tL0, [])
  | .lor => some (1, 1, tL0, [])
  | .lxor => some (1, 1, tL0, [])
  | .lshl => some (1, 0, tL0, [])
  | .lushr => some (1, 0, tL0, [])
  | _ => none
def negL (lo hi : Int) : VT := bif decide (lMin < lo) then (1, -hi, -lo) else bif decide (hi = lMin) then (1, lMin, lMin) else tL0
def aunT (i : Instr) (ev : AEv) (rl : ARl) (x nx : Nat) : Option (Nat × VT × ARl) := match i with
  | .ineg => some (0, fitI (-xhi ev rl x) (-xlo ev rl x), [])
  | .lneg => some (1, negL (xlo ev rl x) (xhi ev rl x), [])
  | .i2l => some (0, (1, xlo ev rl x, xhi ev rl x), [(nx, x, 0), (x, nx, 0)])
  | .l2i => some (1, tI0, [])
  | .i2b => some (0, tI0, [])
  | .i2s => some (0, tI0, [])
  | _ => none
theorem and_bd {x y : Int32} (hy : 0 ≤ y.toInt) : 0 ≤ (x &&& y).toInt ∧ (x &&& y).toInt ≤ y.toInt := by
  have e1 : (x &&& y).toBitVec = x.toBitVec &&& y.toBitVec := rfl
  have hyn : y.toBitVec.toInt = (y.toBitVec.toNat : Int) := by
    have h0 : 0 ≤ y.toBitVec.toInt := hy
    rw [BitVec.toInt_eq_toNat_cond] at h0 ⊢
    split
    · rfl
    · rename_i h
      rw [if_neg h] at h0
      have := y.toBitVec.isLt
      omega
  have hlt : 2 * y.toBitVec.toNat < 2 ^ 32 := by
    have h0 : y.toBitVec.toInt = (y.toBitVec.toNat : Int) := hyn
    rw [BitVec.toInt_eq_toNat_cond] at h0
    split at h0
    · assumption
    · have := y.toBitVec.isLt
      omega
  have hle : (x.toBitVec &&& y.toBitVec).toNat ≤ y.toBitVec.toNat := by
    rw [BitVec.toNat_and]
    exact Nat.and_le_right
  have h2 : (x &&& y).toInt = ((x.toBitVec &&& y.toBitVec).toNat : Int) := by
    show (x &&& y).toBitVec.toInt = _
    rw [e1, BitVec.toInt_eq_toNat_cond, if_pos (by omega)]
  have h3 : y.toInt = (y.toBitVec.toNat : Int) := hyn
  rw [h2, h3]
  omega
theorem i32_nn {x : Int32} (h : 0 ≤ x.toInt) : x.toInt = (x.toBitVec.toNat : Int) ∧ x.toBitVec.toNat < 2 ^ 31 := by
  have h0 : 0 ≤ x.toBitVec.toInt := h
  have e : x.toBitVec.toInt = (x.toBitVec.toNat : Int) ∧ x.toBitVec.toNat < 2 ^ 31 := by
    rw [BitVec.toInt_eq_toNat_cond] at h0 ⊢
    have := x.toBitVec.isLt
    by_cases c : 2 * x.toBitVec.toNat < 2 ^ 32
    · rw [if_pos c]; exact ⟨rfl, by omega⟩
    · rw [if_neg c] at h0; omega
  exact e
theorem i32_of {x : Int32} {n : Nat} (h : x.toBitVec.toNat = n) (hn : n < 2 ^ 31) : x.toInt = (n : Int) := by
  show x.toBitVec.toInt = _
  rw [BitVec.toInt_eq_toNat_cond, if_pos (by omega), h]
theorem or_bd {x y : Int32} {k : Nat} (hx : 0 ≤ x.toInt) (hy : 0 ≤ y.toInt) (h1 : x.toInt < ((2 ^ k : Nat) : Int)) (h2 : y.toInt < ((2 ^ k : Nat) : Int)) : 0 ≤ (x ||| y).toInt ∧ (x ||| y).toInt < ((2 ^ k : Nat) : Int) := by
  obtain ⟨a1, a2⟩ := i32_nn hx
  obtain ⟨b1, b2⟩ := i32_nn hy
  have e1 : (x ||| y).toBitVec.toNat = x.toBitVec.toNat ||| y.toBitVec.toNat := by
    show (x.toBitVec ||| y.toBitVec).toNat = _
    rw [BitVec.toNat_or]
  have l1 : x.toBitVec.toNat ||| y.toBitVec.toNat < 2 ^ 31 := Nat.or_lt_two_pow a2 b2
  have l2 : x.toBitVec.toNat ||| y.toBitVec.toNat < 2 ^ k := Nat.or_lt_two_pow (by omega) (by omega)
  rw [i32_of e1 l1]
  omega
theorem sl_n : ∀ n, n < 32 → ((nI n &&& 31).toBitVec.smod 32).toNat = n := by decide +kernel
theorem i32_nI {x : Int32} (h : 0 ≤ x.toInt) : x = nI x.toInt.toNat := by
  obtain ⟨a1, a2⟩ := i32_nn h
  exact Int32.toInt_inj.mp (by rw [tI_nI (by omega)]; omega)
theorem shl_eq {x y : Int32} (hx : 0 ≤ x.toInt) (hy : 0 ≤ y.toInt) (h30 : y.toInt ≤ 30) (hb : x.toInt * ((2 ^ y.toInt.toNat : Nat) : Int) < 2147483648) : (x <<< (y &&& 31)).toInt = x.toInt * ((2 ^ y.toInt.toNat : Nat) : Int) := by
  have ey := i32_nI hy
  have ex := i32_nI hx
  have hk : y.toInt.toNat < 32 := by omega
  have e0 : (x.toInt.toNat : Int) = x.toInt := by omega
  have hm : ((x.toInt.toNat * 2 ^ y.toInt.toNat : Nat) : Int) = x.toInt * ((2 ^ y.toInt.toNat : Nat) : Int) := by rw [Int.natCast_mul, e0]
  have e1 : nI x.toInt.toNat <<< (nI y.toInt.toNat &&& 31) = nI (x.toInt.toNat * 2 ^ y.toInt.toNat) := pk_shlN _ _ (sl_n _ hk) (by omega)
  have e2 : x <<< (y &&& 31) = nI (x.toInt.toNat * 2 ^ y.toInt.toNat) := by
    rw [← e1, ← ex, ← ey]
  rw [e2, tI_nI (by omega), hm]
theorem shr_bd {x y : Int32} {ly : Nat} (hx : 0 ≤ x.toInt) (hy : (ly : Int) ≤ y.toInt) (h31 : y.toInt ≤ 31) : 0 ≤ (x >>> (y &&& 31)).toInt ∧ (x >>> (y &&& 31)).toInt ≤ x.toInt / ((2 ^ ly : Nat) : Int) := by
  have ey := i32_nI (x := y) (by omega)
  obtain ⟨a1, a2⟩ := i32_nn hx
  have hk : y.toInt.toNat < 32 := by omega
  have e1 : (x >>> (y &&& 31)).toInt = x.toInt >>> y.toInt.toNat := by
    have e3 : (x >>> (y &&& 31)).toBitVec = x.toBitVec.sshiftRight ((y &&& 31).toBitVec.smod 32).toNat := rfl
    show (x >>> (y &&& 31)).toBitVec.toInt = _
    have e4 : ((y &&& 31).toBitVec.smod 32).toNat = y.toInt.toNat := by
      have := sl_n y.toInt.toNat hk
      rw [← ey] at this
      exact this
    rw [e3, e4, BitVec.toInt_sshiftRight]
    rfl
  rw [e1, Int.shiftRight_eq_div_pow]
  have h2 : ((2 ^ ly : Nat) : Int) ≤ ((2 ^ y.toInt.toNat : Nat) : Int) := Int.ofNat_le.mpr (Nat.pow_le_pow_right (by decide) (by omega))
  have h3 : (0 : Int) < ((2 ^ ly : Nat) : Int) := Int.natCast_pos.mpr (Nat.pow_pos (by decide))
  refine ⟨Int.ediv_nonneg hx (by omega), ?_⟩
  have hq : 0 ≤ x.toInt / ((2 ^ y.toInt.toNat : Nat) : Int) := Int.ediv_nonneg hx (by omega)
  refine (Int.le_ediv_iff_mul_le h3).mpr ?_
  exact Int.le_trans (Int.mul_le_mul_of_nonneg_left h2 hq) (Int.ediv_mul_le _ (by omega))
theorem i32_div {a b : Int32} (ha : 0 ≤ a.toInt) (hb : 0 < b.toInt) : (a / b).toInt = a.toInt / b.toInt := by
  have h1 := Int.ediv_nonneg ha (Int.le_of_lt hb)
  have h2 := Int.ediv_le_self b.toInt ha
  have h3 := i32_hi a
  unfold iMax at h3
  rw [Int32.toInt_div, Int.tdiv_eq_ediv_of_nonneg ha]
  exact b32 (by omega) (by omega)
theorem divT_ok {ad : Nat → Nat} {a b : Int32} {lx hx ly hy : Int} (l1 : lx ≤ a.toInt) (l2 : a.toInt ≤ hx) (l3 : ly ≤ b.toInt) (l4 : b.toInt ≤ hy) : vty ad (divT lx hx ly hy) (.int (a / b)) := by
  unfold divT
  cases e : (decide (0 ≤ lx) && decide (0 < ly)) with
  | false => exact vty_i0 _
  | true =>
    rw [Bool.and_eq_true, decide_eq_true_eq, decide_eq_true_eq] at e
    have hb : 0 < b.toInt := by omega
    have h1 := Int.ediv_nonneg (show 0 ≤ a.toInt by omega) (Int.le_of_lt hb)
    have e1 := i32_div (show 0 ≤ a.toInt by omega) hb
    have k1 : 0 ≤ lx / hy := Int.ediv_nonneg e.1 (by omega)
    have k2 := Int.mul_le_mul_of_nonneg_left l4 k1
    have k3 := Int.ediv_mul_le lx (show hy ≠ 0 by omega)
    refine vty_i (by rw [e1]; exact (Int.le_ediv_iff_mul_le hb).mpr (by omega)) ?_
    rw [e1]
    refine (Int.le_ediv_iff_mul_le e.2).mpr ?_
    have h2 := Int.mul_le_mul_of_nonneg_left l3 h1
    have h3 := Int.ediv_mul_le a.toInt (show b.toInt ≠ 0 by omega)
    omega
theorem fitL_ok {ad : Nat → Nat} {a b : Int} {x : Int64} (h : lMin ≤ a → b ≤ lMax → a ≤ x.toInt ∧ x.toInt ≤ b) : vty ad (fitL a b) (.long x) := by
  unfold fitL
  cases e : (decide (lMin ≤ a) && decide (b ≤ lMax)) with
  | false => exact vty_l0 x
  | true =>
    rw [Bool.and_eq_true, decide_eq_true_eq, decide_eq_true_eq] at e
    exact vty_l (h e.1 e.2).1 (h e.1 e.2).2
theorem ladd_ok {ad : Nat → Nat} {a b : Int64} {lx hx ly hy : Int} (l1 : lx ≤ a.toInt) (l2 : a.toInt ≤ hx) (l3 : ly ≤ b.toInt) (l4 : b.toInt ≤ hy) : vty ad (fitL (lx + ly) (hx + hy)) (.long (a + b)) := by
  refine fitL_ok (fun h1 h2 => ?_)
  unfold lMin at h1
  unfold lMax at h2
  rw [Int64.toInt_add, b64 (by omega) (by omega)]
  omega
theorem lsub_ok {ad : Nat → Nat} {a b : Int64} {lx hx ly hy : Int} (l1 : lx ≤ a.toInt) (l2 : a.toInt ≤ hx) (l3 : ly ≤ b.toInt) (l4 : b.toInt ≤ hy) : vty ad (fitL (lx - hy) (hx - ly)) (.long (a - b)) := by
  refine fitL_ok (fun h1 h2 => ?_)
  unfold lMin at h1
  unfold lMax at h2
  rw [Int64.toInt_sub, b64 (by omega) (by omega)]
  omega
theorem mul_corner {a b lx hx ly hy : Int} (l1 : lx ≤ a) (l2 : a ≤ hx) (l3 : ly ≤ b) (l4 : b ≤ hy) : mulLo lx hx ly hy ≤ a * b ∧ a * b ≤ mulHi lx hx ly hy := by
  unfold mulLo mulHi
  have one : ∀ c : Int, min (c * ly) (c * hy) ≤ c * b ∧ c * b ≤ max (c * ly) (c * hy) := by
    intro c
    rcases Int.le_total 0 c with h | h
    · have h1 := Int.mul_le_mul_of_nonneg_left l3 h
      have h2 := Int.mul_le_mul_of_nonneg_left l4 h
      omega
    · have h1 := Int.mul_le_mul_of_nonpos_left h l3
      have h2 := Int.mul_le_mul_of_nonpos_left h l4
      omega
  have p1 := one lx
  have p2 := one hx
  rcases Int.le_total 0 b with h | h
  · have h1 := Int.mul_le_mul_of_nonneg_right l1 h
    have h2 := Int.mul_le_mul_of_nonneg_right l2 h
    omega
  · have h1 := Int.mul_le_mul_of_nonpos_right l1 h
    have h2 := Int.mul_le_mul_of_nonpos_right l2 h
    omega
theorem lmul_ok {ad : Nat → Nat} {a b : Int64} {lx hx ly hy : Int} (l1 : lx ≤ a.toInt) (l2 : a.toInt ≤ hx) (l3 : ly ≤ b.toInt) (l4 : b.toInt ≤ hy) : vty ad (fitL (mulLo lx hx ly hy) (mulHi lx hx ly hy)) (.long (a * b)) := by
  refine fitL_ok (fun h1 h2 => ?_)
  have hm := mul_corner l1 l2 l3 l4
  unfold lMin at h1
  unfold lMax at h2
  rw [Int64.toInt_mul, b64 (by omega) (by omega)]
  exact hm
theorem remT_ok {ad : Nat → Nat} {a b : Int32} {lx hx ly hy : Int} (l1 : lx ≤ a.toInt) (l2 : a.toInt ≤ hx) (l3 : ly ≤ b.toInt) (l4 : b.toInt ≤ hy) : vty ad (remT lx hx ly hy) (.int (a - a / b * b)) := by
  unfold remT
  cases e : (decide (0 ≤ lx) && decide (0 < ly)) with
  | false => exact vty_i0 _
  | true =>
    rw [Bool.and_eq_true, decide_eq_true_eq, decide_eq_true_eq] at e
    have hb : 0 < b.toInt := by omega
    have ha : 0 ≤ a.toInt := by omega
    have h1 := Int.ediv_nonneg ha (Int.le_of_lt hb)
    have e1 := i32_div ha hb
    have h3 := Int.ediv_mul_le a.toInt (show b.toInt ≠ 0 by omega)
    have h0 : 0 ≤ a.toInt / b.toInt * b.toInt := Int.mul_nonneg h1 (Int.le_of_lt hb)
    have h4 := i32_hi a
    unfold iMax at h4
    have e2 : (a / b * b).toInt = a.toInt / b.toInt * b.toInt := tI_mul e1 rfl (by omega)
    have e3 : (a - a / b * b).toInt = a.toInt - a.toInt / b.toInt * b.toInt := tI_sub rfl e2 (by omega)
    have h5 : a.toInt - a.toInt / b.toInt * b.toInt = a.toInt % b.toInt := by
      have := Int.emod_def a.toInt b.toInt
      rw [this, Int.mul_comm]
    have h6 := Int.emod_nonneg a.toInt (show b.toInt ≠ 0 by omega)
    have h7 := Int.emod_lt_of_pos a.toInt hb
    show vty ad (bif decide (lx = hx) && decide (ly = hy) then (0, lx % ly, lx % ly) else (0, 0, hy - 1)) _
    cases e9 : (decide (lx = hx) && decide (ly = hy)) with
    | false => exact vty_i (by rw [e3, h5]; exact h6) (by rw [e3, h5]; omega)
    | true =>
      rw [Bool.and_eq_true, decide_eq_true_eq, decide_eq_true_eq] at e9
      have ea : a.toInt = lx := by omega
      have eb : b.toInt = ly := by omega
      rw [ea, eb] at h5 e3
      exact vty_i (by rw [e3, h5]; exact Int.le_refl _) (by rw [e3, h5]; exact Int.le_refl _)
section AZ6
variable {G : KG} {ad : Nat → Nat} {T : List TE} {mk : List (Nat × Nat)} {w0 : va_W} {pin : List (Nat × Value)} {ZZ : ZZT}
variable {lv : ALv} {st : List Nat} {ev : AEv} {ca : ACa} {rl : ARl} {nx pc pc' : Nat}
theorem az_binR {RR : Value → Value → Prop} {op : Value → Value → Value} {kx ky : Nat} (hk : kx ≤ 2 ∧ ky ≤ 2) (row : ∀ (vx vy : Value) (lw : List (Nat × Value)) (rest : List Value) (ws : va_W), tagv kx vx → tagv ky vy → RR vx vy → ZZ pc' lw (op vx vy :: rest) ws → ZZ pc lw (vy :: vx :: rest) ws) {x y : Nat} (hx : (aty ev x).1 = kx) (hy : (aty ev y).1 = ky) (hf : afr (lv, y :: x :: st, ev, ca, rl, nx) = true) {t : VT} {nr : ARl}
    (ht : ∀ (ν : Nat → Value) (ws : va_W), AK G ad T mk w0 pin (lv, st, ev, ca, rl, nx) ν ws → tagv kx (ν x) → tagv ky (ν y) → RR (ν x) (ν y) ∧ vty ad t (op (ν x) (ν y)) ∧ ∀ q ∈ nr, vI (nup ν nx (op (ν x) (ν y)) q.1) ≤ vI (nup ν nx (op (ν x) (ν y)) q.2.1) + q.2.2)
    (k : AZ ZZ G ad T mk w0 pin (lv, nx :: st, (nx, t) :: ev, ca, nr ++ rl, nx + 1) pc') : AZ ZZ G ad T mk w0 pin (lv, y :: x :: st, ev, ca, rl, nx) pc := by
  intro ν lw sw ws h
  obtain ⟨h1, h2, h3⟩ := h
  have h3 : AK G ad T mk w0 pin (lv, st, ev, ca, rl, nx) ν ws := h3
  have tx := h3.tag hx hk.1
  have ty := h3.tag hy hk.2
  have h2' : sw = ν y :: ν x :: st.map ν := h2
  rw [h2']
  obtain ⟨q0, q1, q2⟩ := ht ν ws h3 tx ty
  exact row _ _ lw _ ws tx ty q0 (k _ _ _ _ (AG.push (st := st) ⟨h1, rfl, h3⟩ (afr_pop (afr_pop hf)) q1 q2))
theorem AK.nz {ν : Nat → Value} {ws : va_W} (h : AK G ad T mk w0 pin (lv, st, ev, ca, rl, nx) ν ws) {y : Nat} (e : anz ev rl y = true) : vI (ν y) ≠ 0 := by
  unfold anz at e
  rw [Bool.or_eq_true, decide_eq_true_eq, decide_eq_true_eq] at e
  have h1 := h.lo2 y
  have h2 := h.hi2 y
  omega
theorem fitI_ok {ad : Nat → Nat} {a b : Int} {x : Int32} (h : fits32 a b = true → a ≤ x.toInt ∧ x.toInt ≤ b) : vty ad (fitI a b) (.int x) := by
  unfold fitI
  cases e : (decide (iMin ≤ a) && decide (b ≤ iMax)) with
  | false => exact vty_i0 x
  | true => exact vty_i (h e).1 (h e).2
theorem mnz_ok {b : Bool} {r : ARl} {P : Nat × Nat × Int → Prop} (h : b = true → ∀ q ∈ r, P q) : ∀ q ∈ mnz b r, P q := by
  intro q hq
  unfold mnz at hq
  cases b with
  | false => cases hq
  | true => exact h rfl q hq
theorem mnz_app {a b : ARl} {P : Nat × Nat × Int → Prop} (h1 : ∀ q ∈ a, P q) (h2 : ∀ q ∈ b, P q) : ∀ q ∈ a ++ b, P q := fun q hq => (List.mem_append.mp hq).elim (h1 q) (h2 q)
theorem rel22 {μ : Nat → Value} {a b u w : Nat} {c1 c2 : Int} (h1 : vI (μ a) ≤ vI (μ b) + c1) (h2 : vI (μ u) ≤ vI (μ w) + c2) : ∀ q ∈ [(a, b, c1), (u, w, c2)], vI (μ q.1) ≤ vI (μ q.2.1) + q.2.2 := by
  intro q hq
  rcases List.mem_cons.mp hq with e | hq
  · rw [e]; exact h1
  · rw [List.mem_singleton.mp hq]; exact h2
theorem rel2 {μ : Nat → Value} {u w : Nat} {c1 c2 : Int} (h1 : vI (μ u) ≤ vI (μ w) + c1) (h2 : vI (μ w) ≤ vI (μ u) + c2) : ∀ q ∈ [(u, w, c1), (w, u, c2)], vI (μ q.1) ≤ vI (μ q.2.1) + q.2.2 := by
  intro q hq
  rcases List.mem_cons.mp hq with e | hq
  · rw [e]; exact h1
  · rw [List.mem_singleton.mp hq]; exact h2
end AZ6
section AZ7
variable {p : Program} {l : Launch} {e : Env} {R : Room} {s : State} {m : MethodId} {args : Array Value} {below : List Frame} {meth : Method} {c : Code} {nL : Nat} {G : KG} {A : Nat → Prop} {Q : State → Prop} {cc : ByteArray} {own : String} {ret : Option FieldType} {nm : String} {kc ks : Nat}
variable {ad : Nat → Nat} {T : List TE} {mk : List (Nat × Nat)} {w0 : va_W} {pin : List (Nat × Value)}
variable {lv : ALv} {st : List Nat} {ev : AEv} {ca : ACa} {rl : ARl} {nx pc : Nat}
set_option maxHeartbeats 2000000 in
theorem s_bin (X : ZC p s m args meth c cc nL own G A ret nm) {i : Instr} {x y kx ky : Nat} {t : VT} {nr : ARl} (hdg : decode cc pc = .ok (i, 1)) (he : abinT i ev rl x y nx = some (kx, ky, t, nr)) (hx : (aty ev x).1 = kx) (hy : (aty ev y).1 = ky) (hf : afr (lv, y :: x :: st, ev, ca, rl, nx) = true)
    (k : AZ (ZF p l e R s m args below meth c nL G A Q kc ks) G ad T mk w0 pin (lv, nx :: st, (nx, t) :: ev, ca, nr ++ rl, nx + 1) (pc + 1)) : AZ (ZF p l e R s m args below meth c nL G A Q kc ks) G ad T mk w0 pin (lv, y :: x :: st, ev, ca, rl, nx) pc := by
  have hxn : x < nx := (afr_ok hf).2.2.1 x (List.mem_cons_of_mem _ List.mem_cons_self)
  have hyn : y < nx := (afr_ok hf).2.2.1 y List.mem_cons_self
  cases i with
  | ixor =>
    simp only [abinT, Option.some.injEq, Prod.mk.injEq] at he
    obtain ⟨rfl, rfl, rfl, rfl⟩ := he
    exact az_bin (op := bop .ixor) ⟨by decide, by decide⟩ (by rintro _ _ lw rest ws ⟨a, rfl⟩ ⟨b, rfl⟩ kz; exact z_ixor X hdg kz) hx hy hf (by rintro ν ws h ⟨a, ha⟩ ⟨b, hb⟩; rw [ha, hb]; exact ⟨vty_i0 _, fun q hq => by cases hq⟩) k
  | iushr =>
    simp only [abinT, Option.some.injEq, Prod.mk.injEq] at he
    obtain ⟨rfl, rfl, rfl, rfl⟩ := he
    exact az_bin (op := bop .iushr) ⟨by decide, by decide⟩ (by rintro _ _ lw rest ws ⟨a, rfl⟩ ⟨b, rfl⟩ kz; exact z_iushr X hdg rfl kz) hx hy hf (by rintro ν ws h ⟨a, ha⟩ ⟨b, hb⟩; rw [ha, hb]; exact ⟨vty_i0 _, fun q hq => by cases hq⟩) k
  | land =>
    simp only [abinT, Option.some.injEq, Prod.mk.injEq] at he
    obtain ⟨rfl, rfl, rfl, rfl⟩ := he
    exact az_bin (op := bop .land) ⟨by decide, by decide⟩ (by rintro _ _ lw rest ws ⟨a, rfl⟩ ⟨b, rfl⟩ kz; exact z_land X hdg kz) hx hy hf (by rintro ν ws h ⟨a, ha⟩ ⟨b, hb⟩; rw [ha, hb]; exact ⟨vty_l0 _, fun q hq => by cases hq⟩) k
  | lor =>
    simp only [abinT, Option.some.injEq, Prod.mk.injEq] at he
    obtain ⟨rfl, rfl, rfl, rfl⟩ := he
    exact az_bin (op := bop .lor) ⟨by decide, by decide⟩ (by rintro _ _ lw rest ws ⟨a, rfl⟩ ⟨b, rfl⟩ kz; exact z_lor X hdg kz) hx hy hf (by rintro ν ws h ⟨a, ha⟩ ⟨b, hb⟩; rw [ha, hb]; exact ⟨vty_l0 _, fun q hq => by cases hq⟩) k
  | lxor =>
    simp only [abinT, Option.some.injEq, Prod.mk.injEq] at he
    obtain ⟨rfl, rfl, rfl, rfl⟩ := he
    exact az_bin (op := bop .lxor) ⟨by decide, by decide⟩ (by rintro _ _ lw rest ws ⟨a, rfl⟩ ⟨b, rfl⟩ kz; exact z_lxor X hdg kz) hx hy hf (by rintro ν ws h ⟨a, ha⟩ ⟨b, hb⟩; rw [ha, hb]; exact ⟨vty_l0 _, fun q hq => by cases hq⟩) k
  | lshl =>
    simp only [abinT, Option.some.injEq, Prod.mk.injEq] at he
    obtain ⟨rfl, rfl, rfl, rfl⟩ := he
    exact az_bin (op := bop .lshl) ⟨by decide, by decide⟩ (by rintro _ _ lw rest ws ⟨a, rfl⟩ ⟨b, rfl⟩ kz; exact z_lshl X hdg rfl kz) hx hy hf (by rintro ν ws h ⟨a, ha⟩ ⟨b, hb⟩; rw [ha, hb]; exact ⟨vty_l0 _, fun q hq => by cases hq⟩) k
  | lushr =>
    simp only [abinT, Option.some.injEq, Prod.mk.injEq] at he
    obtain ⟨rfl, rfl, rfl, rfl⟩ := he
    exact az_bin (op := bop .lushr) ⟨by decide, by decide⟩ (by rintro _ _ lw rest ws ⟨a, rfl⟩ ⟨b, rfl⟩ kz; exact z_lushr X hdg rfl kz) hx hy hf (by rintro ν ws h ⟨a, ha⟩ ⟨b, hb⟩; rw [ha, hb]; exact ⟨vty_l0 _, fun q hq => by cases hq⟩) k
  | ladd =>
    simp only [abinT, Option.some.injEq, Prod.mk.injEq] at he
    obtain ⟨rfl, rfl, rfl, rfl⟩ := he
    exact az_bin (op := bop .ladd) ⟨by decide, by decide⟩ (by rintro _ _ lw rest ws ⟨a, rfl⟩ ⟨b, rfl⟩ kz; exact z_ladd X hdg kz) hx hy hf (by
      rintro ν ws h ⟨a, ha⟩ ⟨b, hb⟩
      have l1 := h.lo2 x
      have l2 := h.hi2 x
      have l3 := h.lo2 y
      have l4 := h.hi2 y
      rw [ha] at l1 l2
      rw [hb] at l3 l4
      have l1 : xlo ev rl x ≤ a.toInt := l1
      have l2 : a.toInt ≤ xhi ev rl x := l2
      have l3 : xlo ev rl y ≤ b.toInt := l3
      have l4 : b.toInt ≤ xhi ev rl y := l4
      refine ⟨?_, fun q hq => by cases hq⟩
      rw [ha, hb]
      exact ladd_ok l1 l2 l3 l4) k
  | lsub =>
    simp only [abinT, Option.some.injEq, Prod.mk.injEq] at he
    obtain ⟨rfl, rfl, rfl, rfl⟩ := he
    exact az_bin (op := bop .lsub) ⟨by decide, by decide⟩ (by rintro _ _ lw rest ws ⟨a, rfl⟩ ⟨b, rfl⟩ kz; exact z_lsub X hdg kz) hx hy hf (by
      rintro ν ws h ⟨a, ha⟩ ⟨b, hb⟩
      have l1 := h.lo2 x
      have l2 := h.hi2 x
      have l3 := h.lo2 y
      have l4 := h.hi2 y
      rw [ha] at l1 l2
      rw [hb] at l3 l4
      have l1 : xlo ev rl x ≤ a.toInt := l1
      have l2 : a.toInt ≤ xhi ev rl x := l2
      have l3 : xlo ev rl y ≤ b.toInt := l3
      have l4 : b.toInt ≤ xhi ev rl y := l4
      refine ⟨?_, fun q hq => by cases hq⟩
      rw [ha, hb]
      exact lsub_ok l1 l2 l3 l4) k
  | lmul =>
    simp only [abinT, Option.some.injEq, Prod.mk.injEq] at he
    obtain ⟨rfl, rfl, rfl, rfl⟩ := he
    exact az_bin (op := bop .lmul) ⟨by decide, by decide⟩ (by rintro _ _ lw rest ws ⟨a, rfl⟩ ⟨b, rfl⟩ kz; exact z_lmul X hdg kz) hx hy hf (by
      rintro ν ws h ⟨a, ha⟩ ⟨b, hb⟩
      have l1 := h.lo2 x
      have l2 := h.hi2 x
      have l3 := h.lo2 y
      have l4 := h.hi2 y
      rw [ha] at l1 l2
      rw [hb] at l3 l4
      have l1 : xlo ev rl x ≤ a.toInt := l1
      have l2 : a.toInt ≤ xhi ev rl x := l2
      have l3 : xlo ev rl y ≤ b.toInt := l3
      have l4 : b.toInt ≤ xhi ev rl y := l4
      refine ⟨?_, fun q hq => by cases hq⟩
      rw [ha, hb]
      exact lmul_ok l1 l2 l3 l4) k
  | iadd =>
    simp only [abinT, Option.some.injEq, Prod.mk.injEq] at he
    obtain ⟨rfl, rfl, rfl, rfl⟩ := he
    exact az_bin (op := bop .iadd) ⟨by decide, by decide⟩ (by rintro _ _ lw rest ws ⟨a, rfl⟩ ⟨b, rfl⟩ kz; exact z_iadd X hdg kz) hx hy hf (by
      rintro ν ws h ⟨a, ha⟩ ⟨b, hb⟩
      have l1 := h.lo2 x
      have l2 := h.hi2 x
      have l3 := h.lo2 y
      have l4 := h.hi2 y
      rw [ha] at l1 l2
      rw [hb] at l3 l4
      have l1 : xlo ev rl x ≤ a.toInt := l1
      have l2 : a.toInt ≤ xhi ev rl x := l2
      have l3 : xlo ev rl y ≤ b.toInt := l3
      have l4 : b.toInt ≤ xhi ev rl y := l4
      have key : fits32 (xlo ev rl x + xlo ev rl y) (xhi ev rl x + xhi ev rl y) = true → (a + b).toInt = a.toInt + b.toInt := by
        intro q
        unfold fits32 at q
        rw [Bool.and_eq_true, decide_eq_true_eq, decide_eq_true_eq] at q
        unfold iMin iMax at q
        exact tI_add rfl rfl (by omega)
      refine ⟨?_, ?_⟩
      · rw [ha, hb]
        exact fitI_ok (fun q => by rw [key q]; omega)
      · refine mnz_ok (fun q => ?_)
        have kk := key q
        have en : nup ν nx (bop .iadd (ν x) (ν y)) nx = .int (a + b) := by rw [nup_eq, ha, hb]; rfl
        have ex : nup ν nx (bop .iadd (ν x) (ν y)) x = .int a := by rw [nup_ne hxn, ha]
        have ey : nup ν nx (bop .iadd (ν x) (ν y)) y = .int b := by rw [nup_ne hyn, hb]
        have vn : vI (nup ν nx (bop .iadd (ν x) (ν y)) nx) = a.toInt + b.toInt := by rw [en]; exact kk
        have vx : vI (nup ν nx (bop .iadd (ν x) (ν y)) x) = a.toInt := by rw [ex]; rfl
        have vy : vI (nup ν nx (bop .iadd (ν x) (ν y)) y) = b.toInt := by rw [ey]; rfl
        exact mnz_app (mnz_app (mnz_ok (fun q2 => by
          have q2 := of_decide_eq_true q2
          exact rel2 (by rw [vn, vx]; omega) (by rw [vn, vx]; omega))) (mnz_ok (fun q2 => by
          have q2 := of_decide_eq_true q2
          exact rel2 (by rw [vn, vy]; omega) (by rw [vn, vy]; omega)))) (rel22 (by rw [vn, vx]; omega) (by rw [vn, vy]; omega))) k
  | isub =>
    simp only [abinT, Option.some.injEq, Prod.mk.injEq] at he
    obtain ⟨rfl, rfl, rfl, rfl⟩ := he
    exact az_bin (op := bop .isub) ⟨by decide, by decide⟩ (by rintro _ _ lw rest ws ⟨a, rfl⟩ ⟨b, rfl⟩ kz; exact z_isub X hdg kz) hx hy hf (by
      rintro ν ws h ⟨a, ha⟩ ⟨b, hb⟩
      have l1 := h.lo2 x
      have l2 := h.hi2 x
      have l3 := h.lo2 y
      have l4 := h.hi2 y
      rw [ha] at l1 l2
      rw [hb] at l3 l4
      have l1 : xlo ev rl x ≤ a.toInt := l1
      have l2 : a.toInt ≤ xhi ev rl x := l2
      have l3 : xlo ev rl y ≤ b.toInt := l3
      have l4 : b.toInt ≤ xhi ev rl y := l4
      have l5 : sublo ev rl x y ≤ a.toInt - b.toInt := by
        unfold sublo
        cases e9 : adif ev rl x 3 y with
        | none => show xlo ev rl x - xhi ev rl y ≤ _; omega
        | some d =>
          have h9 := h.dif e9
          rw [ha, hb] at h9
          have h9 : b.toInt - a.toInt ≤ d := h9
          show max (xlo ev rl x - xhi ev rl y) (-d) ≤ _
          omega
      have l6 : a.toInt - b.toInt ≤ subhi ev rl x y := by
        unfold subhi
        cases e9 : adif ev rl y 3 x with
        | none => show _ ≤ xhi ev rl x - xlo ev rl y; omega
        | some d =>
          have h9 := h.dif e9
          rw [ha, hb] at h9
          have h9 : a.toInt - b.toInt ≤ d := h9
          show _ ≤ min (xhi ev rl x - xlo ev rl y) d
          omega
      have key : fits32 (sublo ev rl x y) (subhi ev rl x y) = true → (a - b).toInt = a.toInt - b.toInt := by
        intro q
        unfold fits32 at q
        rw [Bool.and_eq_true, decide_eq_true_eq, decide_eq_true_eq] at q
        unfold iMin iMax at q
        exact tI_sub rfl rfl (by omega)
      refine ⟨?_, ?_⟩
      · rw [ha, hb]
        exact fitI_ok (fun q => by rw [key q]; omega)
      · refine mnz_ok (fun q => ?_)
        have kk := key q
        have en : nup ν nx (bop .isub (ν x) (ν y)) nx = .int (a - b) := by rw [nup_eq, ha, hb]; rfl
        have ex : nup ν nx (bop .isub (ν x) (ν y)) x = .int a := by rw [nup_ne hxn, ha]
        have ey : nup ν nx (bop .isub (ν x) (ν y)) y = .int b := by rw [nup_ne hyn, hb]
        have vn : vI (nup ν nx (bop .isub (ν x) (ν y)) nx) = a.toInt - b.toInt := by rw [en]; exact kk
        have vx : vI (nup ν nx (bop .isub (ν x) (ν y)) x) = a.toInt := by rw [ex]; rfl
        have vy : vI (nup ν nx (bop .isub (ν x) (ν y)) y) = b.toInt := by rw [ey]; rfl
        exact mnz_ok (fun q2 => by
          have q2 := of_decide_eq_true q2
          exact rel2 (by rw [vn, vx]; omega) (by rw [vn, vx]; omega))) k
  | imul =>
    simp only [abinT, Option.some.injEq, Prod.mk.injEq] at he
    obtain ⟨rfl, rfl, rfl, rfl⟩ := he
    exact az_bin (op := bop .imul) ⟨by decide, by decide⟩ (by rintro _ _ lw rest ws ⟨a, rfl⟩ ⟨b, rfl⟩ kz; exact z_imul X hdg kz) hx hy hf (by
      rintro ν ws h ⟨a, ha⟩ ⟨b, hb⟩
      have l1 := h.lo2 x
      have l2 := h.hi2 x
      have l3 := h.lo2 y
      have l4 := h.hi2 y
      rw [ha] at l1 l2
      rw [hb] at l3 l4
      have l1 : xlo ev rl x ≤ a.toInt := l1
      have l2 : a.toInt ≤ xhi ev rl x := l2
      have l3 : xlo ev rl y ≤ b.toInt := l3
      have l4 : b.toInt ≤ xhi ev rl y := l4
      refine ⟨?_, fun q hq => by cases hq⟩
      rw [ha, hb]
      show vty ad (bif decide (0 ≤ xlo ev rl x) && decide (0 ≤ xlo ev rl y) then fitI (xlo ev rl x * xlo ev rl y) (xhi ev rl x * xhi ev rl y) else tI0) (.int (a * b))
      cases e : (decide (0 ≤ xlo ev rl x) && decide (0 ≤ xlo ev rl y)) with
      | false => exact vty_i0 _
      | true =>
        rw [Bool.and_eq_true, decide_eq_true_eq, decide_eq_true_eq] at e
        have g1 : xlo ev rl x * xlo ev rl y ≤ a.toInt * b.toInt := Int.mul_le_mul l1 l3 e.2 (by omega)
        have g2 : a.toInt * b.toInt ≤ xhi ev rl x * xhi ev rl y := Int.mul_le_mul l2 l4 (by omega) (by omega)
        refine fitI_ok (fun q => ?_)
        unfold fits32 at q
        rw [Bool.and_eq_true, decide_eq_true_eq, decide_eq_true_eq] at q
        unfold iMin iMax at q
        rw [tI_mul rfl rfl (by omega)]
        exact ⟨g1, g2⟩) k
  | iand =>
    simp only [abinT, Option.some.injEq, Prod.mk.injEq] at he
    obtain ⟨rfl, rfl, rfl, rfl⟩ := he
    exact az_bin (op := bop .iand) ⟨by decide, by decide⟩ (by rintro _ _ lw rest ws ⟨a, rfl⟩ ⟨b, rfl⟩ kz; exact z_iand X hdg kz) hx hy hf (by
      rintro ν ws h ⟨a, ha⟩ ⟨b, hb⟩
      have l1 := h.lo2 x
      have l2 := h.hi2 x
      have l3 := h.lo2 y
      have l4 := h.hi2 y
      rw [ha] at l1 l2
      rw [hb] at l3 l4
      have l1 : xlo ev rl x ≤ a.toInt := l1
      have l2 : a.toInt ≤ xhi ev rl x := l2
      have l3 : xlo ev rl y ≤ b.toInt := l3
      have l4 : b.toInt ≤ xhi ev rl y := l4
      refine ⟨?_, fun q hq => by cases hq⟩
      rw [ha, hb]
      show vty ad (bif decide (0 ≤ xlo ev rl y) then (0, 0, xhi ev rl y) else bif decide (0 ≤ xlo ev rl x) then (0, 0, xhi ev rl x) else tI0) (.int (a &&& b))
      cases e : decide (0 ≤ xlo ev rl y) with
      | true =>
        have e := of_decide_eq_true e
        have g := and_bd (x := a) (y := b) (by omega)
        exact vty_i g.1 (by omega)
      | false =>
        cases e2 : decide (0 ≤ xlo ev rl x) with
        | true =>
          have e2 := of_decide_eq_true e2
          have g := and_bd (x := b) (y := a) (by omega)
          rw [Int32.and_comm] at g
          exact vty_i g.1 (by omega)
        | false => exact vty_i0 _) k
  | ior =>
    simp only [abinT, Option.some.injEq, Prod.mk.injEq] at he
    obtain ⟨rfl, rfl, rfl, rfl⟩ := he
    exact az_bin (op := bop .ior) ⟨by decide, by decide⟩ (by rintro _ _ lw rest ws ⟨a, rfl⟩ ⟨b, rfl⟩ kz; exact z_ior X hdg kz) hx hy hf (by
      rintro ν ws h ⟨a, ha⟩ ⟨b, hb⟩
      have l1 := h.lo2 x
      have l2 := h.hi2 x
      have l3 := h.lo2 y
      have l4 := h.hi2 y
      rw [ha] at l1 l2
      rw [hb] at l3 l4
      have l1 : xlo ev rl x ≤ a.toInt := l1
      have l2 : a.toInt ≤ xhi ev rl x := l2
      have l3 : xlo ev rl y ≤ b.toInt := l3
      have l4 : b.toInt ≤ xhi ev rl y := l4
      refine ⟨?_, fun q hq => by cases hq⟩
      rw [ha, hb]
      show vty ad (orT (xlo ev rl x) (xhi ev rl x) (xlo ev rl y) (xhi ev rl y)) (.int (a ||| b))
      unfold orT
      cases e : (decide (0 ≤ xlo ev rl x) && decide (0 ≤ xlo ev rl y)) with
      | false => exact vty_i0 _
      | true =>
        rw [Bool.and_eq_true, decide_eq_true_eq, decide_eq_true_eq] at e
        have hm : max (xhi ev rl x).toNat (xhi ev rl y).toNat < 2 ^ (Nat.log2 (max (xhi ev rl x).toNat (xhi ev rl y).toNat) + 1) := Nat.lt_log2_self
        have g := or_bd (x := a) (y := b) (k := Nat.log2 (max (xhi ev rl x).toNat (xhi ev rl y).toNat) + 1) (by omega) (by omega) (by omega) (by omega)
        exact vty_i g.1 (by omega)) k
  | ishl =>
    simp only [abinT, Option.some.injEq, Prod.mk.injEq] at he
    obtain ⟨rfl, rfl, rfl, rfl⟩ := he
    exact az_bin (op := bop .ishl) ⟨by decide, by decide⟩ (by rintro _ _ lw rest ws ⟨a, rfl⟩ ⟨b, rfl⟩ kz; exact z_ishl X hdg kz) hx hy hf (by
      rintro ν ws h ⟨a, ha⟩ ⟨b, hb⟩
      have l1 := h.lo2 x
      have l2 := h.hi2 x
      have l3 := h.lo2 y
      have l4 := h.hi2 y
      rw [ha] at l1 l2
      rw [hb] at l3 l4
      have l1 : xlo ev rl x ≤ a.toInt := l1
      have l2 : a.toInt ≤ xhi ev rl x := l2
      have l3 : xlo ev rl y ≤ b.toInt := l3
      have l4 : b.toInt ≤ xhi ev rl y := l4
      refine ⟨?_, fun q hq => by cases hq⟩
      rw [ha, hb]
      show vty ad (shlT (xlo ev rl x) (xhi ev rl x) (xlo ev rl y) (xhi ev rl y)) (.int (a <<< (b &&& 31)))
      unfold shlT
      cases e : (decide (0 ≤ xlo ev rl x) && (decide (0 ≤ xlo ev rl y) && decide (xhi ev rl y ≤ 30))) with
      | false => exact vty_i0 _
      | true =>
        rw [Bool.and_eq_true, Bool.and_eq_true, decide_eq_true_eq, decide_eq_true_eq, decide_eq_true_eq] at e
        obtain ⟨z1, z2, z3⟩ := e
        have p1 : ((2 ^ (xlo ev rl y).toNat : Nat) : Int) ≤ ((2 ^ b.toInt.toNat : Nat) : Int) := Int.ofNat_le.mpr (Nat.pow_le_pow_right (by decide) (by omega))
        have p2 : ((2 ^ b.toInt.toNat : Nat) : Int) ≤ ((2 ^ (xhi ev rl y).toNat : Nat) : Int) := Int.ofNat_le.mpr (Nat.pow_le_pow_right (by decide) (by omega))
        have p0 : (0 : Int) ≤ ((2 ^ (xlo ev rl y).toNat : Nat) : Int) := Int.natCast_nonneg _
        have g1 : xlo ev rl x * ((2 ^ (xlo ev rl y).toNat : Nat) : Int) ≤ a.toInt * ((2 ^ b.toInt.toNat : Nat) : Int) := Int.mul_le_mul l1 p1 p0 (by omega)
        have g2 : a.toInt * ((2 ^ b.toInt.toNat : Nat) : Int) ≤ xhi ev rl x * ((2 ^ (xhi ev rl y).toNat : Nat) : Int) := Int.mul_le_mul l2 p2 (by omega) (by omega)
        refine fitI_ok (fun q => ?_)
        unfold fits32 at q
        rw [Bool.and_eq_true, decide_eq_true_eq, decide_eq_true_eq] at q
        unfold iMin iMax at q
        rw [shl_eq (by omega) (by omega) (by omega) (by omega)]
        exact ⟨g1, g2⟩) k
  | ishr =>
    simp only [abinT, Option.some.injEq, Prod.mk.injEq] at he
    obtain ⟨rfl, rfl, rfl, rfl⟩ := he
    exact az_bin (op := bop .ishr) ⟨by decide, by decide⟩ (by rintro _ _ lw rest ws ⟨a, rfl⟩ ⟨b, rfl⟩ kz; exact z_ishr X hdg kz) hx hy hf (by
      rintro ν ws h ⟨a, ha⟩ ⟨b, hb⟩
      have l1 := h.lo2 x
      have l2 := h.hi2 x
      have l3 := h.lo2 y
      have l4 := h.hi2 y
      rw [ha] at l1 l2
      rw [hb] at l3 l4
      have l1 : xlo ev rl x ≤ a.toInt := l1
      have l2 : a.toInt ≤ xhi ev rl x := l2
      have l3 : xlo ev rl y ≤ b.toInt := l3
      have l4 : b.toInt ≤ xhi ev rl y := l4
      refine ⟨?_, fun q hq => by cases hq⟩
      rw [ha, hb]
      show vty ad (shrT (xlo ev rl x) (xhi ev rl x) (xlo ev rl y) (xhi ev rl y)) (.int (a >>> (b &&& 31)))
      unfold shrT
      cases e : (decide (0 ≤ xlo ev rl x) && (decide (0 ≤ xlo ev rl y) && decide (xhi ev rl y ≤ 31))) with
      | false => exact vty_i0 _
      | true =>
        rw [Bool.and_eq_true, Bool.and_eq_true, decide_eq_true_eq, decide_eq_true_eq, decide_eq_true_eq] at e
        obtain ⟨z1, z2, z3⟩ := e
        have g := shr_bd (x := a) (y := b) (ly := (xlo ev rl y).toNat) (by omega) (by omega) (by omega)
        have p3 : (0 : Int) < ((2 ^ (xlo ev rl y).toNat : Nat) : Int) := Int.natCast_pos.mpr (Nat.pow_pos (by decide))
        exact vty_i g.1 (Int.le_trans g.2 (Int.ediv_le_ediv p3 l2))) k
  | idiv =>
    simp only [abinT] at he
    cases hz : anz ev rl y with
    | false => rw [hz] at he; cases he
    | true =>
      rw [hz] at he
      simp only [cond_true, Option.some.injEq, Prod.mk.injEq] at he
      obtain ⟨rfl, rfl, rfl, rfl⟩ := he
      exact az_binR (RR := fun _ b => vI b ≠ 0) (op := bop .idiv) ⟨by decide, by decide⟩ (by rintro _ _ lw rest ws ⟨a, rfl⟩ ⟨b, rfl⟩ hz2 kz; exact z_idiv X hdg (fun e0 => hz2 (by rw [e0]; rfl)) kz) hx hy hf (by
        rintro ν ws h ⟨a, ha⟩ ⟨b, hb⟩
        refine ⟨h.nz hz, ?_, fun q hq => by cases hq⟩
        have l1 := h.lo2 x
        have l2 := h.hi2 x
        have l3 := h.lo2 y
        have l4 := h.hi2 y
        rw [ha] at l1 l2
        rw [hb] at l3 l4
        have l1 : xlo ev rl x ≤ a.toInt := l1
        have l2 : a.toInt ≤ xhi ev rl x := l2
        have l3 : xlo ev rl y ≤ b.toInt := l3
        have l4 : b.toInt ≤ xhi ev rl y := l4
        rw [ha, hb]
        exact divT_ok l1 l2 l3 l4) k
  | irem =>
    simp only [abinT] at he
    cases hz : anz ev rl y with
    | false => rw [hz] at he; cases he
    | true =>
      rw [hz] at he
      simp only [cond_true, Option.some.injEq, Prod.mk.injEq] at he
      obtain ⟨rfl, rfl, rfl, rfl⟩ := he
      exact az_binR (RR := fun _ b => vI b ≠ 0) (op := bop .irem) ⟨by decide, by decide⟩ (by rintro _ _ lw rest ws ⟨a, rfl⟩ ⟨b, rfl⟩ hz2 kz; exact z_irem X hdg (fun e0 => hz2 (by rw [e0]; rfl)) kz) hx hy hf (by
        rintro ν ws h ⟨a, ha⟩ ⟨b, hb⟩
        refine ⟨h.nz hz, ?_, fun q hq => by cases hq⟩
        have l1 := h.lo2 x
        have l2 := h.hi2 x
        have l3 := h.lo2 y
        have l4 := h.hi2 y
        rw [ha] at l1 l2
        rw [hb] at l3 l4
        have l1 : xlo ev rl x ≤ a.toInt := l1
        have l2 : a.toInt ≤ xhi ev rl x := l2
        have l3 : xlo ev rl y ≤ b.toInt := l3
        have l4 : b.toInt ≤ xhi ev rl y := l4
        rw [ha, hb]
        exact remT_ok l1 l2 l3 l4) k
  | ldiv =>
    simp only [abinT] at he
    cases hz : anz ev rl y with
    | false => rw [hz] at he; cases he
    | true =>
      rw [hz] at he
      simp only [cond_true, Option.some.injEq, Prod.mk.injEq] at he
      obtain ⟨rfl, rfl, rfl, rfl⟩ := he
      exact az_binR (RR := fun _ b => vI b ≠ 0) (op := bop .ldiv) ⟨by decide, by decide⟩ (by rintro _ _ lw rest ws ⟨a, rfl⟩ ⟨b, rfl⟩ hz2 kz; exact z_ldiv X hdg (fun e0 => hz2 (by rw [e0]; rfl)) kz) hx hy hf (by rintro ν ws h ⟨a, ha⟩ ⟨b, hb⟩; refine ⟨h.nz hz, ?_⟩; rw [ha, hb]; exact ⟨vty_l0 _, fun q hq => by cases hq⟩) k
  | lrem =>
    simp only [abinT] at he
    cases hz : anz ev rl y with
    | false => rw [hz] at he; cases he
    | true =>
      rw [hz] at he
      simp only [cond_true, Option.some.injEq, Prod.mk.injEq] at he
      obtain ⟨rfl, rfl, rfl, rfl⟩ := he
      exact az_binR (RR := fun _ b => vI b ≠ 0) (op := bop .lrem) ⟨by decide, by decide⟩ (by rintro _ _ lw rest ws ⟨a, rfl⟩ ⟨b, rfl⟩ hz2 kz; exact z_lrem X hdg (fun e0 => hz2 (by rw [e0]; rfl)) kz) hx hy hf (by rintro ν ws h ⟨a, ha⟩ ⟨b, hb⟩; refine ⟨h.nz hz, ?_⟩; rw [ha, hb]; exact ⟨vty_l0 _, fun q hq => by cases hq⟩) k
  | _ => exact absurd he (by simp [abinT])
theorem s_un (X : ZC p s m args meth c cc nL own G A ret nm) {i : Instr} {x kx : Nat} {t : VT} {nr : ARl} (hdg : decode cc pc = .ok (i, 1)) (he : aunT i ev rl x nx = some (kx, t, nr)) (hx : (aty ev x).1 = kx) (hf : afr (lv, x :: st, ev, ca, rl, nx) = true)
    (k : AZ (ZF p l e R s m args below meth c nL G A Q kc ks) G ad T mk w0 pin (lv, nx :: st, (nx, t) :: ev, ca, nr ++ rl, nx + 1) (pc + 1)) : AZ (ZF p l e R s m args below meth c nL G A Q kc ks) G ad T mk w0 pin (lv, x :: st, ev, ca, rl, nx) pc := by
  have hxn : x < nx := (afr_ok hf).2.2.1 x List.mem_cons_self
  cases i with
  | l2i =>
    simp only [aunT, Option.some.injEq, Prod.mk.injEq] at he
    obtain ⟨rfl, rfl, rfl⟩ := he
    exact az_un (op := uop .l2i) (by decide) (by rintro _ lw rest ws ⟨a, rfl⟩ kz; exact z_l2i X hdg rfl kz) hx hf (by rintro ν ws h ⟨a, ha⟩; rw [ha]; exact ⟨vty_i0 _, fun q hq => by cases hq⟩) k
  | i2b =>
    simp only [aunT, Option.some.injEq, Prod.mk.injEq] at he
    obtain ⟨rfl, rfl, rfl⟩ := he
    exact az_un (op := uop .i2b) (by decide) (by rintro _ lw rest ws ⟨a, rfl⟩ kz; exact z_i2b X hdg rfl kz) hx hf (by rintro ν ws h ⟨a, ha⟩; rw [ha]; exact ⟨vty_i0 _, fun q hq => by cases hq⟩) k
  | i2s =>
    simp only [aunT, Option.some.injEq, Prod.mk.injEq] at he
    obtain ⟨rfl, rfl, rfl⟩ := he
    exact az_un (op := uop .i2s) (by decide) (by rintro _ lw rest ws ⟨a, rfl⟩ kz; exact z_i2s X hdg rfl kz) hx hf (by rintro ν ws h ⟨a, ha⟩; rw [ha]; exact ⟨vty_i0 _, fun q hq => by cases hq⟩) k
  | ineg =>
    simp only [aunT, Option.some.injEq, Prod.mk.injEq] at he
    obtain ⟨rfl, rfl, rfl⟩ := he
    exact az_un (op := uop .ineg) (by decide) (by rintro _ lw rest ws ⟨a, rfl⟩ kz; exact z_ineg X hdg kz) hx hf (by
      rintro ν ws h ⟨a, ha⟩
      have l1 := h.lo2 x
      have l2 := h.hi2 x
      rw [ha] at l1 l2
      have l1 : xlo ev rl x ≤ a.toInt := l1
      have l2 : a.toInt ≤ xhi ev rl x := l2
      rw [ha]
      refine ⟨fitI_ok (fun q => ?_), fun q hq => by cases hq⟩
      unfold fits32 at q
      rw [Bool.and_eq_true, decide_eq_true_eq, decide_eq_true_eq] at q
      unfold iMin iMax at q
      rw [tI_neg rfl (by omega)]
      omega) k
  | lneg =>
    simp only [aunT, Option.some.injEq, Prod.mk.injEq] at he
    obtain ⟨rfl, rfl, rfl⟩ := he
    exact az_un (op := uop .lneg) (by decide) (by rintro _ lw rest ws ⟨a, rfl⟩ kz; exact z_lneg X hdg kz) hx hf (by
      rintro ν ws h ⟨a, ha⟩
      have l1 := h.lo2 x
      have l2 := h.hi2 x
      rw [ha] at l1 l2
      have l1 : xlo ev rl x ≤ a.toInt := l1
      have l2 : a.toInt ≤ xhi ev rl x := l2
      rw [ha]
      refine ⟨?_, fun q hq => by cases hq⟩
      show vty ad (negL (xlo ev rl x) (xhi ev rl x)) (.long (-a))
      unfold negL
      cases e : decide (lMin < xlo ev rl x) with
      | false =>
        cases e3 : decide (xhi ev rl x = lMin) with
        | false => exact vty_l0 _
        | true =>
          have e3 := of_decide_eq_true e3
          have h9 := i64_lo a
          have e4 : a.toInt = lMin := by omega
          have e5 : a = Int64.minValue := Int64.toInt_inj.mp (by rw [e4]; rfl)
          rw [e5]
          exact vty_l (by decide) (by decide)
      | true =>
        have e := of_decide_eq_true e
        unfold lMin at e
        have h9 := i64_hi a
        unfold lMax at h9
        have e2 : (-a).toInt = -a.toInt := tJ_neg rfl (by omega)
        exact vty_l (by rw [e2]; omega) (by rw [e2]; omega)) k
  | i2l =>
    simp only [aunT, Option.some.injEq, Prod.mk.injEq] at he
    obtain ⟨rfl, rfl, rfl⟩ := he
    exact az_un (op := uop .i2l) (by decide) (by rintro _ lw rest ws ⟨a, rfl⟩ kz; exact z_i2l X hdg rfl kz) hx hf (by
      rintro ν ws h ⟨a, ha⟩
      have l1 := h.lo2 x
      have l2 := h.hi2 x
      rw [ha] at l1 l2
      have e1 : a.toInt64.toInt = a.toInt := Int32.toInt_toInt64 a
      have l1 : xlo ev rl x ≤ a.toInt := l1
      have l2 : a.toInt ≤ xhi ev rl x := l2
      have vn : vI (nup ν nx (uop .i2l (ν x)) nx) = a.toInt := by rw [nup_eq, ha]; exact e1
      have vx : vI (nup ν nx (uop .i2l (ν x)) x) = a.toInt := by rw [nup_ne hxn, ha]; rfl
      refine ⟨?_, fun q hq => ?_⟩
      · rw [ha]
        exact vty_l (by rw [e1]; exact l1) (by rw [e1]; exact l2)
      · rcases List.mem_cons.mp hq with e | hq
        · rw [e]
          show vI (nup ν nx _ nx) ≤ vI (nup ν nx _ x) + 0
          rw [vn, vx]; omega
        · rw [List.mem_singleton.mp hq]
          show vI (nup ν nx _ x) ≤ vI (nup ν nx _ nx) + 0
          rw [vn, vx]; omega) k
  | _ => exact absurd he (by simp [aunT])
end AZ7
end
section
/-! one instruction, checked; K: what is to hold behind it -/
abbrev KT : Type := Nat → AS → Bool
abbrev CAL : Type := Nat × Nat × Nat × CE
def pId (ev : AEv) (i k : Nat) : Bool := Nat.beq (aty ev i).1 k
theorem pId_ok {ev : AEv} {i k : Nat} (h : pId ev i k = true) : (aty ev i).1 = k := Nat.eq_of_beq_eq_true h
def sCon (K : KT) (pc len : Nat) (n : Int) (lv : ALv) (st : List Nat) (ev : AEv) (ca : ACa) (rl : ARl) (nx : Nat) : Bool := K (pc + len) (lv, nx :: st, (nx, (0, n, n)) :: ev, ca, rl, nx + 1)
def sLoad (K : KT) (pc len k kx : Nat) (lv : ALv) (st : List Nat) (ev : AEv) (ca : ACa) (rl : ARl) (nx : Nat) : Bool := match alv lv k with
  | some x => pId ev x kx && K (pc + len) (lv, x :: st, ev, ca, rl, nx)
  | none => false
def sStore (nL : Nat) (K : KT) (pc len k kx : Nat) (lv : ALv) (st : List Nat) (ev : AEv) (ca : ACa) (rl : ARl) (nx : Nat) : Bool := match st with
  | x :: st => pId ev x kx && (Nat.blt (bif Nat.beq kx 1 then k + 1 else k) nL && K (pc + len) (aset k x (Nat.beq kx 1) lv, st, ev, ca, rl, nx))
  | [] => false
def sBin (K : KT) (pc : Nat) (i : Instr) (lv : ALv) (st : List Nat) (ev : AEv) (ca : ACa) (rl : ARl) (nx : Nat) : Bool := match st with
  | y :: x :: st => match abinT i ev rl x y nx with
    | some t => pId ev x t.1 && (pId ev y t.2.1 && K (pc + 1) (lv, nx :: st, (nx, t.2.2.1) :: ev, ca, t.2.2.2 ++ rl, nx + 1))
    | none => false
  | _ => false
def sUn (K : KT) (pc : Nat) (i : Instr) (lv : ALv) (st : List Nat) (ev : AEv) (ca : ACa) (rl : ARl) (nx : Nat) : Bool := match st with
  | x :: st => match aunT i ev rl x nx with
    | some t => pId ev x t.1 && K (pc + 1) (lv, nx :: st, (nx, t.2.1) :: ev, ca, t.2.2 ++ rl, nx + 1)
    | none => false
  | _ => false
def sInc (nL : Nat) (K : KT) (pc k : Nat) (n : Int) (lv : ALv) (st : List Nat) (ev : AEv) (ca : ACa) (rl : ARl) (nx : Nat) : Bool := match alv lv k with
  | some x => pId ev x 0 && (decide (-32768 ≤ n) && (decide (n ≤ 32767) && (Nat.blt k nL && K (pc + 3) (aset k nx false lv, st, (nx, fitI (xlo ev rl x + n) (xhi ev rl x + n)) :: ev, ca, mnz (fits32 (xlo ev rl x + n) (xhi ev rl x + n)) [(nx, x, n), (x, nx, -n)] ++ rl, nx + 1))))
  | none => false
def p02 (ev : AEv) (i : Nat) : Bool := pId ev i 0 || pId ev i 2
def sPop (K : KT) (pc : Nat) (lv : ALv) (st : List Nat) (ev : AEv) (ca : ACa) (rl : ARl) (nx : Nat) : Bool := match st with
  | x :: st => p02 ev x && K (pc + 1) (lv, st, ev, ca, rl, nx)
  | _ => false
def sDup (K : KT) (pc : Nat) (lv : ALv) (st : List Nat) (ev : AEv) (ca : ACa) (rl : ARl) (nx : Nat) : Bool := match st with
  | x :: st => p02 ev x && K (pc + 1) (lv, x :: x :: st, ev, ca, rl, nx)
  | _ => false
def sDup2 (K : KT) (pc : Nat) (lv : ALv) (st : List Nat) (ev : AEv) (ca : ACa) (rl : ARl) (nx : Nat) : Bool := match st with
  | x :: y :: st => p02 ev x && (p02 ev y && K (pc + 1) (lv, x :: y :: x :: y :: st, ev, ca, rl, nx))
  | _ => false
def fnd3 : List (Nat × Nat × Nat) → Nat → Option (Nat × Nat)
  | [], _ => none
  | q :: l, i => bif Nat.beq q.1 i then some q.2 else fnd3 l i
theorem fnd3_mem : ∀ (l : List (Nat × Nat × Nat)) (i : Nat) (q : Nat × Nat), fnd3 l i = some q → (i, q) ∈ l
  | [], i, q, h => by cases h
  | p :: l, i, q, h => by
    unfold fnd3 at h
    cases hb : Nat.beq p.1 i with
    | true =>
      rw [hb] at h
      cases h
      have e : p.1 = i := Nat.eq_of_beq_eq_true hb
      subst e
      exact List.mem_cons_self
    | false =>
      rw [hb] at h
      exact List.mem_cons_of_mem _ (fnd3_mem l i q h)
def fnd4 : List (Nat × Nat × Nat × Nat) → Nat → Option (Nat × Nat × Nat)
  | [], _ => none
  | q :: l, i => bif Nat.beq q.1 i then some q.2 else fnd4 l i
theorem fnd4_mem : ∀ (l : List (Nat × Nat × Nat × Nat)) (i : Nat) (q : Nat × Nat × Nat), fnd4 l i = some q → (i, q) ∈ l
  | [], i, q, h => by cases h
  | p :: l, i, q, h => by
    unfold fnd4 at h
    cases hb : Nat.beq p.1 i with
    | true =>
      rw [hb] at h
      cases h
      have e : p.1 = i := Nat.eq_of_beq_eq_true hb
      subst e
      exact List.mem_cons_self
    | false =>
      rw [hb] at h
      exact List.mem_cons_of_mem _ (fnd4_mem l i q h)
def fndC : List (Nat × Int) → Nat → Option Int
  | [], _ => none
  | q :: l, i => bif Nat.beq q.1 i then some q.2 else fndC l i
theorem fndC_mem : ∀ (l : List (Nat × Int)) (i : Nat) (q : Int), fndC l i = some q → (i, q) ∈ l
  | [], i, q, h => by cases h
  | p :: l, i, q, h => by
    unfold fndC at h
    cases hb : Nat.beq p.1 i with
    | true =>
      rw [hb] at h
      cases h
      have e : p.1 = i := Nat.eq_of_beq_eq_true hb
      subst e
      exact List.mem_cons_self
    | false =>
      rw [hb] at h
      exact List.mem_cons_of_mem _ (fndC_mem l i q h)
def sLdc (cst : List (Nat × Int)) (K : KT) (pc len idx : Nat) (lv : ALv) (st : List Nat) (ev : AEv) (ca : ACa) (rl : ARl) (nx : Nat) : Bool := match fndC cst idx with
  | some n => K (pc + len) (lv, nx :: st, (nx, (0, n, n)) :: ev, ca, rl, nx + 1)
  | none => false
def sLdcL (cstl : List (Nat × Int)) (K : KT) (pc idx : Nat) (lv : ALv) (st : List Nat) (ev : AEv) (ca : ACa) (rl : ARl) (nx : Nat) : Bool := match fndC cstl idx with
  | some n => K (pc + 3) (lv, nx :: st, (nx, (1, n, n)) :: ev, ca, rl, nx + 1)
  | none => false
def sGet (T : List TE) (fld : List (Nat × Nat × Nat)) (K : KT) (pc idx : Nat) (lv : ALv) (st : List Nat) (ev : AEv) (ca : ACa) (rl : ARl) (nx : Nat) : Bool := match fnd3 fld idx, st with
  | some q, r :: st => pId ev r 2 && (match T[(aty ev r).2.1.toNat]? with
    | some (.inl o) => Nat.beq o.1 q.1 && (match o.2[q.2]? with
      | some t => (match acaf ca (aty ev r).2.1.toNat q.2 with
        | some i => K (pc + 3) (lv, i :: st, ev, ca, rl, nx)
        | none => K (pc + 3) (lv, nx :: st, (nx, t) :: ev, ((aty ev r).2.1.toNat, q.2, nx) :: ca, rl, nx + 1))
      | none => false)
    | _ => false)
  | _, _ => false
def kOK (kd : Nat) (t : VT) : Bool := bif Nat.beq kd 1 then Nat.beq t.1 1 else Nat.beq t.1 0 && (bif Nat.beq kd 2 then decide (0 ≤ t.2.1) && decide (t.2.2 ≤ 1) else Nat.beq kd 0)
def pputB (T : List TE) (ev : AEv) (rl : ARl) (ca : ACa) (x cell j : Nat) (t : VT) : Bool := T.all (fun te => match te with
  | .inr o => bif Nat.ble 2 o.2.2.1 && (Nat.beq (pcl o.2.2.1) cell && Nat.beq (pfl o.2.2.1) j) then Nat.beq t.1 0 && (match acaf ca cell j with | some q => (bif Nat.ble 2 (pkd o.2.2.1) then dle ev rl q x 0 else dle ev rl x q 0) | none => false) else true
  | .inl _ => true)
theorem pputB_ok {G : KG} {ad : Nat → Nat} {T : List TE} {mk : List (Nat × Nat)} {w0 : va_W} {pin : List (Nat × Value)} {lv : ALv} {st : List Nat} {ev : AEv} {ca : ACa} {rl : ARl} {nx x cell j k' n : Nat} {t t' : VT} {ν : Nat → Value} {ws : va_W} (h : pputB T ev rl ca x cell j t = true) (hk : AK G ad T mk w0 pin (lv, st, ev, ca, rl, nx) ν ws) (g1 : T[k']? = some (.inr (0, n, t'))) (g2 : 2 ≤ t'.1) (g3 : pcl t'.1 = cell) (g4 : pfl t'.1 = j) : t.1 = 0 ∧ ∃ o : Nat, fget ws cell j = some (ν o) ∧ pord t'.1 (vI (ν x)) (vI (ν o)) := by
  have h1 := List.all_eq_true.mp h _ (List.mem_of_getElem? g1)
  have e : (Nat.ble 2 t'.1 && (Nat.beq (pcl t'.1) cell && Nat.beq (pfl t'.1) j)) = true := by
    rw [Bool.and_eq_true, Bool.and_eq_true, g3, g4]
    exact ⟨Nat.ble_eq.mpr g2, Nat.beq_refl _, Nat.beq_refl _⟩
  have h1 : (bif (Nat.ble 2 t'.1 && (Nat.beq (pcl t'.1) cell && Nat.beq (pfl t'.1) j)) then Nat.beq t.1 0 && (match acaf ca cell j with | some q => (bif Nat.ble 2 (pkd t'.1) then dle ev rl q x 0 else dle ev rl x q 0) | none => false) else true) = true := h1
  rw [e] at h1
  obtain ⟨b1, b2⟩ := Bool.and_eq_true _ _ ▸ (show (Nat.beq t.1 0 && (match acaf ca cell j with | some q => (bif Nat.ble 2 (pkd t'.1) then dle ev rl q x 0 else dle ev rl x q 0) | none => false)) = true from h1)
  cases hc : acaf ca cell j with
  | none => rw [hc] at b2; cases b2
  | some q =>
    rw [hc] at b2
    refine ⟨Nat.eq_of_beq_eq_true b1, q, hk.2.2.1 _ (acaf_mem ca cell j q hc), ?_⟩
    cases e2 : Nat.ble 2 (pkd t'.1) with
    | true =>
      rw [e2] at b2
      have := hk.dl b2
      exact Or.inr ⟨Nat.le_of_ble_eq_true e2, by omega⟩
    | false =>
      rw [e2] at b2
      have := hk.dl b2
      refine Or.inl ⟨?_, by omega⟩
      rcases Nat.lt_or_ge (pkd t'.1) 2 with h9 | h9
      · omega
      · rw [Nat.ble_eq.mpr h9] at e2
        cases e2
/-- what an int array gives at an index, what it takes there -/
def aldT (ev : AEv) (rl : ARl) (ca : ACa) (i kd : Nat) (t : VT) : VT := bif Nat.beq kd 0 then (bif Nat.beq t.1 1 then (bif decide (xlo ev rl i = xhi ev rl i) then (0, (KTY (xlo ev rl i).toNat).1, (KTY (xlo ev rl i).toNat).2) else atyA kd t) else bif Nat.ble 2 t.1 && Nat.ble (pkd t.1) 1 then (match acaf ca (pcl t.1) (pfl t.1) with
  | some o => bif pId ev o 0 && dle ev rl i o (-1) then (0, max t.2.1 ((pkd t.1 : Nat) : Int), t.2.2) else atyA kd t
  | none => atyA kd t) else atyA kd t) else atyA kd t
def aldN (ev : AEv) (rl : ARl) (ca : ACa) (nx kd : Nat) (t : VT) : ARl := bif Nat.beq kd 0 && (Nat.ble 2 t.1 && Nat.ble 2 (pkd t.1)) then (match acaf ca (pcl t.1) (pfl t.1) with
  | some o => bif pId ev o 0 && (decide (1 ≤ xlo ev rl o) && Nat.blt o nx) then [(nx, o, -1)] else []
  | none => []) else []
def astB (ev : AEv) (rl : ARl) (ca : ACa) (i v kd : Nat) (t : VT) : Bool := bif Nat.beq kd 0 then (bif Nat.beq t.1 1 then decide (xlo ev rl i = xhi ev rl i) && (decide ((KTY (xlo ev rl i).toNat).1 ≤ xlo ev rl v) && decide (xhi ev rl v ≤ (KTY (xlo ev rl i).toNat).2)) else bif Nat.ble 2 t.1 then (bif Nat.ble 2 (pkd t.1) then (decide (xlo ev rl v = 0) && decide (xhi ev rl v = 0)) || (match acaf ca (pcl t.1) (pfl t.1) with
  | some o => pId ev o 0 && dle ev rl v o (-1)
  | none => false) else (decide (((pkd t.1 : Nat) : Int) ≤ xlo ev rl v) || (match acaf ca (pcl t.1) (pfl t.1) with
  | some o => pId ev o 0 && dle ev rl o i 0
  | none => false))) else true) else true
def sPut (T : List TE) (mk : List (Nat × Nat)) (put : List (Nat × Nat × Nat × Nat)) (K : KT) (pc idx : Nat) (lv : ALv) (st : List Nat) (ev : AEv) (ca : ACa) (rl : ARl) (nx : Nat) : Bool := match fnd4 put idx, st with
  | some q, x :: r :: st => pId ev r 2 && (match T[(aty ev r).2.1.toNat]? with
    | some (.inl o) => Nat.beq o.1 q.1 && (match o.2[q.2.1]? with
      | some t => kOK q.2.2 t && (vsub ev rl x t && (mkq mk (aty ev r).2.1.toNat q.2.1 && pputB T ev rl ca x (aty ev r).2.1.toNat q.2.1 t && K (pc + 3) (lv, st, ev, ((aty ev r).2.1.toNat, q.2.1, x) :: acut (aty ev r).2.1.toNat q.2.1 ca, rl, nx)))
      | none => false)
    | _ => false)
  | _, _ => false
def sAld (T : List TE) (K : KT) (pc kd : Nat) (lv : ALv) (st : List Nat) (ev : AEv) (ca : ACa) (rl : ARl) (nx : Nat) : Bool := match st with
  | i :: a :: st => pId ev a 2 && (pId ev i 0 && (match T[(aty ev a).2.1.toNat]? with
    | some (.inr o) => Nat.beq o.1 kd && (ain ev rl i o.2.1 && K (pc + 1) (lv, nx :: st, (nx, aldT ev rl ca i kd o.2.2) :: ev, ca, aldN ev rl ca nx kd o.2.2 ++ rl, nx + 1))
    | _ => false))
  | _ => false
def sAst (T : List TE) (mk : List (Nat × Nat)) (K : KT) (pc kd : Nat) (lv : ALv) (st : List Nat) (ev : AEv) (ca : ACa) (rl : ARl) (nx : Nat) : Bool := match st with
  | v :: i :: a :: st => pId ev a 2 && (pId ev i 0 && (match T[(aty ev a).2.1.toNat]? with
    | some (.inr o) => Nat.beq o.1 kd && (ain ev rl i o.2.1 && (vsub ev rl v (atyA kd o.2.2) && ((bif Nat.beq kd 2 then decide (0 ≤ o.2.2.2.1) && decide (o.2.2.2.2 ≤ 1) && Nat.beq o.2.2.1 0 else astB ev rl ca i v kd o.2.2) && (mk.any (fun q => Nat.beq q.1 (aty ev a).2.1.toNat && Nat.beq q.2 999) && K (pc + 1) (lv, st, ev, ca, rl, nx)))))
    | _ => false))
  | _ => false
def sAld3 (T : List TE) (K : KT) (pc : Nat) (lv : ALv) (st : List Nat) (ev : AEv) (ca : ACa) (rl : ARl) (nx : Nat) : Bool := match st with
  | i :: a :: st => pId ev a 2 && (pId ev i 0 && (match T[(aty ev a).2.1.toNat]? with
    | some (.inr o) => Nat.beq o.1 3 && (ain ev rl i o.2.1 && (arng o.2.1 0).all (fun j => K (pc + 1) (lv, nx :: st, (i, (0, (j : Int), (j : Int))) :: (nx, (2, ((o.2.2.2.1.toNat + j * o.2.2.2.2.toNat : Nat) : Int), 0)) :: ev, ca, rl, nx + 1)))
    | _ => false))
  | _ => false
def tgtOf (pc : Nat) (off : Int) : Nat := ((pc : Int) + off).toNat
def sJ (K : KT) (pc : Nat) (lv : ALv) (st : List Nat) (ca : ACa) (nx : Nat) (q : Option (AEv × ARl)) : Bool := match q with
  | some q => K pc (lv, st, q.1, ca, q.2, nx)
  | none => true
def sBr (K : KT) (pc c : Nat) (off : Int) (lv : ALv) (st : List Nat) (ev : AEv) (ca : ACa) (rl : ARl) (nx : Nat) : Bool := match st with
  | y :: x :: st => pId ev x 0 && (pId ev y 0 && (decide (0 ≤ (pc : Int) + off) && (sJ K (tgtOf pc off) lv st ca nx (atk c x y ev rl) && sJ K (pc + 3) lv st ca nx (atk (cneg c) x y ev rl))))
  | _ => false
/-- not alike: below or above, each by itself -/
def sJn (K : KT) (pc c x y : Nat) (lv : ALv) (st : List Nat) (ev : AEv) (ca : ACa) (rl : ARl) (nx : Nat) : Bool := bif Nat.beq c 1 then sJ K pc lv st ca nx (atk 2 x y ev rl) && sJ K pc lv st ca nx (atk 4 x y ev rl) else sJ K pc lv st ca nx (atk c x y ev rl)
def sBrL (K : KT) (pc c : Nat) (off : Int) (lv : ALv) (st : List Nat) (ev : AEv) (ca : ACa) (rl : ARl) (nx : Nat) : Bool := match st with
  | y :: x :: st => pId ev x 1 && (pId ev y 1 && (decide (0 ≤ ((pc + 1 : Nat) : Int) + off) && (sJn K (tgtOf (pc + 1) off) c x y lv st ev ca rl nx && sJn K (pc + 4) (cneg c) x y lv st ev ca rl nx)))
  | _ => false
def sBr0 (K : KT) (pc c : Nat) (off : Int) (lv : ALv) (st : List Nat) (ev : AEv) (ca : ACa) (rl : ARl) (nx : Nat) : Bool := match st with
  | x :: st => pId ev x 0 && (decide (0 ≤ (pc : Int) + off) && (sJ K (tgtOf pc off) lv st ca (nx + 1) (atk c x nx ((nx, (0, 0, 0)) :: ev) rl) && sJ K (pc + 3) lv st ca (nx + 1) (atk (cneg c) x nx ((nx, (0, 0, 0)) :: ev) rl)))
  | _ => false
def sGo (K : KT) (pc : Nat) (off : Int) (σ : AS) : Bool := decide (0 ≤ (pc : Int) + off) && K (tgtOf pc off) σ
def sTab (K : KT) (pc : Nat) (dflt lo hi : Int) (offs : List Int) (lv : ALv) (st : List Nat) (ev : AEv) (ca : ACa) (rl : ARl) (nx : Nat) : Bool := match st with
  | x :: st => pId ev x 0 && (decide (0 ≤ (pc : Int) + dflt) && (offs.all (fun o => decide (0 ≤ (pc : Int) + o)) && (decide (hi - lo + 1 = (offs.length : Int)) && ((bif decide (xlo ev rl x < lo) || decide (hi < xhi ev rl x) then K (tgtOf pc dflt) (lv, st, ev, ca, rl, nx) else true) && (aoffs pc lo 0 offs (xlo ev rl x) (xhi ev rl x)).all (fun q => K q.1 (lv, st, (x, (0, q.2, q.2)) :: ev, ca, rl, nx))))))
  | _ => false
def sLen (T : List TE) (K : KT) (pc : Nat) (lv : ALv) (st : List Nat) (ev : AEv) (ca : ACa) (rl : ARl) (nx : Nat) : Bool := match st with
  | a :: st => pId ev a 2 && (match T[(aty ev a).2.1.toNat]? with
    | some (.inr o) => Nat.ble o.2.1 2147483647 && K (pc + 1) (lv, nx :: st, (nx, (0, (o.2.1 : Int), (o.2.1 : Int))) :: ev, ca, rl, nx + 1)
    | _ => false)
  | _ => false
/-- a reference that is there -/
def sNul (K : KT) (pc : Nat) (off : Int) (jumps : Bool) (lv : ALv) (st : List Nat) (ev : AEv) (ca : ACa) (rl : ARl) (nx : Nat) : Bool := match st with
  | a :: st => pId ev a 2 && (bif jumps then decide (0 ≤ (pc : Int) + off) && K (tgtOf pc off) (lv, st, ev, ca, rl, nx) else K (pc + 3) (lv, st, ev, ca, rl, nx))
  | _ => false
def sLook (K : KT) (pc : Nat) (dflt : Int) (ps : List (Int × Int)) (lv : ALv) (st : List Nat) (ev : AEv) (ca : ACa) (rl : ARl) (nx : Nat) : Bool := match st with
  | x :: st => pId ev x 0 && ((ps.zip (ps.drop 1)).all (fun (a, next) => a.1 < next.1) && (decide (0 ≤ (pc : Int) + dflt) && (K (tgtOf pc dflt) (lv, st, ev, ca, rl, nx) && ps.all (fun q => decide (0 ≤ (pc : Int) + q.2) && K (tgtOf pc q.2) (lv, st, (x, (0, q.1, q.1)) :: ev, ca, rl, nx)))))
  | _ => false
def scat (ev : AEv) : List Nat → Nat
  | [] => 0
  | i :: l => (bif Nat.beq (aty ev i).1 1 then 2 else bif Nat.ble (aty ev i).1 3 then 1 else 9) + scat ev l
/-- fields whose names a contract wants, told -/
def atch (T : List TE) : List (Nat × Nat × VT) → AEv → ACa → Nat → Option (AEv × ACa × Nat)
  | [], ev, ca, nx => some (ev, ca, nx)
  | q :: l, ev, ca, nx => match acaf ca q.1 q.2.1 with
    | some _ => atch T l ev ca nx
    | none => match T[q.1]? with
      | some (.inl o) => match o.2[q.2.1]? with
        | some t => atch T l ((nx, t) :: ev) ((q.1, q.2.1, nx) :: ca) (nx + 1)
        | none => none
      | _ => none
/-- bounds of some names, told anew -/
def atg (is : List Nat) (σ : AS) : AS := (σ.1, σ.2.1, (is.filter (fun i => isNum (aty σ.2.2.1 i))).map (fun i => (i, ((aty σ.2.2.1 i).1, xlo σ.2.2.1 σ.2.2.2.2.1 i, xhi σ.2.2.1 σ.2.2.2.2.1 i))) ++ σ.2.2.1, σ.2.2.2)
def sCall1 (T : List TE) (mk : List (Nat × Nat)) (Rf Rl : Nat) (K : KT) (pc maxL : Nat) (C : CE) (lv : ALv) (st : List Nat) (ev : AEv) (ca : ACa) (rl : ARl) (nx : Nat) : Bool := match atch T C.2.1 ev ca nx with
  | none => false
  | some (ev, ca, nx) => match acas ca C.2.1 with
    | none => false
    | some ps => afr (lv, st, ev, ca, rl, nx) && (Nat.ble C.1.length st.length && (Nat.ble C.1.length 50 && (Nat.ble C.2.1.length 100 && (Nat.ble (C.2.2.2.2.2.1 + 1) Rf && (Nat.ble (8 + (maxL + 11) + C.2.2.2.2.2.2) Rl && (Nat.ble (scat ev (st.drop C.1.length)) 8 &&
       ((C.1.zipIdx.all fun q => vsub ev rl ((st.take C.1.length).reverse.getD q.2 0) q.1) && ((C.2.1.zipIdx.all fun q => vsub ev rl (ps.getD q.2 0) q.1.2.2) && ((C.2.2.1.all fun q => dle ev rl (cmap (st.take C.1.length).reverse ps nx q.1) (cmap (st.take C.1.length).reverse ps nx q.2.1) q.2.2 && (Nat.blt q.1 50 || (Nat.ble 100 q.1 && Nat.blt q.1 200)) && (Nat.blt q.2.1 50 || (Nat.ble 100 q.2.1 && Nat.blt q.2.1 200))) && (C.2.2.2.1.all altB && (cov mk C.2.2.2.2.1 && C.2.2.2.1.all (fun A => K (pc + 3) (atg (nx :: arng A.2.2.1.length (nx + 1)) (aafter (st.take C.1.length).reverse ps A C.2.2.2.2.1 lv (st.drop C.1.length) ev ca rl nx))))))))))))))
def sCall (T : List TE) (mk : List (Nat × Nat)) (cal : List CAL) (Rf Rl : Nat) (K : KT) (pc kd idx : Nat) (lv : ALv) (st : List Nat) (ev : AEv) (ca : ACa) (rl : ARl) (nx : Nat) : Bool := cal.any (fun q => Nat.beq q.1 idx && (Nat.beq q.2.1 kd && sCall1 T mk Rf Rl K pc q.2.2.1 q.2.2.2 lv st ev ca rl nx))
def retK (rk : Nat) (t : Option VT) : Bool := match rk, t with
  | 0, none => true
  | 1, some t => Nat.beq t.1 0
  | 2, some t => Nat.beq t.1 1
  | 3, some t => Nat.beq t.1 0 && (decide (0 ≤ t.2.1) && decide (t.2.2 ≤ 1))
  | _, _ => false
def sRet (C : CE) (rk : Nat) (st : List Nat) (ev : AEv) (ca : ACa) (rl : ARl) : Bool := C.2.2.2.1.any (fun A => retK rk A.1 && aretA C.1.length C.2.1.length A st ev ca rl)
def ccode : Jvm.ClassFile.Cond → Nat
  | .eq => 0
  | .ne => 1
  | .lt => 2
  | .ge => 3
  | .gt => 4
  | .le => 5
/-- a method's instructions, decoded once -/
abbrev DT : Type := List (Nat × Instr × Nat)
def dlook : DT → Nat → Option (Instr × Nat)
  | [], _ => none
  | q :: l, pc => bif Nat.beq q.1 pc then some q.2 else dlook l pc
theorem dlook_mem : ∀ (l : DT) (pc : Nat) (q : Instr × Nat), dlook l pc = some q → (pc, q) ∈ l
  | [], pc, q, h => by cases h
  | p :: l, pc, q, h => by
    unfold dlook at h
    cases hb : Nat.beq p.1 pc with
    | true =>
      rw [hb] at h
      cases h
      have e : p.1 = pc := Nat.eq_of_beq_eq_true hb
      subst e
      exact List.mem_cons_self
    | false =>
      rw [hb] at h
      exact List.mem_cons_of_mem _ (dlook_mem l pc q h)
def dtOK (cc : ByteArray) (tab : DT) : Bool := tab.all (fun q => decide (decode cc q.1 = .ok q.2))
theorem dt_ok {cc : ByteArray} {tab : DT} (h : dtOK cc tab = true) : ∀ q ∈ tab, decode cc q.1 = .ok q.2 := fun q hq => of_decide_eq_true (List.all_eq_true.mp h q hq)
def sIns (tab : DT) (nL : Nat) (T : List TE) (mk : List (Nat × Nat)) (fld : List (Nat × Nat × Nat)) (put : List (Nat × Nat × Nat × Nat)) (cst cstl : List (Nat × Int)) (cal : List CAL) (Rf Rl rk : Nat) (C : CE) (K : KT) (pc len : Nat) (i : Instr) (lv : ALv) (st : List Nat) (ev : AEv) (ca : ACa) (rl : ARl) (nx : Nat) : Bool := match i with
  | .iconst n => Nat.beq len 1 && (decide (-32768 ≤ n) && (decide (n ≤ 32767) && sCon K pc 1 n lv st ev ca rl nx))
  | .bipush n => Nat.beq len 2 && (decide (-128 ≤ n) && (decide (n ≤ 127) && sCon K pc 2 n lv st ev ca rl nx))
  | .sipush n => Nat.beq len 3 && (decide (-32768 ≤ n) && (decide (n ≤ 32767) && sCon K pc 3 n lv st ev ca rl nx))
  | .lconst n => Nat.beq len 1 && K (pc + 1) (lv, nx :: st, (nx, (1, (n : Nat), (n : Nat))) :: ev, ca, rl, nx + 1)
  | .ldc idx => Nat.beq len 2 && sLdc cst K pc 2 idx lv st ev ca rl nx
  | .ldc_w idx => Nat.beq len 3 && sLdc cst K pc 3 idx lv st ev ca rl nx
  | .ldc2_w idx => Nat.beq len 3 && sLdcL cstl K pc idx lv st ev ca rl nx
  | .iload k => Nat.beq len 2 && sLoad K pc 2 k 0 lv st ev ca rl nx
  | .lload k => Nat.beq len 2 && sLoad K pc 2 k 1 lv st ev ca rl nx
  | .aload k => Nat.beq len 2 && sLoad K pc 2 k 2 lv st ev ca rl nx
  | .iload_n k => Nat.beq len 1 && sLoad K pc 1 k 0 lv st ev ca rl nx
  | .lload_n k => Nat.beq len 1 && sLoad K pc 1 k 1 lv st ev ca rl nx
  | .aload_n k => Nat.beq len 1 && sLoad K pc 1 k 2 lv st ev ca rl nx
  | .istore k => Nat.beq len 2 && sStore nL K pc 2 k 0 lv st ev ca rl nx
  | .lstore k => Nat.beq len 2 && sStore nL K pc 2 k 1 lv st ev ca rl nx
  | .astore k => Nat.beq len 2 && sStore nL K pc 2 k 2 lv st ev ca rl nx
  | .istore_n k => Nat.beq len 1 && sStore nL K pc 1 k 0 lv st ev ca rl nx
  | .lstore_n k => Nat.beq len 1 && sStore nL K pc 1 k 1 lv st ev ca rl nx
  | .astore_n k => Nat.beq len 1 && sStore nL K pc 1 k 2 lv st ev ca rl nx
  | .iinc k n => Nat.beq len 3 && sInc nL K pc k n lv st ev ca rl nx
  | .pop => Nat.beq len 1 && sPop K pc lv st ev ca rl nx
  | .dup => Nat.beq len 1 && sDup K pc lv st ev ca rl nx
  | .dup2 => Nat.beq len 1 && sDup2 K pc lv st ev ca rl nx
  | .getfield idx => Nat.beq len 3 && sGet T fld K pc idx lv st ev ca rl nx
  | .putfield idx => Nat.beq len 3 && sPut T mk put K pc idx lv st ev ca rl nx
  | .iaload => Nat.beq len 1 && sAld T K pc 0 lv st ev ca rl nx
  | .laload => Nat.beq len 1 && sAld T K pc 1 lv st ev ca rl nx
  | .baload => Nat.beq len 1 && sAld T K pc 2 lv st ev ca rl nx
  | .aaload => Nat.beq len 1 && sAld3 T K pc lv st ev ca rl nx
  | .iastore => Nat.beq len 1 && sAst T mk K pc 0 lv st ev ca rl nx
  | .lastore => Nat.beq len 1 && sAst T mk K pc 1 lv st ev ca rl nx
  | .bastore => Nat.beq len 1 && sAst T mk K pc 2 lv st ev ca rl nx
  | .if_icmp c off => Nat.beq len 3 && sBr K pc (ccode c) off lv st ev ca rl nx
  | .ifCond c off => Nat.beq len 3 && sBr0 K pc (ccode c) off lv st ev ca rl nx
  | .lcmp => Nat.beq len 1 && (match dlook tab (pc + 1) with
    | some (.ifCond c off, n) => Nat.beq n 3 && sBrL K pc (ccode c) off lv st ev ca rl nx
    | _ => false)
  | .arraylength => Nat.beq len 1 && sLen T K pc lv st ev ca rl nx
  | .ifnull off => Nat.beq len 3 && sNul K pc off false lv st ev ca rl nx
  | .ifnonnull off => Nat.beq len 3 && sNul K pc off true lv st ev ca rl nx
  | .lookupswitch dflt ps => sLook K pc dflt ps.toList lv st ev ca rl nx
  | .goto off => Nat.beq len 3 && sGo K pc off (lv, st, ev, ca, rl, nx)
  | .tableswitch dflt lo hi offs => sTab K pc dflt lo hi offs.toList lv st ev ca rl nx
  | .invokevirtual idx => Nat.beq len 3 && sCall T mk cal Rf Rl K pc 0 idx lv st ev ca rl nx
  | .invokestatic idx => Nat.beq len 3 && sCall T mk cal Rf Rl K pc 1 idx lv st ev ca rl nx
  | .ireturn => Nat.beq len 1 && ((Nat.beq rk 1 || Nat.beq rk 3) && sRet C rk st ev ca rl)
  | .lreturn => Nat.beq len 1 && (Nat.beq rk 2 && sRet C rk st ev ca rl)
  | .return_ => Nat.beq len 1 && (Nat.beq rk 0 && sRet C rk st ev ca rl)
  | .ineg => Nat.beq len 1 && sUn K pc i lv st ev ca rl nx
  | .lneg => Nat.beq len 1 && sUn K pc i lv st ev ca rl nx
  | .i2l => Nat.beq len 1 && sUn K pc i lv st ev ca rl nx
  | .l2i => Nat.beq len 1 && sUn K pc i lv st ev ca rl nx
  | .i2b => Nat.beq len 1 && sUn K pc i lv st ev ca rl nx
  | .i2s => Nat.beq len 1 && sUn K pc i lv st ev ca rl nx
  | i => Nat.beq len 1 && sBin K pc i lv st ev ca rl nx
end
section
/-! the checks are sound -/
theorem ofI32 {n : Int} (h1 : -2147483648 ≤ n) (h2 : n < 2147483648) : (Int32.ofInt n).toInt = n := by rw [Int32.toInt_ofInt]; exact b32 h1 h2
theorem and2 {a b : Bool} (h : (a && b) = true) : a = true ∧ b = true := by rw [Bool.and_eq_true] at h; exact h
/-- a field that may be written -/
def PA (own : String) (idx ci k kd : Nat) : Prop := (FL own idx ci k ∨ FN own idx ci k) ∧ ∃ (C : String) (Tt : u_T) (N : Nat) (ty : FieldType), vwCl[ci]? = some (C, Tt, N) ∧ (Tt k).2.2.2 = false ∧ parseFieldDescriptor (Tt k).2.2.1 = some ty ∧ ((kd = 0 ∧ ty = .int) ∨ (kd = 1 ∧ ty = .long) ∨ (kd = 2 ∧ ty = .boolean))
theorem fit_z {x : Int32} (h1 : 0 ≤ x.toInt) (h2 : x.toInt ≤ 1) : fits .boolean (.int x) = true := by
  rcases (by omega : x.toInt = 0 ∨ x.toInt = 1) with e | e
  · have : x = 0 := Int32.toInt_inj.mp (by rw [e]; rfl)
    rw [this]; rfl
  · have : x = 1 := Int32.toInt_inj.mp (by rw [e]; rfl)
    rw [this]; rfl
section AZ8
variable {p : Program} {l : Launch} {e : Env} {R : Room} {s : State} {m : MethodId} {args : Array Value} {below : List Frame} {meth : Method} {c : Code} {nL : Nat} {G : KG} {A : Nat → Prop} {Q : State → Prop} {cc : ByteArray} {own : String} {ret : Option FieldType} {nm : String} {kc ks : Nat}
variable {ad : Nat → Nat} {T : List TE} {mk : List (Nat × Nat)} {w0 : va_W} {pin : List (Nat × Value)}
variable {lv : ALv} {st : List Nat} {ev : AEv} {ca : ACa} {rl : ARl} {nx pc : Nat} {K : KT}
abbrev AQ (p : Program) (l : Launch) (e : Env) (R : Room) (s : State) (m : MethodId) (args : Array Value) (below : List Frame) (meth : Method) (c : Code) (nL : Nat) (G : KG) (A : Nat → Prop) (Q : State → Prop) (kc ks : Nat) (ad : Nat → Nat) (T : List TE) (mk : List (Nat × Nat)) (w0 : va_W) (pin : List (Nat × Value)) (σ : AS) (pc : Nat) : Prop := AZ (ZF p l e R s m args below meth c nL G A Q kc ks) G ad T mk w0 pin σ pc
theorem sCon_ok {len : Nat} {n : Int} {v : Int32} (hK : ∀ pc σ, K pc σ = true → AQ p l e R s m args below meth c nL G A Q kc ks ad T mk w0 pin σ pc) (hf : afr (lv, st, ev, ca, rl, nx) = true) (hv : v.toInt = n) (row : ∀ (lw : List (Nat × Value)) (rest : List Value) (ws : va_W), ZF p l e R s m args below meth c nL G A Q kc ks (pc + len) lw (.int v :: rest) ws → ZF p l e R s m args below meth c nL G A Q kc ks pc lw rest ws) (h : sCon K pc len n lv st ev ca rl nx = true) : AQ p l e R s m args below meth c nL G A Q kc ks ad T mk w0 pin (lv, st, ev, ca, rl, nx) pc :=
  az_con row hf (vty_i (by omega) (by omega)) (hK _ _ h)
theorem sLoad_ok {len k kx : Nat} (hk : kx ≤ 2) (hK : ∀ pc σ, K pc σ = true → AQ p l e R s m args below meth c nL G A Q kc ks ad T mk w0 pin σ pc) (row : ∀ (v : Value) (lw : List (Nat × Value)) (rest : List Value) (ws : va_W) (q : Nat), lw[q]? = some (k, v) → tagv kx v → ZF p l e R s m args below meth c nL G A Q kc ks (pc + len) lw (v :: rest) ws → ZF p l e R s m args below meth c nL G A Q kc ks pc lw rest ws) (h : sLoad K pc len k kx lv st ev ca rl nx = true) : AQ p l e R s m args below meth c nL G A Q kc ks ad T mk w0 pin (lv, st, ev, ca, rl, nx) pc := by
  unfold sLoad at h
  cases hx : alv lv k with
  | none => rw [hx] at h; cases h
  | some x =>
    rw [hx] at h
    obtain ⟨h1, h2⟩ := and2 h
    exact az_load hk row hx (pId_ok h1) (hK _ _ h2)
theorem sStore_ok {len k kx : Nat} (hk : kx ≤ 2) (hK : ∀ pc σ, K pc σ = true → AQ p l e R s m args below meth c nL G A Q kc ks ad T mk w0 pin σ pc) (row : (bif Nat.beq kx 1 then k + 1 else k) < nL → ∀ (v : Value) (lw : List (Nat × Value)) (rest : List Value) (ws : va_W), tagv kx v → ZF p l e R s m args below meth c nL G A Q kc ks (pc + len) (bif Nat.beq kx 1 then zs2 k v lw else zs1 k v lw) rest ws → ZF p l e R s m args below meth c nL G A Q kc ks pc lw (v :: rest) ws) (h : sStore nL K pc len k kx lv st ev ca rl nx = true) : AQ p l e R s m args below meth c nL G A Q kc ks ad T mk w0 pin (lv, st, ev, ca, rl, nx) pc := by
  match st, h with
  | x :: st, h =>
    obtain ⟨h1, h2⟩ := and2 h
    obtain ⟨h2, h3⟩ := and2 h2
    exact az_store hk rfl (row (blt_lt h2)) (pId_ok h1) (hK _ _ h3)
  | [], h => cases h
theorem sBin_ok (X : ZC p s m args meth c cc nL own G A ret nm) {i : Instr} (hdg : decode cc pc = .ok (i, 1)) (hK : ∀ pc σ, K pc σ = true → AQ p l e R s m args below meth c nL G A Q kc ks ad T mk w0 pin σ pc) (hf : afr (lv, st, ev, ca, rl, nx) = true) (h : sBin K pc i lv st ev ca rl nx = true) : AQ p l e R s m args below meth c nL G A Q kc ks ad T mk w0 pin (lv, st, ev, ca, rl, nx) pc := by
  match st, h, hf with
  | y :: x :: st, h, hf =>
    unfold sBin at h
    cases ht : abinT i ev rl x y nx with
    | none => simp only [ht] at h; cases h
    | some t =>
      simp only [ht] at h
      obtain ⟨kx, ky, t, nr⟩ := t
      obtain ⟨h1, h2⟩ := and2 h
      obtain ⟨h2, h3⟩ := and2 h2
      exact s_bin X hdg ht (pId_ok h1) (pId_ok h2) hf (hK _ _ h3)
  | [], h, hf => cases h
  | [x], h, hf => cases h
theorem sUn_ok (X : ZC p s m args meth c cc nL own G A ret nm) {i : Instr} (hdg : decode cc pc = .ok (i, 1)) (hK : ∀ pc σ, K pc σ = true → AQ p l e R s m args below meth c nL G A Q kc ks ad T mk w0 pin σ pc) (hf : afr (lv, st, ev, ca, rl, nx) = true) (h : sUn K pc i lv st ev ca rl nx = true) : AQ p l e R s m args below meth c nL G A Q kc ks ad T mk w0 pin (lv, st, ev, ca, rl, nx) pc := by
  match st, h, hf with
  | x :: st, h, hf =>
    unfold sUn at h
    cases ht : aunT i ev rl x nx with
    | none => simp only [ht] at h; cases h
    | some t =>
      simp only [ht] at h
      obtain ⟨kx, t, nr⟩ := t
      obtain ⟨h1, h2⟩ := and2 h
      exact s_un X hdg ht (pId_ok h1) hf (hK _ _ h2)
  | [], h, hf => cases h
theorem ziinc (X : ZC p s m args meth c cc nL own G A ret nm) {lw : List (Nat × Value)} {rest : List Value} {ws : va_W} {i q : Nat} {n : Int} {x : Int32} (hdg : decode cc pc = .ok (.iinc i n, 3)) (hq : lw[q]? = some (i, .int x)) (hn : i < nL) (kk : Z p l e R s m args below meth c nL G A Q (pc + 3) (zs1 i (.int (x + Int32.ofInt n)) lw) rest ws kc ks) : Z p l e R s m args below meth c nL G A Q pc lw rest ws kc ks := z_iinc X hdg hq rfl hn rfl kk
theorem sInc_ok (X : ZC p s m args meth c cc nL own G A ret nm) {k : Nat} {n : Int} (hdg : decode cc pc = .ok (.iinc k n, 3)) (hK : ∀ pc σ, K pc σ = true → AQ p l e R s m args below meth c nL G A Q kc ks ad T mk w0 pin σ pc) (hf : afr (lv, st, ev, ca, rl, nx) = true) (h : sInc nL K pc k n lv st ev ca rl nx = true) : AQ p l e R s m args below meth c nL G A Q kc ks ad T mk w0 pin (lv, st, ev, ca, rl, nx) pc := by
  unfold sInc at h
  cases hx : alv lv k with
  | none => rw [hx] at h; cases h
  | some x =>
    rw [hx] at h
    obtain ⟨h1, h⟩ := and2 h
    obtain ⟨h2, h⟩ := and2 h
    obtain ⟨h3, h⟩ := and2 h
    obtain ⟨h4, h⟩ := and2 h
    have h2 := of_decide_eq_true h2
    have h3 := of_decide_eq_true h3
    intro ν lw sw ws hg
    obtain ⟨g1, g2, g3⟩ := hg
    obtain ⟨b, hm⟩ := alv_mem lv k x hx
    obtain ⟨a, ha⟩ := g3.int (pId_ok h1)
    have hxn : x < nx := (afr_ok hf).2.1 _ hm
    have hm2 : (k, Value.int a) ∈ lw := by
      rw [g1, ← ha]
      exact List.mem_map.mpr ⟨_, hm, rfl⟩
    obtain ⟨q, hq⟩ := List.getElem?_of_mem hm2
    refine ziinc X hdg hq (blt_lt h4) (hK _ _ h (nup ν nx (.int (a + Int32.ofInt n))) _ sw ws ?_)
    have l1 := g3.lo2 x
    have l2 := g3.hi2 x
    rw [ha] at l1 l2
    have l1 : xlo ev rl x ≤ a.toInt := l1
    have l2 : a.toInt ≤ xhi ev rl x := l2
    have en : (Int32.ofInt n).toInt = n := ofI32 (by omega) (by omega)
    have key : fits32 (xlo ev rl x + n) (xhi ev rl x + n) = true → (a + Int32.ofInt n).toInt = a.toInt + n := by
      intro q
      unfold fits32 at q
      rw [Bool.and_eq_true, decide_eq_true_eq, decide_eq_true_eq] at q
      unfold iMin iMax at q
      exact tI_add rfl en (by omega)
    have gn : AK G ad T mk w0 pin (lv, st, (nx, fitI (xlo ev rl x + n) (xhi ev rl x + n)) :: ev, ca, mnz (fits32 (xlo ev rl x + n) (xhi ev rl x + n)) [(nx, x, n), (x, nx, -n)] ++ rl, nx + 1) (nup ν nx (.int (a + Int32.ofInt n))) ws := by
      refine g3.new hf (fitI_ok (fun q => by rw [key q]; omega)) (mnz_ok (fun q => ?_))
      have vn : vI (nup ν nx (.int (a + Int32.ofInt n)) nx) = a.toInt + n := by rw [nup_eq]; exact key q
      have vx : vI (nup ν nx (.int (a + Int32.ofInt n)) x) = a.toInt := by rw [nup_ne hxn, ha]; rfl
      exact rel2 (by rw [vn, vx]; omega) (by rw [vn, vx]; omega)
    have hc : ∀ q ∈ lv, (nup ν nx (.int (a + Int32.ofInt n)) q.2.1).category = bif q.2.2 then 2 else 1 := gn.1
    refine ⟨?_, ?_, aset_cat hc (by rw [nup_eq]; rfl), gn.2⟩
    · have e1 := aset1 (ν := nup ν nx (.int (a + Int32.ofInt n))) lv hc k nx
      rw [nup_eq, lvs_cong (ν' := nup ν nx (.int (a + Int32.ofInt n))) hf (fun i hi => nup_ne hi)] at e1
      show zs1 k (.int (a + Int32.ofInt n)) lw = _
      rw [g1]
      exact e1.symm
    · show sw = st.map (nup ν nx (.int (a + Int32.ofInt n)))
      rw [sts_cong hf (fun i hi => nup_ne hi)]; exact g2
theorem p02_ok {i : Nat} (h : p02 ev i = true) : (aty ev i).1 = 0 ∨ (aty ev i).1 = 2 := by
  unfold p02 at h
  rw [Bool.or_eq_true] at h
  exact h.imp pId_ok pId_ok
theorem sPop_ok (X : ZC p s m args meth c cc nL own G A ret nm) (hdg : decode cc pc = .ok (.pop, 1)) (hK : ∀ pc σ, K pc σ = true → AQ p l e R s m args below meth c nL G A Q kc ks ad T mk w0 pin σ pc) (h : sPop K pc lv st ev ca rl nx = true) : AQ p l e R s m args below meth c nL G A Q kc ks ad T mk w0 pin (lv, st, ev, ca, rl, nx) pc := by
  match st, h with
  | x :: st, h =>
    obtain ⟨h1, h2⟩ := and2 h
    exact az_pop (p02_ok h1) (fun v lw rest ws hc kz => z_pop X hdg hc kz) (hK _ _ h2)
  | [], h => cases h
theorem sDup_ok (X : ZC p s m args meth c cc nL own G A ret nm) (hdg : decode cc pc = .ok (.dup, 1)) (hK : ∀ pc σ, K pc σ = true → AQ p l e R s m args below meth c nL G A Q kc ks ad T mk w0 pin σ pc) (h : sDup K pc lv st ev ca rl nx = true) : AQ p l e R s m args below meth c nL G A Q kc ks ad T mk w0 pin (lv, st, ev, ca, rl, nx) pc := by
  match st, h with
  | x :: st, h =>
    obtain ⟨h1, h2⟩ := and2 h
    exact az_dup (p02_ok h1) (fun v lw rest ws hc kz => z_dup X hdg hc kz) (hK _ _ h2)
  | [], h => cases h
theorem sDup2_ok (X : ZC p s m args meth c cc nL own G A ret nm) (hdg : decode cc pc = .ok (.dup2, 1)) (hK : ∀ pc σ, K pc σ = true → AQ p l e R s m args below meth c nL G A Q kc ks ad T mk w0 pin σ pc) (h : sDup2 K pc lv st ev ca rl nx = true) : AQ p l e R s m args below meth c nL G A Q kc ks ad T mk w0 pin (lv, st, ev, ca, rl, nx) pc := by
  match st, h with
  | x :: y :: st, h =>
    obtain ⟨h1, h2⟩ := and2 h
    obtain ⟨h2, h3⟩ := and2 h2
    exact az_dup2 (p02_ok h1) (p02_ok h2) (fun va vb lw rest ws hc hd kz => z_dup2_11 X hdg hc hd kz) (hK _ _ h3)
  | [], h => cases h
  | [x], h => cases h
theorem sLdc_ok {cst : List (Nat × Int)} {len idx : Nat} (hC : ∀ q ∈ cst, ∃ x : Int32, x.toInt = q.2 ∧ Jvm.Cond.constant own q.1 x ∈ BIG) (hK : ∀ pc σ, K pc σ = true → AQ p l e R s m args below meth c nL G A Q kc ks ad T mk w0 pin σ pc) (hf : afr (lv, st, ev, ca, rl, nx) = true) (row : ∀ (v : Int32), Jvm.Cond.constant own idx v ∈ BIG → ∀ (lw : List (Nat × Value)) (rest : List Value) (ws : va_W), ZF p l e R s m args below meth c nL G A Q kc ks (pc + len) lw (.int v :: rest) ws → ZF p l e R s m args below meth c nL G A Q kc ks pc lw rest ws) (h : sLdc cst K pc len idx lv st ev ca rl nx = true) : AQ p l e R s m args below meth c nL G A Q kc ks ad T mk w0 pin (lv, st, ev, ca, rl, nx) pc := by
  unfold sLdc at h
  cases hx : fndC cst idx with
  | none => rw [hx] at h; cases h
  | some n =>
    rw [hx] at h
    obtain ⟨x, x1, x2⟩ := hC _ (fndC_mem cst idx n hx)
    exact az_con (row x x2) hf (vty_i (by simpa using Int.le_of_eq x1.symm) (by simpa using Int.le_of_eq x1)) (hK _ _ h)
theorem sLdcL_ok (X : ZC p s m args meth c cc nL own G A ret nm) {cstl : List (Nat × Int)} {idx : Nat} (hdg : decode cc pc = .ok (.ldc2_w idx, 3)) (hC : ∀ q ∈ cstl, ∃ x : Int64, x.toInt = q.2 ∧ Jvm.Cond.constantLong own q.1 x ∈ BIG) (hK : ∀ pc σ, K pc σ = true → AQ p l e R s m args below meth c nL G A Q kc ks ad T mk w0 pin σ pc) (hf : afr (lv, st, ev, ca, rl, nx) = true) (h : sLdcL cstl K pc idx lv st ev ca rl nx = true) : AQ p l e R s m args below meth c nL G A Q kc ks ad T mk w0 pin (lv, st, ev, ca, rl, nx) pc := by
  unfold sLdcL at h
  cases hx : fndC cstl idx with
  | none => rw [hx] at h; cases h
  | some n =>
    rw [hx] at h
    obtain ⟨x, x1, x2⟩ := hC _ (fndC_mem cstl idx n hx)
    exact az_con (fun lw rest ws kz => z_ldc2 X hdg x2 kz) hf (vty_l (by simpa using Int.le_of_eq x1.symm) (by simpa using Int.le_of_eq x1)) (hK _ _ h)
theorem sGet_ok (X : ZC p s m args meth c cc nL own G A ret nm) {fld : List (Nat × Nat × Nat)} {idx : Nat} (hdg : decode cc pc = .ok (.getfield idx, 3)) (hF : ∀ q ∈ fld, FL own q.1 q.2.1 q.2.2 ∨ FN own q.1 q.2.1 q.2.2) (hK : ∀ pc σ, K pc σ = true → AQ p l e R s m args below meth c nL G A Q kc ks ad T mk w0 pin σ pc) (hf : afr (lv, st, ev, ca, rl, nx) = true) (h : sGet T fld K pc idx lv st ev ca rl nx = true) : AQ p l e R s m args below meth c nL G A Q kc ks ad T mk w0 pin (lv, st, ev, ca, rl, nx) pc := by
  unfold sGet at h
  cases hx : fnd3 fld idx with
  | none => rw [hx] at h; cases h
  | some q =>
    rw [hx] at h
    match st, h, hf with
    | [], h, _ => cases h
    | r :: st, h, hf =>
      obtain ⟨h1, h⟩ := and2 h
      cases hT : T[(aty ev r).2.1.toNat]? with
      | none => rw [hT] at h; cases h
      | some te =>
        rw [hT] at h
        cases te with
        | inr o => cases h
        | inl o =>
          obtain ⟨ci, ts⟩ := o
          obtain ⟨h2, h⟩ := and2 h
          have e2 : ci = q.1 := Nat.eq_of_beq_eq_true h2
          subst e2
          have hF2 := hF _ (fnd3_mem fld idx q hx)
          have row : ∀ (a : Nat) (fs : List Value) (v : Value) (lw : List (Nat × Value)) (rest : List Value) (ws : va_W), ws[(aty ev r).2.1.toNat]? = some (a, ob q.1 fs) → fs[q.2]? = some v → ZF p l e R s m args below meth c nL G A Q kc ks (pc + 3) lw (v :: rest) ws → ZF p l e R s m args below meth c nL G A Q kc ks pc lw (.ref a :: rest) ws := by
            intro a fs v lw rest ws w1 w2 kz
            rcases hF2 with hF2 | hF2
            · exact z_get X hF2 hdg _ w1 w2 kz
            · exact z_getN X hF2 hdg _ w1 w2 kz
          cases ht : ts[q.2]? with
          | none => simp only [ht] at h; cases h
          | some t =>
            simp only [ht] at h
            cases hc : acaf ca (aty ev r).2.1.toNat q.2 with
            | none =>
              rw [hc] at h
              exact az_get (pId_ok h1) hT ht hf row (hK _ _ h)
            | some i =>
              rw [hc] at h
              exact az_getc (pId_ok h1) hT ht (acaf_mem ca _ _ i hc) row (hK _ _ h)
theorem sPut_ok (X : ZC p s m args meth c cc nL own G A ret nm) {put : List (Nat × Nat × Nat × Nat)} {idx : Nat} (hdg : decode cc pc = .ok (.putfield idx, 3)) (hF : ∀ q ∈ put, PA own q.1 q.2.1 q.2.2.1 q.2.2.2) (hK : ∀ pc σ, K pc σ = true → AQ p l e R s m args below meth c nL G A Q kc ks ad T mk w0 pin σ pc) (h : sPut T mk put K pc idx lv st ev ca rl nx = true) : AQ p l e R s m args below meth c nL G A Q kc ks ad T mk w0 pin (lv, st, ev, ca, rl, nx) pc := by
  unfold sPut at h
  cases hx : fnd4 put idx with
  | none => rw [hx] at h; cases h
  | some q =>
    rw [hx] at h
    match st, h with
    | [], h => cases h
    | [x], h => cases h
    | x :: r :: st, h =>
      obtain ⟨h1, h⟩ := and2 h
      cases hT : T[(aty ev r).2.1.toNat]? with
      | none => rw [hT] at h; cases h
      | some te =>
        rw [hT] at h
        cases te with
        | inr o => cases h
        | inl o =>
          obtain ⟨ci, ts⟩ := o
          obtain ⟨h2, h⟩ := and2 h
          have e2 : ci = q.1 := Nat.eq_of_beq_eq_true h2
          subst e2
          obtain ⟨hF2, C, Tt, N, ty, p1, p2, p3, p4⟩ := hF _ (fnd4_mem put idx q hx)
          cases ht : ts[q.2.1]? with
          | none => simp only [ht] at h; cases h
          | some t =>
            simp only [ht] at h
            obtain ⟨h3, h⟩ := and2 h
            obtain ⟨h4, h⟩ := and2 h
            obtain ⟨h5, h⟩ := and2 h
            obtain ⟨h5, h6⟩ := and2 h5
            refine az_put (pId_ok h1) hT ht h4 h5 (fun ν ws hk k' n t' g1 g2 g3 g4 => pputB_ok h6 hk g1 g2 g3 g4) (fun a fs v lw rest ws w1 w2 w3 kz => ?_) (hK _ _ h)
            have fin : narrow ty v = v ∧ fits ty v = true := by
              unfold kOK at h3
              rcases p4 with ⟨k0, rfl⟩ | ⟨k0, rfl⟩ | ⟨k0, rfl⟩
              · have k0 : q.2.2 = 0 := k0
                rw [k0] at h3
                have h3 : (Nat.beq t.1 0 && true) = true := h3
                obtain ⟨x, rfl, -⟩ := vty0 w3 (Nat.eq_of_beq_eq_true (and2 h3).1)
                exact ⟨rfl, rfl⟩
              · have k0 : q.2.2 = 1 := k0
                rw [k0] at h3
                have h3 : Nat.beq t.1 1 = true := h3
                obtain ⟨x, rfl, -⟩ := vty1 w3 (Nat.eq_of_beq_eq_true h3)
                exact ⟨rfl, rfl⟩
              · have k0 : q.2.2 = 2 := k0
                rw [k0] at h3
                have h3 : (Nat.beq t.1 0 && (decide (0 ≤ t.2.1) && decide (t.2.2 ≤ 1))) = true := h3
                obtain ⟨g1, g2⟩ := and2 h3
                obtain ⟨g2, g3⟩ := and2 g2
                obtain ⟨x, rfl, x1, x2⟩ := vty0 w3 (Nat.eq_of_beq_eq_true g1)
                have g2 := of_decide_eq_true g2
                have g3 := of_decide_eq_true g3
                exact ⟨nar_z (by omega) (by omega), fit_z (by omega) (by omega)⟩
            rcases hF2 with hF2 | hF2
            · exact z_put X hF2 hdg _ w1 p1 (Or.inl p2) p3 fin.1 fin.2 w2 rfl kz
            · exact z_putN X hF2 hdg _ w1 p1 p2 p3 fin.1 fin.2 w2 rfl kz
variable {ν : Nat → Value} {ws : va_W}
theorem tnc {x : Int32} (h : 0 ≤ x.toInt) : (x.toNatClampNeg : Int) = x.toInt := by
  show ((x.toInt).toNat : Int) = x.toInt
  omega
theorem AK.ex (h : AK G ad T mk w0 pin (lv, st, ev, ca, rl, nx) ν ws) {i : Nat} {x : Int32} (hx : ν i = .int x) (e : xlo ev rl i = xhi ev rl i) : x.toInt = xlo ev rl i := by
  have h1 := h.lo2 i
  have h2 := h.hi2 i
  rw [hx] at h1 h2
  have h1 : xlo ev rl i ≤ x.toInt := h1
  have h2 : x.toInt ≤ xhi ev rl i := h2
  omega
theorem aldT_ok {i n cell b : Nat} {t : VT} {f : Nat → Int32} {x : Int32} (hT : T[cell]? = some (.inr (0, n, t))) (hk : AK G ad T mk w0 pin (lv, st, ev, ca, rl, nx) ν ws) (hw : ws[cell]? = some (b, aI G n f)) (hx : ν i = .int x) (hn : x.toNatClampNeg < n) (ha : aint n t f) (h0 : 0 ≤ x.toInt) : vty ad (aldT ev rl ca i 0 t) (.int (f x.toNatClampNeg)) := by
  have hb := ha _ hn
  have dflt : vty ad (atyA 0 t) (.int (f x.toNatClampNeg)) := vty_i hb.1 hb.2.1
  unfold aldT
  show vty ad (bif Nat.beq t.1 1 then (bif decide (xlo ev rl i = xhi ev rl i) then (0, (KTY (xlo ev rl i).toNat).1, (KTY (xlo ev rl i).toNat).2) else atyA 0 t) else bif Nat.ble 2 t.1 && Nat.ble (pkd t.1) 1 then (match acaf ca (pcl t.1) (pfl t.1) with
    | some o => bif pId ev o 0 && dle ev rl i o (-1) then (0, max t.2.1 ((pkd t.1 : Nat) : Int), t.2.2) else atyA 0 t
    | none => atyA 0 t) else atyA 0 t) _
  cases e1 : Nat.beq t.1 1 with
  | true =>
    cases e2 : decide (xlo ev rl i = xhi ev rl i) with
    | false => exact dflt
    | true =>
      have h1 := hk.ex hx (of_decide_eq_true e2)
      have h2 := hb.2.2 (Nat.eq_of_beq_eq_true e1)
      have h3 : (xlo ev rl i).toNat = x.toNatClampNeg := by rw [← h1]; rfl
      show vty ad (0, (KTY (xlo ev rl i).toNat).1, (KTY (xlo ev rl i).toNat).2) _
      rw [h3]
      exact vty_i h2.1 h2.2
  | false =>
    cases e2 : (Nat.ble 2 t.1 && Nat.ble (pkd t.1) 1) with
    | false => exact dflt
    | true =>
      obtain ⟨k2, k1⟩ := and2 e2
      have k1 := Nat.le_of_ble_eq_true k1
      cases e3 : acaf ca (pcl t.1) (pfl t.1) with
      | none => exact dflt
      | some o =>
        cases e4 : (pId ev o 0 && dle ev rl i o (-1)) with
        | false => simp only [e4]; exact dflt
        | true =>
          simp only [e4]
          obtain ⟨q1, q2⟩ := and2 e4
          obtain ⟨cv, hc⟩ := hk.int (pId_ok q1)
          have hle := hk.dl q2
          rw [hx, hc] at hle
          have hle : x.toInt ≤ cv.toInt + -1 := hle
          have hg := hk.2.2.1 _ (acaf_mem ca _ _ o e3)
          have hg : fget ws (pcl t.1) (pfl t.1) = some (ν o) := hg
          rw [hc] at hg
          rcases hk.2.2.2.2.2.1.2.2 cell n t b f cv x.toNatClampNeg hT (Nat.le_of_ble_eq_true k2) hw hg hn with ⟨_, hp⟩ | ⟨hp, _⟩
          · have hp := hp (by rw [tnc h0]; omega)
            exact vty_i (by show max t.2.1 ((pkd t.1 : Nat) : Int) ≤ _; omega) hb.2.1
          · omega
theorem aldN_ok {i n cell : Nat} {t : VT} {v : Value} (hT : T[cell]? = some (.inr (0, n, t))) (hk : AK G ad T mk w0 pin (lv, st, ev, ca, rl, nx) ν ws) (hv : ∀ (b : Nat) (f : Nat → Int32) (x : Int32), ws[cell]? = some (b, aI G n f) → ν i = .int x → x.toNatClampNeg < n → v = .int (f x.toNatClampNeg)) (hi : ∃ x : Int32, ν i = .int x ∧ x.toNatClampNeg < n) : ∀ q ∈ aldN ev rl ca nx 0 t, vI (nup ν nx v q.1) ≤ vI (nup ν nx v q.2.1) + q.2.2 := by
  unfold aldN
  intro q hq
  cases e2 : (Nat.beq 0 0 && (Nat.ble 2 t.1 && Nat.ble 2 (pkd t.1))) with
  | false => rw [e2] at hq; cases hq
  | true =>
    rw [e2] at hq
    obtain ⟨-, k2⟩ := and2 e2
    obtain ⟨k2, k1⟩ := and2 k2
    have k1 := Nat.le_of_ble_eq_true k1
    cases e3 : acaf ca (pcl t.1) (pfl t.1) with
    | none => rw [e3] at hq; cases hq
    | some o =>
      rw [e3] at hq
      cases e4 : (pId ev o 0 && (decide (1 ≤ xlo ev rl o) && Nat.blt o nx)) with
      | false => simp only [e4] at hq; cases hq
      | true =>
        simp only [e4] at hq
        obtain ⟨q1, q2⟩ := and2 e4
        obtain ⟨q2, q3⟩ := and2 q2
        have q2 := of_decide_eq_true q2
        have q3 := blt_lt q3
        have e5 : q = (nx, o, -1) := List.mem_singleton.mp hq
        obtain ⟨cv, hc⟩ := hk.int (pId_ok q1)
        have hl := hk.lo2 o
        rw [hc] at hl
        have hl : xlo ev rl o ≤ cv.toInt := hl
        have hg := hk.2.2.1 _ (acaf_mem ca _ _ o e3)
        have hg : fget ws (pcl t.1) (pfl t.1) = some (ν o) := hg
        rw [hc] at hg
        obtain ⟨x, hx, hn⟩ := hi
        obtain ⟨en, w1, w2⟩ := hk.2.2.2.2.2.1.arr hT
        rcases w2 with ⟨-, f, rfl, -⟩ | ⟨h9, -⟩ | ⟨h9, -⟩ | ⟨h9, -⟩
        · rw [hv _ f x w1 hx hn, e5]
          show vI (nup ν nx (.int (f x.toNatClampNeg)) nx) ≤ vI (nup ν nx (.int (f x.toNatClampNeg)) o) + -1
          rw [nup_eq, nup_ne q3, hc]
          show (f x.toNatClampNeg).toInt ≤ cv.toInt + -1
          rcases hk.2.2.2.2.2.1.2.2 cell n t _ f cv x.toNatClampNeg hT (Nat.le_of_ble_eq_true k2) w1 hg hn with ⟨hp, _⟩ | ⟨_, hp⟩
          · omega
          · rcases hp with hp | hp <;> omega
        · cases h9
        · cases h9
        · cases h9
theorem astB_ok {i v : Nat} {t : VT} {x y : Int32} (hk : AK G ad T mk w0 pin (lv, st, ev, ca, rl, nx) ν ws) (h : astB ev rl ca i v 0 t = true) (hx : ν i = .int x) (hy : ν v = .int y) (h0 : 0 ≤ x.toInt) : (t.1 = 1 → (KTY x.toNatClampNeg).1 ≤ y.toInt ∧ y.toInt ≤ (KTY x.toNatClampNeg).2) ∧ (2 ≤ t.1 → ∀ c : Int32, fget ws (pcl t.1) (pfl t.1) = some (.int c) → PP t.1 x.toNatClampNeg y.toInt c.toInt) := by
  have v1 := hk.lo2 v
  have v2 := hk.hi2 v
  rw [hy] at v1 v2
  have v1 : xlo ev rl v ≤ y.toInt := v1
  have v2 : y.toInt ≤ xhi ev rl v := v2
  have h : (bif Nat.beq t.1 1 then decide (xlo ev rl i = xhi ev rl i) && (decide ((KTY (xlo ev rl i).toNat).1 ≤ xlo ev rl v) && decide (xhi ev rl v ≤ (KTY (xlo ev rl i).toNat).2)) else bif Nat.ble 2 t.1 then (bif Nat.ble 2 (pkd t.1) then (decide (xlo ev rl v = 0) && decide (xhi ev rl v = 0)) || (match acaf ca (pcl t.1) (pfl t.1) with
    | some o => pId ev o 0 && dle ev rl v o (-1)
    | none => false) else (decide (((pkd t.1 : Nat) : Int) ≤ xlo ev rl v) || (match acaf ca (pcl t.1) (pfl t.1) with
    | some o => pId ev o 0 && dle ev rl o i 0
    | none => false))) else true) = true := h
  refine ⟨fun e => ?_, fun e c hc => ?_⟩
  · have e1 : Nat.beq t.1 1 = true := by rw [e]; rfl
    rw [e1] at h
    obtain ⟨q1, q2⟩ := and2 h
    obtain ⟨q2, q3⟩ := and2 q2
    have h1 := hk.ex hx (of_decide_eq_true q1)
    have h3 : (xlo ev rl i).toNat = x.toNatClampNeg := by rw [← h1]; rfl
    have q2 := of_decide_eq_true q2
    have q3 := of_decide_eq_true q3
    rw [h3] at q2 q3
    exact ⟨by omega, by omega⟩
  · have e1 : Nat.beq t.1 1 = false := by
      cases h9 : Nat.beq t.1 1 with
      | false => rfl
      | true => have := Nat.eq_of_beq_eq_true h9; omega
    rw [e1, Nat.ble_eq.mpr e] at h
    have cached : ∀ o, acaf ca (pcl t.1) (pfl t.1) = some o → ν o = .int c := fun o e3 => by
      have hg := hk.2.2.1 _ (acaf_mem ca _ _ o e3)
      have hg : fget ws (pcl t.1) (pfl t.1) = some (ν o) := hg
      rw [hc] at hg
      exact (Option.some.inj hg).symm
    cases e2 : Nat.ble 2 (pkd t.1) with
    | true =>
      have h : (bif Nat.ble 2 (pkd t.1) then (decide (xlo ev rl v = 0) && decide (xhi ev rl v = 0)) || (match acaf ca (pcl t.1) (pfl t.1) with
        | some o => pId ev o 0 && dle ev rl v o (-1)
        | none => false) else _) = true := h
      rw [e2] at h
      have h : ((decide (xlo ev rl v = 0) && decide (xhi ev rl v = 0)) || (match acaf ca (pcl t.1) (pfl t.1) with
        | some o => pId ev o 0 && dle ev rl v o (-1)
        | none => false)) = true := h
      rw [Bool.or_eq_true] at h
      refine Or.inr ⟨Nat.le_of_ble_eq_true e2, ?_⟩
      rcases h with h | h
      · obtain ⟨z1, z2⟩ := and2 h
        have z1 := of_decide_eq_true z1
        have z2 := of_decide_eq_true z2
        exact Or.inl (by omega)
      · cases e3 : acaf ca (pcl t.1) (pfl t.1) with
        | none => rw [e3] at h; cases h
        | some o =>
          rw [e3] at h
          obtain ⟨q1, q2⟩ := and2 h
          have hle := hk.dl q2
          rw [hy, cached o e3] at hle
          have hle : y.toInt ≤ c.toInt + -1 := hle
          exact Or.inr (by omega)
    | false =>
      have h : (bif Nat.ble 2 (pkd t.1) then _ else (decide (((pkd t.1 : Nat) : Int) ≤ xlo ev rl v) || (match acaf ca (pcl t.1) (pfl t.1) with
        | some o => pId ev o 0 && dle ev rl o i 0
        | none => false))) = true := h
      rw [e2] at h
      have h : (decide (((pkd t.1 : Nat) : Int) ≤ xlo ev rl v) || (match acaf ca (pcl t.1) (pfl t.1) with
        | some o => pId ev o 0 && dle ev rl o i 0
        | none => false)) = true := h
      have hk1 : pkd t.1 ≤ 1 := by
        rcases Nat.lt_or_ge (pkd t.1) 2 with h9 | h9
        · omega
        · rw [Nat.ble_eq.mpr h9] at e2
          cases e2
      rw [Bool.or_eq_true] at h
      refine Or.inl ⟨hk1, fun hi => ?_⟩
      rcases h with h | h
      · have h := of_decide_eq_true h
        omega
      · cases e3 : acaf ca (pcl t.1) (pfl t.1) with
        | none => rw [e3] at h; cases h
        | some o =>
          rw [e3] at h
          obtain ⟨q1, q2⟩ := and2 h
          have hle := hk.dl q2
          rw [hx, cached o e3] at hle
          have hle : c.toInt ≤ x.toInt + 0 := hle
          rw [tnc h0] at hi
          omega
theorem sAld_ok (X : ZC p s m args meth c cc nL own G A ret nm) {kd : Nat} (hk : kd ≤ 2) (hdg : (kd = 0 → decode cc pc = .ok (.iaload, 1)) ∧ (kd = 1 → decode cc pc = .ok (.laload, 1)) ∧ (kd = 2 → decode cc pc = .ok (.baload, 1))) (hK : ∀ pc σ, K pc σ = true → AQ p l e R s m args below meth c nL G A Q kc ks ad T mk w0 pin σ pc) (hf : afr (lv, st, ev, ca, rl, nx) = true) (h : sAld T K pc kd lv st ev ca rl nx = true) : AQ p l e R s m args below meth c nL G A Q kc ks ad T mk w0 pin (lv, st, ev, ca, rl, nx) pc := by
  match st, h, hf with
  | [], h, _ => cases h
  | [x], h, _ => cases h
  | i :: a :: st, h, hf =>
    obtain ⟨h1, h⟩ := and2 h
    obtain ⟨h2, h⟩ := and2 h
    cases hT : T[(aty ev a).2.1.toNat]? with
    | none => rw [hT] at h; cases h
    | some te =>
      rw [hT] at h
      cases te with
      | inl o => cases h
      | inr o =>
        obtain ⟨kd', n, t⟩ := o
        obtain ⟨h3, h⟩ := and2 h
        obtain ⟨h4, h⟩ := and2 h
        have e3 : kd' = kd := Nat.eq_of_beq_eq_true h3
        subst e3
        refine az_ald hk (pId_ok h1) hT (pId_ok h2) h4 hf (fun ν ws g1 v hv => ?_) (fun k0 => by
          cases kd' with
          | zero => exact absurd rfl k0
          | succ n => rfl) (fun k0 ν ws g1 b f x g2 g3 g4 g5 g6 => by subst k0; exact aldT_ok hT g1 g2 g3 g4 g5 g6) (fun k0 => by
          cases kd' with
          | zero => exact absurd rfl k0
          | succ n => rfl) (fun k0 b f x lw rest ws w1 w2 kz => z_iald X (hdg.1 k0) _ w1 w2 rfl kz) (fun k0 b f x lw rest ws w1 w2 kz => z_lald X (hdg.2.1 k0) _ w1 w2 rfl kz) (fun k0 b f x lw rest ws w1 w2 kz => z_zald X (hdg.2.2 k0) _ w1 w2 rfl kz) (hK _ _ h)
        cases kd' with
        | zero =>
          obtain ⟨x, hx⟩ := g1.int (pId_ok h2)
          have hin := g1.inr h4 hx
          exact aldN_ok hT g1 (fun b f x w1 w2 w3 => hv b f x rfl w1 w2 w3) ⟨x, hx, hin.2⟩
        | succ n => exact fun q hq => by cases hq
theorem sAst_ok (X : ZC p s m args meth c cc nL own G A ret nm) {kd : Nat} (hk : kd ≤ 2) (hdg : (kd = 0 → decode cc pc = .ok (.iastore, 1)) ∧ (kd = 1 → decode cc pc = .ok (.lastore, 1)) ∧ (kd = 2 → decode cc pc = .ok (.bastore, 1))) (hK : ∀ pc σ, K pc σ = true → AQ p l e R s m args below meth c nL G A Q kc ks ad T mk w0 pin σ pc) (h : sAst T mk K pc kd lv st ev ca rl nx = true) : AQ p l e R s m args below meth c nL G A Q kc ks ad T mk w0 pin (lv, st, ev, ca, rl, nx) pc := by
  match st, h with
  | [], h => cases h
  | [x], h => cases h
  | [x, y], h => cases h
  | v :: i :: a :: st, h =>
    obtain ⟨h1, h⟩ := and2 h
    obtain ⟨h2, h⟩ := and2 h
    cases hT : T[(aty ev a).2.1.toNat]? with
    | none => rw [hT] at h; cases h
    | some te =>
      rw [hT] at h
      cases te with
      | inl o => cases h
      | inr o =>
        obtain ⟨kd', n, t⟩ := o
        obtain ⟨h3, hB⟩ := and2 h
        obtain ⟨h4, hB2⟩ := and2 hB
        obtain ⟨h5, hB3⟩ := and2 hB2
        obtain ⟨h6, hB4⟩ := and2 hB3
        obtain ⟨h7, hB5⟩ := and2 hB4
        have e3 : kd' = kd := Nat.eq_of_beq_eq_true h3
        subst e3
        refine az_ast hk (pId_ok h1) hT (pId_ok h2) h4 h5 (fun k0 => ?_) (fun k0 ν ws g1 x y g2 g3 g4 => by subst k0; exact astB_ok g1 h6 g2 g3 g4) h7 (fun k0 b f x y lw rest ws w1 w2 kz => z_iast X (hdg.1 k0) _ w1 w2 rfl kz) (fun k0 b f x y lw rest ws w1 w2 kz => z_last X (hdg.2.1 k0) _ w1 w2 rfl kz) (fun k0 b f x y lw rest ws w1 w2 kz => z_zast X (hdg.2.2 k0) _ w1 w2 rfl kz) (hK _ _ hB5)
        rw [k0] at h6
        obtain ⟨g1, g3⟩ := and2 h6
        obtain ⟨g1, g2⟩ := and2 g1
        exact ⟨⟨of_decide_eq_true g1, of_decide_eq_true g2⟩, Nat.eq_of_beq_eq_true g3⟩
theorem sAld3_ok (X : ZC p s m args meth c cc nL own G A ret nm) (hdg : decode cc pc = .ok (.aaload, 1)) (hK : ∀ pc σ, K pc σ = true → AQ p l e R s m args below meth c nL G A Q kc ks ad T mk w0 pin σ pc) (hf : afr (lv, st, ev, ca, rl, nx) = true) (h : sAld3 T K pc lv st ev ca rl nx = true) : AQ p l e R s m args below meth c nL G A Q kc ks ad T mk w0 pin (lv, st, ev, ca, rl, nx) pc := by
  match st, h, hf with
  | [], h, _ => cases h
  | [x], h, _ => cases h
  | i :: a :: st, h, hf =>
    obtain ⟨h1, h⟩ := and2 h
    obtain ⟨h2, h⟩ := and2 h
    cases hT : T[(aty ev a).2.1.toNat]? with
    | none => rw [hT] at h; cases h
    | some te =>
      rw [hT] at h
      cases te with
      | inl o => cases h
      | inr o =>
        obtain ⟨kd', n, t⟩ := o
        obtain ⟨h3, h⟩ := and2 h
        obtain ⟨h4, h⟩ := and2 h
        have e3 : kd' = 3 := Nat.eq_of_beq_eq_true h3
        subst e3
        exact az_ald3 (pId_ok h1) hT (pId_ok h2) h4 hf (fun b f x z lw rest ws w1 w2 w3 kz => z_oald X hdg _ w1 w2 (by rw [w3]; rfl) kz) (fun j hj => hK _ _ (List.all_eq_true.mp h j hj))
end AZ8
end
section
/-! branches, calls, ends: sound -/
theorem va_nd_of : ∀ (l : List Nat), l.Nodup → va_nd l = true
  | [], _ => rfl
  | a :: l, h => by
    have h1 := List.nodup_cons.mp h
    show (decide (a ∉ l) && va_nd l) = true
    rw [decide_eq_true h1.1, va_nd_of l h1.2]
    rfl
theorem va_nd_range (n : Nat) : va_nd (List.range n) = true := va_nd_of _ List.nodup_range
theorem range_pick {α : Type} (ws : List α) : (List.range ws.length).map (fun i => ws[i]?) = ws.map some := by
  refine List.ext_getElem (by simp) (fun i q1 q2 => ?_)
  have hi : i < ws.length := by simpa using q2
  simp [List.getElem?_eq_getElem hi]
/-- a static method that the library runs: its row -/
def MROW (l : Launch) (G : KG) (own : String) (T : List TE) (q : CAL) : Prop := ∀ {p : Program} {e : Env} {R : Room} {s : State} {m : MethodId} {args : Array Value} {below : List Frame} {meth : Method} {c : Code} {nL : Nat} {A : Nat → Prop} {Q : State → Prop} {cc : ByteArray} {ret : Option FieldType} {nm : String} {kc ks pc : Nat} {ad : Nat → Nat}, ZC p s m args meth c cc nL own G A ret nm → decode cc pc = .ok (.invokestatic q.1, 3) → q.2.2.2.2.2.2.2.2.1 + 1 ≤ R.frames → 8 + (q.2.2.1 + 11) + q.2.2.2.2.2.2.2.2.2 ≤ R.locals → kc ≤ R.cells → ks ≤ R.slots →
    ∀ (lw : List (Nat × Value)) (rest : List Value) (ws : va_W) (μ : Nat → Value), (rest.map fun v => v.category).sum ≤ 8 → WT G ad T ws → PRE ad q.2.2.2 μ ws → (∀ (r : Option Value) (w1 : va_W), POST G ad T q.2.2.2 μ ws r w1 → Z p l e R s m args below meth c nL G A Q (pc + 3) lw (r.toList ++ rest) w1 kc ks) → Z p l e R s m args below meth c nL G A Q pc lw (((List.range q.2.2.2.1.length).map μ).reverse ++ rest) ws kc ks
def COK (l : Launch) (G : KG) (own : String) (T : List TE) (q : CAL) : Prop :=
  (q.2.1 = 0 ∧ ∃ (Cn : String) (y : MethodName) (cy : ByteArray) (rt : Option FieldType) (n k ci : Nat) (ts : List VT) (t : VT) (vc : vw_C), (LkV own q.1 Cn y cy q.2.2.1 rt n ∨ LnV own q.1 Cn y cy q.2.2.1 rt n) ∧ ACt l G T y cy q.2.2.1 rt q.2.2.2 ∧ q.2.2.2.1.length = n + 1 ∧ q.2.2.2.1[0]? = some t ∧ t.1 = 2 ∧ t.2.1.toNat = k ∧ T[k]? = some (.inl (ci, ts)) ∧ vwCl[ci]? = some vc ∧ vc.1 = Cn) ∨
  (q.2.1 = 1 ∧ ∃ (y : MethodName) (cy : ByteArray) (rt : Option FieldType) (n : Nat), (LkS own q.1 y cy q.2.2.1 rt n ∨ LnS own q.1 y cy q.2.2.1 rt n) ∧ ACt l G T y cy q.2.2.1 rt q.2.2.2 ∧ q.2.2.2.1.length = n) ∨
  (q.2.1 = 1 ∧ MROW l G own T q)
section AZ9
variable {p : Program} {l : Launch} {e : Env} {R : Room} {s : State} {m : MethodId} {args : Array Value} {below : List Frame} {meth : Method} {c : Code} {nL : Nat} {G : KG} {A : Nat → Prop} {Q : State → Prop} {cc : ByteArray} {own : String} {ret : Option FieldType} {nm : String} {kc ks : Nat}
variable {ad : Nat → Nat} {T : List TE} {mk : List (Nat × Nat)} {w0 : va_W} {pin : List (Nat × Value)}
variable {lv : ALv} {st : List Nat} {ev : AEv} {ca : ACa} {rl : ARl} {nx pc : Nat} {K : KT}
theorem tgt_eq {pc : Nat} {off : Int} (h : 0 ≤ (pc : Int) + off) : (pc : Int) + off = (tgtOf pc off : Int) := by
  unfold tgtOf
  omega
theorem sJ_ok {σ : Option (AEv × ARl)} (hK : ∀ pc σ, K pc σ = true → AQ p l e R s m args below meth c nL G A Q kc ks ad T mk w0 pin σ pc) (h : sJ K pc lv st ca nx σ = true) : ∀ q, σ = some q → AQ p l e R s m args below meth c nL G A Q kc ks ad T mk w0 pin (lv, st, q.1, ca, q.2, nx) pc := by
  intro q e
  subst e
  exact hK _ _ h
set_option maxHeartbeats 1000000 in
theorem sBr_ok (X : ZC p s m args meth c cc nL own G A ret nm) {co : Jvm.ClassFile.Cond} {off : Int} (hdg : decode cc pc = .ok (.if_icmp co off, 3)) (hK : ∀ pc σ, K pc σ = true → AQ p l e R s m args below meth c nL G A Q kc ks ad T mk w0 pin σ pc) (h : sBr K pc (ccode co) off lv st ev ca rl nx = true) : AQ p l e R s m args below meth c nL G A Q kc ks ad T mk w0 pin (lv, st, ev, ca, rl, nx) pc := by
  match st, h with
  | [], h => cases h
  | [x], h => cases h
  | y :: x :: st, h =>
    obtain ⟨h1, h⟩ := and2 h
    obtain ⟨h2, h⟩ := and2 h
    obtain ⟨h3, h⟩ := and2 h
    obtain ⟨h4, h5⟩ := and2 h
    have ht := tgt_eq (of_decide_eq_true h3)
    refine az_br (by decide) (pId_ok h1) (pId_ok h2) ?_ (sJ_ok hK h4) (sJ_ok hK h5)
    rintro _ _ lw rest ws ⟨a, rfl⟩ ⟨b, rfl⟩ kt kf
    cases co with
    | eq => exact zc_eq X hdg ht rfl rfl kt kf
    | ne => exact zc_ne X hdg ht rfl rfl kt kf
    | lt => exact zc_lt X hdg ht rfl rfl kt kf
    | ge => exact zc_ge X hdg ht rfl rfl kt kf
    | gt => exact zc_gt X hdg ht rfl rfl kt kf
    | le => exact zc_le X hdg ht rfl rfl kt kf
set_option maxHeartbeats 1000000 in
theorem sBr0_ok (X : ZC p s m args meth c cc nL own G A ret nm) {co : Jvm.ClassFile.Cond} {off : Int} (hdg : decode cc pc = .ok (.ifCond co off, 3)) (hf : afr (lv, st, ev, ca, rl, nx) = true) (hK : ∀ pc σ, K pc σ = true → AQ p l e R s m args below meth c nL G A Q kc ks ad T mk w0 pin σ pc) (h : sBr0 K pc (ccode co) off lv st ev ca rl nx = true) : AQ p l e R s m args below meth c nL G A Q kc ks ad T mk w0 pin (lv, st, ev, ca, rl, nx) pc := by
  match st, h, hf with
  | [], h, _ => cases h
  | x :: st, h, hf =>
    obtain ⟨h1, h⟩ := and2 h
    obtain ⟨h3, h⟩ := and2 h
    obtain ⟨h4, h5⟩ := and2 h
    have ht := tgt_eq (of_decide_eq_true h3)
    refine az_br0 (pId_ok h1) hf ?_ (sJ_ok hK h4) (sJ_ok hK h5)
    rintro _ lw rest ws ⟨a, rfl⟩ kt kf
    cases co with
    | eq => exact zi_eq X hdg ht rfl kt kf
    | ne => exact zi_ne X hdg ht rfl kt kf
    | lt => exact zi_lt X hdg ht rfl kt kf
    | ge => exact zi_ge X hdg ht rfl kt kf
    | gt => exact zi_gt X hdg ht rfl kt kf
    | le => exact zi_le X hdg ht rfl kt kf
theorem sJn_ok {co x y : Nat} {ν : Nat → Value} {lw : List (Nat × Value)} {ws : va_W} (hK : ∀ pc σ, K pc σ = true → AQ p l e R s m args below meth c nL G A Q kc ks ad T mk w0 pin σ pc) (h : sJn K pc co x y lv st ev ca rl nx = true) (h1 : lw = lv.map (fun q => (q.1, ν q.2.1))) (h3 : AK G ad T mk w0 pin (lv, st, ev, ca, rl, nx) ν ws) (hc : chold co (vI (ν x)) (vI (ν y))) : ZF p l e R s m args below meth c nL G A Q kc ks pc lw (st.map ν) ws := by
  have go : ∀ k, chold k (vI (ν x)) (vI (ν y)) → sJ K pc lv st ca nx (atk k x y ev rl) = true → ZF p l e R s m args below meth c nL G A Q kc ks pc lw (st.map ν) ws := by
    intro k hk hj
    obtain ⟨q, e, h4⟩ := h3.tk hk
    exact sJ_ok hK hj q e ν _ _ ws ⟨h1, rfl, h4⟩
  unfold sJn at h
  cases hb : Nat.beq co 1 with
  | false =>
    rw [hb] at h
    exact go co hc h
  | true =>
    rw [hb] at h
    obtain ⟨g1, g2⟩ := and2 h
    have e1 : co = 1 := Nat.eq_of_beq_eq_true hb
    subst e1
    have hc : vI (ν x) ≠ vI (ν y) := hc
    rcases Int.lt_or_gt_of_ne hc with h5 | h5
    · exact go 2 h5 g1
    · exact go 4 h5 g2
set_option maxHeartbeats 1000000 in
theorem sBrL_ok (X : ZC p s m args meth c cc nL own G A ret nm) {co : Jvm.ClassFile.Cond} {off : Int} (hd0 : decode cc pc = .ok (.lcmp, 1)) (hdg : decode cc (pc + 1) = .ok (.ifCond co off, 3)) (hK : ∀ pc σ, K pc σ = true → AQ p l e R s m args below meth c nL G A Q kc ks ad T mk w0 pin σ pc) (h : sBrL K pc (ccode co) off lv st ev ca rl nx = true) : AQ p l e R s m args below meth c nL G A Q kc ks ad T mk w0 pin (lv, st, ev, ca, rl, nx) pc := by
  match st, h with
  | [], h => cases h
  | [x], h => cases h
  | y :: x :: st, h =>
    obtain ⟨h1, h⟩ := and2 h
    obtain ⟨h2, h⟩ := and2 h
    obtain ⟨h3, h⟩ := and2 h
    obtain ⟨h4, h5⟩ := and2 h
    have ht := tgt_eq (of_decide_eq_true h3)
    intro ν lw sw ws hg
    obtain ⟨g1, g2, g3⟩ := hg
    have g3 : AK G ad T mk w0 pin (lv, st, ev, ca, rl, nx) ν ws := g3
    have g2 : sw = ν y :: ν x :: st.map ν := g2
    obtain ⟨a, ha⟩ := g3.long (pId_ok h1)
    obtain ⟨b, hb⟩ := g3.long (pId_ok h2)
    have kt : chold (ccode co) a.toInt b.toInt → ZF p l e R s m args below meth c nL G A Q kc ks (tgtOf (pc + 1) off) lw (st.map ν) ws := fun q => sJn_ok hK h4 g1 g3 (by rw [ha, hb]; exact q)
    have kf : chold (cneg (ccode co)) a.toInt b.toInt → ZF p l e R s m args below meth c nL G A Q kc ks (pc + 4) lw (st.map ν) ws := fun q => sJn_ok hK h5 g1 g3 (by rw [ha, hb]; exact q)
    rw [g2, ha, hb]
    cases co with
    | eq => exact zl_eq X hd0 hdg ht rfl rfl kt kf
    | ne => exact zl_ne X hd0 hdg ht rfl rfl kt kf
    | lt => exact zl_lt X hd0 hdg ht rfl rfl kt kf
    | ge => exact zl_ge X hd0 hdg ht rfl rfl kt kf
    | gt => exact zl_gt X hd0 hdg ht rfl rfl kt kf
    | le => exact zl_le X hd0 hdg ht rfl rfl kt kf
theorem sGo_ok (X : ZC p s m args meth c cc nL own G A ret nm) {off : Int} {σ : AS} (hdg : decode cc pc = .ok (.goto off, 3)) (hK : ∀ pc σ, K pc σ = true → AQ p l e R s m args below meth c nL G A Q kc ks ad T mk w0 pin σ pc) (h : sGo K pc off σ = true) : AQ p l e R s m args below meth c nL G A Q kc ks ad T mk w0 pin σ pc := by
  obtain ⟨h1, h2⟩ := and2 h
  intro ν lw sw ws hg
  exact z_goto X hdg (tgt_eq (of_decide_eq_true h1)) (hK _ _ h2 ν lw sw ws hg)
theorem sTab_ok (X : ZC p s m args meth c cc nL own G A ret nm) {dflt lo hi : Int} {offs : Array Int} {len : Nat} (hdg : decode cc pc = .ok (.tableswitch dflt lo hi offs, len)) (hK : ∀ pc σ, K pc σ = true → AQ p l e R s m args below meth c nL G A Q kc ks ad T mk w0 pin σ pc) (h : sTab K pc dflt lo hi offs.toList lv st ev ca rl nx = true) : AQ p l e R s m args below meth c nL G A Q kc ks ad T mk w0 pin (lv, st, ev, ca, rl, nx) pc := by
  match st, h with
  | [], h => cases h
  | x :: st, h =>
    obtain ⟨h1, h⟩ := and2 h
    obtain ⟨h2, h⟩ := and2 h
    obtain ⟨h3, h⟩ := and2 h
    obtain ⟨h4, h⟩ := and2 h
    obtain ⟨h5, h6⟩ := and2 h
    refine az_table (pId_ok h1) (of_decide_eq_true h2) rfl h3 (of_decide_eq_true h4) (fun v lw rest ws w1 kz => z_tableOut X hdg w1 (tgt_eq (of_decide_eq_true h2)) kz) (fun v off tgt lw rest ws w1 w2 w3 w4 kz => z_tableIn X hdg w1 w2 (by rw [← Array.getElem?_toList]; exact w3) w4 kz) (fun q => ?_) (fun q hq => hK _ _ (List.all_eq_true.mp h6 q hq))
    rw [q] at h5
    exact hK _ _ h5
theorem sLen_ok (X : ZC p s m args meth c cc nL own G A ret nm) (hdg : decode cc pc = .ok (.arraylength, 1)) (hf : afr (lv, st, ev, ca, rl, nx) = true) (hK : ∀ pc σ, K pc σ = true → AQ p l e R s m args below meth c nL G A Q kc ks ad T mk w0 pin σ pc) (h : sLen T K pc lv st ev ca rl nx = true) : AQ p l e R s m args below meth c nL G A Q kc ks ad T mk w0 pin (lv, st, ev, ca, rl, nx) pc := by
  match st, h, hf with
  | [], h, _ => cases h
  | a :: st, h, hf =>
    obtain ⟨h1, h⟩ := and2 h
    cases hT : T[(aty ev a).2.1.toNat]? with
    | none => rw [hT] at h; cases h
    | some te =>
      rw [hT] at h
      cases te with
      | inl o => cases h
      | inr o =>
        obtain ⟨kd, n, t⟩ := o
        obtain ⟨h2, h3⟩ := and2 h
        have h2 : n ≤ 2147483647 := Nat.le_of_ble_eq_true h2
        intro ν lw sw ws hg
        obtain ⟨g1, g2, g3⟩ := hg
        have g3 : AK G ad T mk w0 pin (lv, st, ev, ca, rl, nx) ν ws := g3
        have g2 : sw = ν a :: st.map ν := g2
        rw [g2, g3.ref (pId_ok h1)]
        have hn : (Int32.ofNat n).toInt = (n : Int) := tI_nI (n := n) (by omega)
        have kz := hK _ _ h3 _ lw _ ws (AG.push (st := st) (nr := []) (v := .int (Int32.ofNat n)) ⟨g1, rfl, g3⟩ (afr_pop hf) (vty_i (by rw [hn]; exact Int.le_refl _) (by rw [hn]; exact Int.le_refl _)) (fun q hq => by cases hq))
        obtain ⟨en, q1, q2⟩ := g3.2.2.2.2.2.1.arr hT
        rcases q2 with ⟨rfl, f, rfl, q3⟩ | ⟨rfl, f, rfl⟩ | ⟨rfl, f, rfl, q3⟩ | ⟨rfl, f, rfl, q3⟩
        · exact z_alen X hdg _ 0 q1 rfl rfl kz
        · exact z_alen X hdg _ 1 q1 rfl rfl kz
        · exact z_alen X hdg _ 2 q1 rfl rfl kz
        · exact z_alen X hdg _ 3 q1 rfl rfl kz
theorem sNul_ok (X : ZC p s m args meth c cc nL own G A ret nm) {off : Int} {j : Bool} (hdg : (j = false → decode cc pc = .ok (.ifnull off, 3)) ∧ (j = true → decode cc pc = .ok (.ifnonnull off, 3))) (hK : ∀ pc σ, K pc σ = true → AQ p l e R s m args below meth c nL G A Q kc ks ad T mk w0 pin σ pc) (h : sNul K pc off j lv st ev ca rl nx = true) : AQ p l e R s m args below meth c nL G A Q kc ks ad T mk w0 pin (lv, st, ev, ca, rl, nx) pc := by
  match st, h with
  | [], h => cases h
  | a :: st, h =>
    obtain ⟨h1, h⟩ := and2 h
    intro ν lw sw ws hg
    obtain ⟨g1, g2, g3⟩ := hg
    have g3 : AK G ad T mk w0 pin (lv, st, ev, ca, rl, nx) ν ws := g3
    have g2 : sw = ν a :: st.map ν := g2
    rw [g2, g3.ref (pId_ok h1)]
    cases j with
    | false => exact z_ifnull X (hdg.1 rfl) (hK _ _ h ν lw _ ws ⟨g1, rfl, g3⟩)
    | true =>
      obtain ⟨h2, h3⟩ := and2 h
      exact z_ifnonnull X (hdg.2 rfl) (tgt_eq (of_decide_eq_true h2)) (hK _ _ h3 ν lw _ ws ⟨g1, rfl, g3⟩)
theorem look_off (ps : List (Int × Int)) (d k : Int) : Op.lookupswitch.offset ps d k = d ∨ ∃ q ∈ ps, q.1 = k ∧ Op.lookupswitch.offset ps d k = q.2 := by
  cases hf : ps.find? (fun q => q.1 == k) with
  | none => exact Or.inl (Op.lookupswitch.offset_none hf)
  | some q =>
    obtain ⟨a, o⟩ := q
    have h1 := List.find?_some hf
    exact Or.inr ⟨(a, o), List.mem_of_find?_eq_some hf, by simpa using h1, Op.lookupswitch.offset_some hf⟩
theorem sLook_ok (X : ZC p s m args meth c cc nL own G A ret nm) {dflt : Int} {ps : Array (Int × Int)} {len : Nat} (hdg : decode cc pc = .ok (.lookupswitch dflt ps, len)) (hK : ∀ pc σ, K pc σ = true → AQ p l e R s m args below meth c nL G A Q kc ks ad T mk w0 pin σ pc) (h : sLook K pc dflt ps.toList lv st ev ca rl nx = true) : AQ p l e R s m args below meth c nL G A Q kc ks ad T mk w0 pin (lv, st, ev, ca, rl, nx) pc := by
  match st, h with
  | [], h => cases h
  | x :: st, h =>
    obtain ⟨h1, h⟩ := and2 h
    obtain ⟨h2, h⟩ := and2 h
    obtain ⟨h3, h⟩ := and2 h
    obtain ⟨h4, h5⟩ := and2 h
    intro ν lw sw ws hg
    obtain ⟨g1, g2, g3⟩ := hg
    have g3 : AK G ad T mk w0 pin (lv, st, ev, ca, rl, nx) ν ws := g3
    have g2 : sw = ν x :: st.map ν := g2
    obtain ⟨a, ha⟩ := g3.int (pId_ok h1)
    rw [g2, ha]
    rcases look_off ps.toList dflt a.toInt with e | ⟨q, hq, e1, e2⟩
    · exact z_lookup X hdg h2 e (tgt_eq (of_decide_eq_true h3)) (hK _ _ h4 ν lw _ ws ⟨g1, rfl, g3⟩)
    · obtain ⟨k1, k2⟩ := and2 (List.all_eq_true.mp h5 q hq)
      exact z_lookup X hdg h2 e2 (tgt_eq (of_decide_eq_true k1)) (hK _ _ k2 ν lw _ ws ⟨g1, rfl, g3.is (pId_ok h1) (by rw [ha]; exact e1.symm)⟩)
theorem scat_ok {ν : Nat → Value} {ws : va_W} (h : AK G ad T mk w0 pin (lv, st, ev, ca, rl, nx) ν ws) : ∀ (l : List Nat), scat ev l ≤ 8 → ((l.map ν).map fun v => v.category).sum ≤ scat ev l
  | [], _ => by simp [scat]
  | i :: l, hs => by
    have h0 : (bif Nat.beq (aty ev i).1 1 then 2 else bif Nat.ble (aty ev i).1 3 then 1 else 9) + scat ev l ≤ 8 := hs
    have ih := scat_ok h l (by omega)
    have h1 : (ν i).category ≤ bif Nat.beq (aty ev i).1 1 then 2 else bif Nat.ble (aty ev i).1 3 then 1 else 9 := by
      rcases aty_sound (ad := ad) (ν := ν) ev i h.2.1 with e9 | ht
      · rw [e9] at h0
        have h0 : 9 + scat ev l ≤ 8 := h0
        omega
      · rcases ht with ⟨e, ⟨x, hx⟩, -⟩ | ⟨e, ⟨x, hx⟩, -⟩ | ⟨e, hx⟩ | ⟨e, hx | ⟨a, hx⟩⟩
        all_goals (rw [e, hx]; first | exact Nat.le_refl 1 | exact Nat.le_refl 2)
    simp only [List.map_cons, List.sum_cons]
    show _ ≤ (bif Nat.beq (aty ev i).1 1 then 2 else bif Nat.ble (aty ev i).1 3 then 1 else 9) + scat ev l
    omega
theorem atch_ok {ZZ : ZZT} : ∀ (l : List (Nat × Nat × VT)) (ev : AEv) (ca : ACa) (nx : Nat) (q : AEv × ACa × Nat), atch T l ev ca nx = some q → afr (lv, st, q.1, q.2.1, rl, q.2.2) = true → afr (lv, st, ev, ca, rl, nx) = true → AZ ZZ G ad T mk w0 pin (lv, st, q.1, q.2.1, rl, q.2.2) pc → AZ ZZ G ad T mk w0 pin (lv, st, ev, ca, rl, nx) pc
  | [], ev, ca, nx, q, h, _, _, k => by
    cases h
    exact k
  | f :: l, ev, ca, nx, q, h, hq, hf, k => by
    unfold atch at h
    cases h1 : acaf ca f.1 f.2.1 with
    | some i =>
      rw [h1] at h
      exact atch_ok l ev ca nx q h hq hf k
    | none =>
      rw [h1] at h
      cases hT : T[f.1]? with
      | none => rw [hT] at h; cases h
      | some te =>
        rw [hT] at h
        cases te with
        | inr o => cases h
        | inl o =>
          obtain ⟨ci, ts⟩ := o
          cases ht : ts[f.2.1]? with
          | none => simp only [ht] at h; cases h
          | some t =>
            simp only [ht] at h
            refine az_touch hT ht hf (atch_ok l _ _ _ q h hq ?_ k)
            obtain ⟨f0, f1, f2, f3, f4, f5⟩ := afr_ok hf
            unfold afr
            simp only [Bool.and_eq_true, List.all_eq_true]
            have lt : ∀ {a b : Nat}, a < b → Nat.blt a b = true := fun h => Nat.ble_eq_true_of_le h
            refine ⟨Nat.ble_eq_true_of_le (by omega), fun q hq => lt (Nat.lt_succ_of_lt (f1 q hq)), fun q hq => lt (Nat.lt_succ_of_lt (f2 q hq)), fun q hq => ?_, fun q hq => ?_, fun q hq => ⟨lt (Nat.lt_succ_of_lt (f5 q hq).1), lt (Nat.lt_succ_of_lt (f5 q hq).2)⟩⟩
            · rcases List.mem_cons.mp hq with e | hq
              · rw [e]; exact lt (Nat.lt_succ_self nx)
              · exact lt (Nat.lt_succ_of_lt (f3 q hq))
            · rcases List.mem_cons.mp hq with e | hq
              · rw [e]; exact lt (Nat.lt_succ_self nx)
              · exact lt (Nat.lt_succ_of_lt (f4 q hq))
theorem atg_ok {ZZ : ZZT} {is : List Nat} {σ : AS} (k : AZ ZZ G ad T mk w0 pin (atg is σ) pc) : AZ ZZ G ad T mk w0 pin σ pc := by
  obtain ⟨lv, st, ev, ca, rl, nx⟩ := σ
  intro ν lw sw ws h
  obtain ⟨h1, h2, h3⟩ := h
  have h3 : AK G ad T mk w0 pin (lv, st, ev, ca, rl, nx) ν ws := h3
  refine k ν lw sw ws ⟨h1, h2, h3.1, fun q hq => ?_, h3.2.2⟩
  rcases List.mem_append.mp hq with hq | hq
  · obtain ⟨i, hi, rfl⟩ := List.mem_map.mp hq
    have hn : isNum (aty ev i) = true := (List.mem_filter.mp hi).2
    have hv : vty ad (aty ev i) (ν i) := (aty_sound ev i h3.2.1).resolve_left (fun e => by
      have : (aty ev i).1 ≤ 1 := Nat.le_of_ble_eq_true hn
      omega)
    exact vty_cut hv hn (h3.lo2 i) (h3.hi2 i)
  · exact h3.2.1 q hq
set_option maxHeartbeats 1000000 in
theorem call_row (X : ZC p s m args meth c cc nL own G A ret nm) {q : CAL} (hcok : COK l G own T q) (hdg : (q.2.1 = 0 → decode cc pc = .ok (.invokevirtual q.1, 3)) ∧ (q.2.1 = 1 → decode cc pc = .ok (.invokestatic q.1, 3))) (hR1 : q.2.2.2.2.2.2.2.2.1 + 1 ≤ R.frames) (hR2 : 8 + (q.2.2.1 + 11) + q.2.2.2.2.2.2.2.2.2 ≤ R.locals) (hkc : kc ≤ R.cells) (hks : ks ≤ R.slots)
    (lw : List (Nat × Value)) (rest : List Value) (ws : va_W) (μ : Nat → Value) (hcat : (rest.map fun v => v.category).sum ≤ 8) (hW : WT G ad T ws) (hP : PRE ad q.2.2.2 μ ws) (kk : ∀ (r : Option Value) (w1 : va_W), POST G ad T q.2.2.2 μ ws r w1 → ZF p l e R s m args below meth c nL G A Q kc ks (pc + 3) lw (r.toList ++ rest) w1) : ZF p l e R s m args below meth c nL G A Q kc ks pc lw (((List.range q.2.2.2.1.length).map μ).reverse ++ rest) ws := by
  rcases hcok with ⟨k0, Cn, y, cy, rt, n, k, ci, ts, t, vc, hL, hA, hn, ht0, ht1, ht2, hT, hv1, hv2⟩ | ⟨k0, y, cy, rt, n, hL, hA, hn⟩ | ⟨k0, hM⟩
  · have hM := hA ad ws μ hW hP
    have hd := hdg.1 k0
    have e0 : μ 0 = .ref (ad k) := by
      have := vty2 (hP.1 0 t ht0) ht1
      rw [ht2] at this
      exact this
    have eA : (List.range q.2.2.2.1.length).map μ = .ref (ad k) :: (List.range n).map (fun i => μ (i + 1)) := by
      rw [hn, List.range_succ_eq_map, List.map_cons, e0, List.map_map]
      rfl
    rw [eA] at hM ⊢
    obtain ⟨en, w1, fs, rfl, w2, w3⟩ := hW.2.1 k _ hT
    have est : ((.ref (ad k) :: (List.range n).map (fun i => μ (i + 1))).reverse ++ rest : List Value) = ((List.range n).map (fun i => μ (i + 1))).reverse ++ .ref (ad k) :: rest := by simp
    rcases hL with hL | hL
    · exact z_callV (wr := []) (rm := rmOf q.2.2.2) X hL hM hd k w1 hv1 hv2 ⟨hR1, hR2⟩ ⟨hkc, hks⟩ (by simp) est hcat (List.range ws.length) [] (range_pick ws) (va_nd_range _) rfl rfl rfl (fun r w1 hp => kk r w1 hp)
    · exact z_callVN (wr := []) (rm := rmOf q.2.2.2) X hL hM hd k w1 hv1 hv2 ⟨hR1, hR2⟩ ⟨hkc, hks⟩ (by simp) est hcat (List.range ws.length) [] (range_pick ws) (va_nd_range _) rfl rfl rfl (fun r w1 hp => kk r w1 hp)
  · have hM := hA ad ws μ hW hP
    have hd := hdg.2 k0
    rcases hL with hL | hL
    · exact z_callS (wr := []) (rm := rmOf q.2.2.2) X hL hM hd ⟨hR1, hR2⟩ ⟨hkc, hks⟩ (by simp [hn]) rfl hcat (List.range ws.length) [] (range_pick ws) (va_nd_range _) rfl rfl rfl (fun r w1 hp => kk r w1 hp)
    · exact z_callSN (wr := []) (rm := rmOf q.2.2.2) X hL hM hd ⟨hR1, hR2⟩ ⟨hkc, hks⟩ (by simp [hn]) rfl hcat (List.range ws.length) [] (range_pick ws) (va_nd_range _) rfl rfl rfl (fun r w1 hp => kk r w1 hp)
  · exact hM X (hdg.2 k0) hR1 hR2 hkc hks lw rest ws μ hcat hW hP kk
theorem sCall_ok (X : ZC p s m args meth c cc nL own G A ret nm) {cal : List CAL} {kd idx : Nat} (hcal : ∀ q ∈ cal, COK l G own T q) (hdg : (kd = 0 → decode cc pc = .ok (.invokevirtual idx, 3)) ∧ (kd = 1 → decode cc pc = .ok (.invokestatic idx, 3))) (hkc : kc ≤ R.cells) (hks : ks ≤ R.slots) (hf : afr (lv, st, ev, ca, rl, nx) = true) (hK : ∀ pc σ, K pc σ = true → AQ p l e R s m args below meth c nL G A Q kc ks ad T mk w0 pin σ pc) (h : sCall T mk cal R.frames R.locals K pc kd idx lv st ev ca rl nx = true) : AQ p l e R s m args below meth c nL G A Q kc ks ad T mk w0 pin (lv, st, ev, ca, rl, nx) pc := by
  unfold sCall at h
  obtain ⟨q, hq, hh⟩ := List.any_eq_true.mp h
  obtain ⟨b1, hh2⟩ := and2 hh
  obtain ⟨b2, h⟩ := and2 hh2
  have h1 : idx = q.1 := (Nat.eq_of_beq_eq_true b1).symm
  have h2 : kd = q.2.1 := (Nat.eq_of_beq_eq_true b2).symm
  rw [h1, h2] at hdg
  unfold sCall1 at h
  cases ht : atch T q.2.2.2.2.1 ev ca nx with
  | none => simp only [ht] at h; cases h
  | some z =>
    obtain ⟨ev2, ca2, nx2⟩ := z
    simp only [ht] at h
    cases hp : acas ca2 q.2.2.2.2.1 with
    | none => simp only [hp] at h; cases h
    | some ps =>
      simp only [hp] at h
      obtain ⟨g1, h⟩ := and2 h
      obtain ⟨g2, h⟩ := and2 h
      obtain ⟨g3, h⟩ := and2 h
      obtain ⟨g4, h⟩ := and2 h
      obtain ⟨g5, h⟩ := and2 h
      obtain ⟨g6, h⟩ := and2 h
      obtain ⟨g7, h⟩ := and2 h
      obtain ⟨g8, h⟩ := and2 h
      obtain ⟨g9, h⟩ := and2 h
      obtain ⟨g10, h⟩ := and2 h
      obtain ⟨g11, h⟩ := and2 h
      obtain ⟨g12, h⟩ := and2 h
      refine atch_ok _ _ _ _ _ ht g1 hf ?_
      have est : st = ((st.take q.2.2.2.1.length).reverse).reverse ++ st.drop q.2.2.2.1.length := by rw [List.reverse_reverse, List.take_append_drop]
      have hn := Nat.le_of_ble_eq_true g2
      show AZ _ G ad T mk w0 pin (lv, st, ev2, ca2, rl, nx2) pc
      rw [est] at g1
      have hgoal : AZ (ZF p l e R s m args below meth c nL G A Q kc ks) G ad T mk w0 pin (lv, ((st.take q.2.2.2.1.length).reverse).reverse ++ st.drop q.2.2.2.1.length, ev2, ca2, rl, nx2) pc :=
        az_call (PR := fun rest => (rest.map fun v => v.category).sum ≤ 8) (fun ν ws hA => Nat.le_trans (scat_ok hA _ (Nat.le_of_ble_eq_true g7)) (Nat.le_of_ble_eq_true g7)) g1 (by simp [hn]) hp g8 g9 g10 g11 g12 (Nat.le_of_ble_eq_true g3) (Nat.le_of_ble_eq_true g4) (fun lw rest ws μ w0 w1 w2 w3 => call_row X (hcal q hq) hdg (Nat.le_of_ble_eq_true g5) (Nat.le_of_ble_eq_true g6) hkc hks lw rest ws μ w0 w1 w2 w3) (fun A' hA' => atg_ok (hK _ _ (List.all_eq_true.mp h A' hA')))
      rw [← est] at hgoal
      exact hgoal
end AZ9
end
section
/-! the end; every instruction; the run; a method's contract by its check -/
def RK (rk : Nat) (ret : Option FieldType) : Prop := (rk = 0 ∧ ret = none) ∨ (rk = 1 ∧ ret = some .int) ∨ (rk = 2 ∧ ret = some .long) ∨ (rk = 3 ∧ ret = some .boolean)
section AZA
variable {p : Program} {l : Launch} {e : Env} {R : Room} {s : State} {m : MethodId} {args : Array Value} {below : List Frame} {meth : Method} {c : Code} {nL : Nat} {G : KG} {A : Nat → Prop} {cc : ByteArray} {own : String} {ret : Option FieldType} {nm : String} {kc ks mc ms : Nat}
variable {ad : Nat → Nat} {T : List TE} {w0 : va_W} {pin : List (Nat × Value)} {C : CE} {μ : Nat → Value} {PO : Option Value → va_W → Prop}
variable {lv : ALv} {st : List Nat} {ev : AEv} {ca : ACa} {rl : ARl} {nx pc rk : Nat} {K : KT}
abbrev AR (p : Program) (l : Launch) (e : Env) (R : Room) (s : State) (m : MethodId) (args : Array Value) (below : List Frame) (meth : Method) (c : Code) (nL : Nat) (G : KG) (A : Nat → Prop) (mc ms kc ks : Nat) (ad : Nat → Nat) (T : List TE) (C : CE) (PO : Option Value → va_W → Prop) (w0 : va_W) (pin : List (Nat × Value)) (σ : AS) (pc : Nat) : Prop := AQ p l e R s m args below meth c nL G A (MQ below (QQ G A PO) args s mc ms A) kc ks ad T C.2.2.2.2.1 w0 pin σ pc
theorem sRet_ok (X : ZC p s m args meth c cc nL own G A ret nm) (hrk : RK rk ret) (hdg : (rk = 0 → decode cc pc = .ok (.return_, 1)) ∧ (rk = 1 ∨ rk = 3 → decode cc pc = .ok (.ireturn, 1)) ∧ (rk = 2 → decode cc pc = .ok (.lreturn, 1))) (hc : kc ≤ mc) (hs : ks ≤ ms) (hp1 : ∀ j, j < C.1.length → (j, μ j) ∈ pin) (hp2 : ∀ j, j < C.2.1.length → (100 + j, μ (100 + j)) ∈ pin) (hl1 : C.1.length ≤ 50) (hl2 : C.2.1.length ≤ 100) (hPO : ∀ r w1, POST G ad T C μ w0 r w1 → PO r w1) (h : sRet C rk st ev ca rl = true) : AR p l e R s m args below meth c nL G A mc ms kc ks ad T C PO w0 pin (lv, st, ev, ca, rl, nx) pc := by
  unfold sRet at h
  obtain ⟨A', hA, h⟩ := List.any_eq_true.mp h
  obtain ⟨h1, h2⟩ := and2 h
  intro ν lw sw ws hg
  obtain ⟨r, r1, r2, v, r3⟩ := AG.ret hA hg hp1 hp2 hl1 hl2 h2
  rw [r1]
  rcases hrk with ⟨rfl, e2⟩ | ⟨rfl, e2⟩ | ⟨rfl, e2⟩ | ⟨rfl, e2⟩
  · cases ha : A'.1 with
    | some t => rw [ha] at h1; cases h1
    | none =>
      rw [ha] at r3
      have r3 : r = none := r3
      subst r3
      exact z_vret X e2 (hdg.1 rfl) hc hs (hPO _ _ r2)
  · cases ha : A'.1 with
    | none => rw [ha] at h1; cases h1
    | some t =>
      rw [ha] at r3 h1
      obtain ⟨r4, r5⟩ := r3
      obtain ⟨x, rfl, -⟩ := vty0 r5 (Nat.eq_of_beq_eq_true h1)
      subst r4
      exact z_iret X e2 (hdg.2.1 (Or.inl rfl)) hc hs (hPO _ _ r2)
  · cases ha : A'.1 with
    | none => rw [ha] at h1; cases h1
    | some t =>
      rw [ha] at r3 h1
      obtain ⟨r4, r5⟩ := r3
      obtain ⟨x, rfl, -⟩ := vty1 r5 (Nat.eq_of_beq_eq_true h1)
      subst r4
      exact z_lret X e2 (hdg.2.2 rfl) hc hs (hPO _ _ r2)
  · cases ha : A'.1 with
    | none => rw [ha] at h1; cases h1
    | some t =>
      rw [ha] at r3 h1
      obtain ⟨r4, r5⟩ := r3
      obtain ⟨g1, g2⟩ := and2 h1
      obtain ⟨g2, g3⟩ := and2 g2
      have g2 := of_decide_eq_true g2
      have g3 := of_decide_eq_true g3
      obtain ⟨x, rfl, x1, x2⟩ := vty0 r5 (Nat.eq_of_beq_eq_true g1)
      subst r4
      exact z_zret X e2 (nar_z (by omega) (by omega)) (hdg.2.1 (Or.inr rfl)) hc hs (hPO _ _ r2)
theorem ofI8 {n : Int} (h1 : -128 ≤ n) (h2 : n ≤ 127) : (Int8.ofInt n).toInt32.toInt = n := by
  rw [Int8.toInt_toInt32, Int8.toInt_ofInt]
  show n.bmod 256 = n
  exact Int.bmod_eq_of_le (by omega) (by omega)
theorem ofI16 {n : Int} (h1 : -32768 ≤ n) (h2 : n ≤ 32767) : (Int16.ofInt n).toInt32.toInt = n := by
  rw [Int16.toInt_toInt32, Int16.toInt_ofInt]
  show n.bmod 65536 = n
  exact Int.bmod_eq_of_le (by omega) (by omega)
theorem ofL2 (n : Fin 2) : (Int64.ofNat (n : Nat)).toInt = ((n : Nat) : Int) := by
  match n with
  | 0 => rfl
  | 1 => rfl
theorem zst1 (X : ZC p s m args meth c cc nL own G A ret nm) {Q : State → Prop} {i : Nat} {x : Int32} {lw : List (Nat × Value)} {rest : List Value} {ws : va_W} (hdg : decode cc pc = .ok (.istore i, 2)) (hn : i < nL) (kk : Z p l e R s m args below meth c nL G A Q (pc + 2) (zs1 i (.int x) lw) rest ws kc ks) : Z p l e R s m args below meth c nL G A Q pc lw (.int x :: rest) ws kc ks := z_istore X hdg hn rfl kk
theorem zst2 (X : ZC p s m args meth c cc nL own G A ret nm) {Q : State → Prop} {i : Fin 4} {x : Int32} {lw : List (Nat × Value)} {rest : List Value} {ws : va_W} (hdg : decode cc pc = .ok (.istore_n i, 1)) (hn : (i : Nat) < nL) (kk : Z p l e R s m args below meth c nL G A Q (pc + 1) (zs1 i (.int x) lw) rest ws kc ks) : Z p l e R s m args below meth c nL G A Q pc lw (.int x :: rest) ws kc ks := z_istore_n X hdg rfl hn rfl kk
theorem zst3 (X : ZC p s m args meth c cc nL own G A ret nm) {Q : State → Prop} {i : Nat} {x : Nat} {lw : List (Nat × Value)} {rest : List Value} {ws : va_W} (hdg : decode cc pc = .ok (.astore i, 2)) (hn : i < nL) (kk : Z p l e R s m args below meth c nL G A Q (pc + 2) (zs1 i (.ref x) lw) rest ws kc ks) : Z p l e R s m args below meth c nL G A Q pc lw (.ref x :: rest) ws kc ks := z_astore X hdg hn rfl kk
theorem zst4 (X : ZC p s m args meth c cc nL own G A ret nm) {Q : State → Prop} {i : Fin 4} {x : Nat} {lw : List (Nat × Value)} {rest : List Value} {ws : va_W} (hdg : decode cc pc = .ok (.astore_n i, 1)) (hn : (i : Nat) < nL) (kk : Z p l e R s m args below meth c nL G A Q (pc + 1) (zs1 i (.ref x) lw) rest ws kc ks) : Z p l e R s m args below meth c nL G A Q pc lw (.ref x :: rest) ws kc ks := z_astore_n X hdg rfl hn rfl kk
theorem zst5 (X : ZC p s m args meth c cc nL own G A ret nm) {Q : State → Prop} {i : Nat} {x : Int64} {lw : List (Nat × Value)} {rest : List Value} {ws : va_W} (hdg : decode cc pc = .ok (.lstore i, 2)) (hn : i + 1 < nL) (kk : Z p l e R s m args below meth c nL G A Q (pc + 2) (zs2 i (.long x) lw) rest ws kc ks) : Z p l e R s m args below meth c nL G A Q pc lw (.long x :: rest) ws kc ks := z_lstore X hdg hn rfl kk
theorem zst6 (X : ZC p s m args meth c cc nL own G A ret nm) {Q : State → Prop} {i : Fin 4} {x : Int64} {lw : List (Nat × Value)} {rest : List Value} {ws : va_W} (hdg : decode cc pc = .ok (.lstore_n i, 1)) (hn : (i : Nat) + 1 < nL) (kk : Z p l e R s m args below meth c nL G A Q (pc + 1) (zs2 i (.long x) lw) rest ws kc ks) : Z p l e R s m args below meth c nL G A Q pc lw (.long x :: rest) ws kc ks := z_lstore_n X hdg rfl hn rfl kk
set_option maxHeartbeats 8000000 in
theorem sIns_ok (X : ZC p s m args meth c cc nL own G A ret nm) {fld : List (Nat × Nat × Nat)} {put : List (Nat × Nat × Nat × Nat)} {cst cstl : List (Nat × Int)} {cal : List CAL} {tab : DT} (htab : ∀ q ∈ tab, decode cc q.1 = .ok q.2) {i : Instr} {len : Nat} (hdg : decode cc pc = .ok (i, len)) (hrk : RK rk ret) (hc : kc ≤ mc) (hs : ks ≤ ms) (hp1 : ∀ j, j < C.1.length → (j, μ j) ∈ pin) (hp2 : ∀ j, j < C.2.1.length → (100 + j, μ (100 + j)) ∈ pin) (hl1 : C.1.length ≤ 50) (hl2 : C.2.1.length ≤ 100) (hPO : ∀ r w1, POST G ad T C μ w0 r w1 → PO r w1)
    (hF : ∀ q ∈ fld, FL own q.1 q.2.1 q.2.2 ∨ FN own q.1 q.2.1 q.2.2) (hP : ∀ q ∈ put, PA own q.1 q.2.1 q.2.2.1 q.2.2.2) (hC : ∀ q ∈ cst, ∃ x : Int32, x.toInt = q.2 ∧ Jvm.Cond.constant own q.1 x ∈ BIG) (hCl : ∀ q ∈ cstl, ∃ x : Int64, x.toInt = q.2 ∧ Jvm.Cond.constantLong own q.1 x ∈ BIG) (hcal : ∀ q ∈ cal, COK l G own T q) (hkc : kc ≤ R.cells) (hks : ks ≤ R.slots)
    (hf : afr (lv, st, ev, ca, rl, nx) = true) (hK : ∀ pc σ, K pc σ = true → AR p l e R s m args below meth c nL G A mc ms kc ks ad T C PO w0 pin σ pc) (h : sIns tab nL T C.2.2.2.2.1 fld put cst cstl cal R.frames R.locals rk C K pc len i lv st ev ca rl nx = true) : AR p l e R s m args below meth c nL G A mc ms kc ks ad T C PO w0 pin (lv, st, ev, ca, rl, nx) pc := by
  cases i with
  | iconst n =>
    obtain ⟨hl, h⟩ := and2 h
    have hl : len = 1 := Nat.eq_of_beq_eq_true hl
    rw [hl] at hdg
    obtain ⟨h1, h⟩ := and2 h
    obtain ⟨h2, h⟩ := and2 h
    have h1 := of_decide_eq_true h1
    have h2 := of_decide_eq_true h2
    exact sCon_ok hK hf (ofI32 (by omega) (by omega)) (fun lw rest ws kz => z_iconst X hdg rfl kz) h
  | bipush n =>
    obtain ⟨hl, h⟩ := and2 h
    have hl : len = 2 := Nat.eq_of_beq_eq_true hl
    rw [hl] at hdg
    obtain ⟨h1, h⟩ := and2 h
    obtain ⟨h2, h⟩ := and2 h
    exact sCon_ok hK hf (ofI8 (of_decide_eq_true h1) (of_decide_eq_true h2)) (fun lw rest ws kz => z_bipush X hdg rfl kz) h
  | sipush n =>
    obtain ⟨hl, h⟩ := and2 h
    have hl : len = 3 := Nat.eq_of_beq_eq_true hl
    rw [hl] at hdg
    obtain ⟨h1, h⟩ := and2 h
    obtain ⟨h2, h⟩ := and2 h
    exact sCon_ok hK hf (ofI16 (of_decide_eq_true h1) (of_decide_eq_true h2)) (fun lw rest ws kz => z_sipush X hdg rfl kz) h
  | lconst n =>
    obtain ⟨hl, h⟩ := and2 h
    have hl : len = 1 := Nat.eq_of_beq_eq_true hl
    rw [hl] at hdg
    exact az_con (fun lw rest ws kz => z_lconst X hdg rfl kz) hf (vty_l (by rw [ofL2]; exact Int.le_refl _) (by rw [ofL2]; exact Int.le_refl _)) (hK _ _ h)
  | ldc idx =>
    obtain ⟨hl, h⟩ := and2 h
    have hl : len = 2 := Nat.eq_of_beq_eq_true hl
    rw [hl] at hdg
    exact sLdc_ok hC hK hf (fun v hv lw rest ws kz => z_ldc X hdg hv kz) h
  | ldc_w idx =>
    obtain ⟨hl, h⟩ := and2 h
    have hl : len = 3 := Nat.eq_of_beq_eq_true hl
    rw [hl] at hdg
    exact sLdc_ok hC hK hf (fun v hv lw rest ws kz => z_ldcw X hdg hv kz) h
  | ldc2_w idx =>
    obtain ⟨hl, h⟩ := and2 h
    have hl : len = 3 := Nat.eq_of_beq_eq_true hl
    rw [hl] at hdg
    exact sLdcL_ok X hdg hCl hK hf h
  | iload k =>
    obtain ⟨hl, h⟩ := and2 h
    have hl : len = 2 := Nat.eq_of_beq_eq_true hl
    rw [hl] at hdg
    exact sLoad_ok (by decide) hK (by rintro _ lw rest ws q hq ⟨a, rfl⟩ kz; exact z_iload X hdg q hq kz) h
  | lload k =>
    obtain ⟨hl, h⟩ := and2 h
    have hl : len = 2 := Nat.eq_of_beq_eq_true hl
    rw [hl] at hdg
    exact sLoad_ok (by decide) hK (by rintro _ lw rest ws q hq ⟨a, rfl⟩ kz; exact z_lload X hdg q hq kz) h
  | aload k =>
    obtain ⟨hl, h⟩ := and2 h
    have hl : len = 2 := Nat.eq_of_beq_eq_true hl
    rw [hl] at hdg
    exact sLoad_ok (by decide) hK (by rintro _ lw rest ws q hq ⟨a, rfl⟩ kz; exact z_aload X hdg q hq kz) h
  | iload_n k =>
    obtain ⟨hl, h⟩ := and2 h
    have hl : len = 1 := Nat.eq_of_beq_eq_true hl
    rw [hl] at hdg
    exact sLoad_ok (by decide) hK (by rintro _ lw rest ws q hq ⟨a, rfl⟩ kz; exact z_iload_n X hdg rfl q hq kz) h
  | lload_n k =>
    obtain ⟨hl, h⟩ := and2 h
    have hl : len = 1 := Nat.eq_of_beq_eq_true hl
    rw [hl] at hdg
    exact sLoad_ok (by decide) hK (by rintro _ lw rest ws q hq ⟨a, rfl⟩ kz; exact z_lload_n X hdg rfl q hq kz) h
  | aload_n k =>
    obtain ⟨hl, h⟩ := and2 h
    have hl : len = 1 := Nat.eq_of_beq_eq_true hl
    rw [hl] at hdg
    exact sLoad_ok (by decide) hK (by rintro _ lw rest ws q hq ⟨a, rfl⟩ kz; exact z_aload_n X hdg rfl q hq kz) h
  | istore k =>
    obtain ⟨hl, h⟩ := and2 h
    have hl : len = 2 := Nat.eq_of_beq_eq_true hl
    rw [hl] at hdg
    exact sStore_ok (by decide) hK (by rintro hn _ lw rest ws ⟨a, rfl⟩ kz; exact zst1 X hdg hn kz) h
  | istore_n k =>
    obtain ⟨hl, h⟩ := and2 h
    have hl : len = 1 := Nat.eq_of_beq_eq_true hl
    rw [hl] at hdg
    exact sStore_ok (by decide) hK (by rintro hn _ lw rest ws ⟨a, rfl⟩ kz; exact zst2 X hdg hn kz) h
  | astore k =>
    obtain ⟨hl, h⟩ := and2 h
    have hl : len = 2 := Nat.eq_of_beq_eq_true hl
    rw [hl] at hdg
    exact sStore_ok (by decide) hK (by rintro hn _ lw rest ws ⟨a, rfl⟩ kz; exact zst3 X hdg hn kz) h
  | astore_n k =>
    obtain ⟨hl, h⟩ := and2 h
    have hl : len = 1 := Nat.eq_of_beq_eq_true hl
    rw [hl] at hdg
    exact sStore_ok (by decide) hK (by rintro hn _ lw rest ws ⟨a, rfl⟩ kz; exact zst4 X hdg hn kz) h
  | lstore k =>
    obtain ⟨hl, h⟩ := and2 h
    have hl : len = 2 := Nat.eq_of_beq_eq_true hl
    rw [hl] at hdg
    exact sStore_ok (by decide) hK (by rintro hn _ lw rest ws ⟨a, rfl⟩ kz; exact zst5 X hdg hn kz) h
  | lstore_n k =>
    obtain ⟨hl, h⟩ := and2 h
    have hl : len = 1 := Nat.eq_of_beq_eq_true hl
    rw [hl] at hdg
    exact sStore_ok (by decide) hK (by rintro hn _ lw rest ws ⟨a, rfl⟩ kz; exact zst6 X hdg hn kz) h
  | iinc k n =>
    obtain ⟨hl, h⟩ := and2 h
    have hl : len = 3 := Nat.eq_of_beq_eq_true hl
    rw [hl] at hdg
    exact sInc_ok X hdg hK hf h
  | pop =>
    obtain ⟨hl, h⟩ := and2 h
    have hl : len = 1 := Nat.eq_of_beq_eq_true hl
    rw [hl] at hdg
    exact sPop_ok X hdg hK h
  | dup =>
    obtain ⟨hl, h⟩ := and2 h
    have hl : len = 1 := Nat.eq_of_beq_eq_true hl
    rw [hl] at hdg
    exact sDup_ok X hdg hK h
  | dup2 =>
    obtain ⟨hl, h⟩ := and2 h
    have hl : len = 1 := Nat.eq_of_beq_eq_true hl
    rw [hl] at hdg
    exact sDup2_ok X hdg hK h
  | getfield idx =>
    obtain ⟨hl, h⟩ := and2 h
    have hl : len = 3 := Nat.eq_of_beq_eq_true hl
    rw [hl] at hdg
    exact sGet_ok X hdg hF hK hf h
  | putfield idx =>
    obtain ⟨hl, h⟩ := and2 h
    have hl : len = 3 := Nat.eq_of_beq_eq_true hl
    rw [hl] at hdg
    exact sPut_ok X hdg hP hK h
  | iaload =>
    obtain ⟨hl, h⟩ := and2 h
    have hl : len = 1 := Nat.eq_of_beq_eq_true hl
    rw [hl] at hdg
    exact sAld_ok X (by decide) ⟨fun _ => hdg, fun q => absurd q (by decide), fun q => absurd q (by decide)⟩ hK hf h
  | laload =>
    obtain ⟨hl, h⟩ := and2 h
    have hl : len = 1 := Nat.eq_of_beq_eq_true hl
    rw [hl] at hdg
    exact sAld_ok X (by decide) ⟨fun q => absurd q (by decide), fun _ => hdg, fun q => absurd q (by decide)⟩ hK hf h
  | baload =>
    obtain ⟨hl, h⟩ := and2 h
    have hl : len = 1 := Nat.eq_of_beq_eq_true hl
    rw [hl] at hdg
    exact sAld_ok X (by decide) ⟨fun q => absurd q (by decide), fun q => absurd q (by decide), fun _ => hdg⟩ hK hf h
  | iastore =>
    obtain ⟨hl, h⟩ := and2 h
    have hl : len = 1 := Nat.eq_of_beq_eq_true hl
    rw [hl] at hdg
    exact sAst_ok X (by decide) ⟨fun _ => hdg, fun q => absurd q (by decide), fun q => absurd q (by decide)⟩ hK h
  | lastore =>
    obtain ⟨hl, h⟩ := and2 h
    have hl : len = 1 := Nat.eq_of_beq_eq_true hl
    rw [hl] at hdg
    exact sAst_ok X (by decide) ⟨fun q => absurd q (by decide), fun _ => hdg, fun q => absurd q (by decide)⟩ hK h
  | bastore =>
    obtain ⟨hl, h⟩ := and2 h
    have hl : len = 1 := Nat.eq_of_beq_eq_true hl
    rw [hl] at hdg
    exact sAst_ok X (by decide) ⟨fun q => absurd q (by decide), fun q => absurd q (by decide), fun _ => hdg⟩ hK h
  | aaload =>
    obtain ⟨hl, h⟩ := and2 h
    have hl : len = 1 := Nat.eq_of_beq_eq_true hl
    rw [hl] at hdg
    exact sAld3_ok X hdg hK hf h
  | if_icmp co off =>
    obtain ⟨hl, h⟩ := and2 h
    have hl : len = 3 := Nat.eq_of_beq_eq_true hl
    rw [hl] at hdg
    exact sBr_ok X hdg hK h
  | ifCond co off =>
    obtain ⟨hl, h⟩ := and2 h
    have hl : len = 3 := Nat.eq_of_beq_eq_true hl
    rw [hl] at hdg
    exact sBr0_ok X hdg hf hK h
  | lcmp =>
    obtain ⟨hl, h⟩ := and2 h
    have hl : len = 1 := Nat.eq_of_beq_eq_true hl
    rw [hl] at hdg
    cases hd0 : dlook tab (pc + 1) with
    | none => rw [hd0] at h; cases h
    | some z =>
      obtain ⟨i2, n2⟩ := z
      rw [hd0] at h
      have hd := htab _ (dlook_mem tab _ _ hd0)
      cases i2 with
      | ifCond co off =>
        obtain ⟨h1, h2⟩ := and2 h
        have h1 : n2 = 3 := Nat.eq_of_beq_eq_true h1
        have hd : decode cc (pc + 1) = .ok (.ifCond co off, n2) := hd
        rw [h1] at hd
        exact sBrL_ok X hdg hd hK h2
      | _ => cases h
  | arraylength =>
    obtain ⟨hl, h⟩ := and2 h
    have hl : len = 1 := Nat.eq_of_beq_eq_true hl
    rw [hl] at hdg
    exact sLen_ok X hdg hf hK h
  | ifnull off =>
    obtain ⟨hl, h⟩ := and2 h
    have hl : len = 3 := Nat.eq_of_beq_eq_true hl
    rw [hl] at hdg
    exact sNul_ok X ⟨fun _ => hdg, fun q => absurd q (by decide)⟩ hK h
  | ifnonnull off =>
    obtain ⟨hl, h⟩ := and2 h
    have hl : len = 3 := Nat.eq_of_beq_eq_true hl
    rw [hl] at hdg
    exact sNul_ok X ⟨fun q => absurd q (by decide), fun _ => hdg⟩ hK h
  | lookupswitch dflt ps =>
    exact sLook_ok X hdg hK h
  | goto off =>
    obtain ⟨hl, h⟩ := and2 h
    have hl : len = 3 := Nat.eq_of_beq_eq_true hl
    rw [hl] at hdg
    exact sGo_ok X hdg hK h
  | tableswitch dflt lo hi offs =>
    exact sTab_ok X hdg hK h
  | invokevirtual idx =>
    obtain ⟨hl, h⟩ := and2 h
    have hl : len = 3 := Nat.eq_of_beq_eq_true hl
    rw [hl] at hdg
    exact sCall_ok X hcal ⟨fun _ => hdg, fun q => absurd q (by decide)⟩ hkc hks hf hK h
  | invokestatic idx =>
    obtain ⟨hl, h⟩ := and2 h
    have hl : len = 3 := Nat.eq_of_beq_eq_true hl
    rw [hl] at hdg
    exact sCall_ok X hcal ⟨fun q => absurd q (by decide), fun _ => hdg⟩ hkc hks hf hK h
  | ireturn =>
    obtain ⟨hl, h⟩ := and2 h
    have hl : len = 1 := Nat.eq_of_beq_eq_true hl
    rw [hl] at hdg
    obtain ⟨h1, h⟩ := and2 h
    rw [Bool.or_eq_true] at h1
    have h1 : rk = 1 ∨ rk = 3 := h1.imp Nat.eq_of_beq_eq_true Nat.eq_of_beq_eq_true
    exact sRet_ok X hrk ⟨fun q => by omega, fun _ => hdg, fun q => by omega⟩ hc hs hp1 hp2 hl1 hl2 hPO h
  | lreturn =>
    obtain ⟨hl, h⟩ := and2 h
    have hl : len = 1 := Nat.eq_of_beq_eq_true hl
    rw [hl] at hdg
    obtain ⟨h1, h⟩ := and2 h
    have h1 : rk = 2 := Nat.eq_of_beq_eq_true h1
    exact sRet_ok X hrk ⟨fun q => by omega, fun q => by omega, fun _ => hdg⟩ hc hs hp1 hp2 hl1 hl2 hPO h
  | return_ =>
    obtain ⟨hl, h⟩ := and2 h
    have hl : len = 1 := Nat.eq_of_beq_eq_true hl
    rw [hl] at hdg
    obtain ⟨h1, h⟩ := and2 h
    have h1 : rk = 0 := Nat.eq_of_beq_eq_true h1
    exact sRet_ok X hrk ⟨fun _ => hdg, fun q => by omega, fun q => by omega⟩ hc hs hp1 hp2 hl1 hl2 hPO h
  | ineg =>
    obtain ⟨hl, h⟩ := and2 h
    have hl : len = 1 := Nat.eq_of_beq_eq_true hl
    rw [hl] at hdg
    exact sUn_ok X hdg hK hf h
  | lneg =>
    obtain ⟨hl, h⟩ := and2 h
    have hl : len = 1 := Nat.eq_of_beq_eq_true hl
    rw [hl] at hdg
    exact sUn_ok X hdg hK hf h
  | i2l =>
    obtain ⟨hl, h⟩ := and2 h
    have hl : len = 1 := Nat.eq_of_beq_eq_true hl
    rw [hl] at hdg
    exact sUn_ok X hdg hK hf h
  | l2i =>
    obtain ⟨hl, h⟩ := and2 h
    have hl : len = 1 := Nat.eq_of_beq_eq_true hl
    rw [hl] at hdg
    exact sUn_ok X hdg hK hf h
  | i2b =>
    obtain ⟨hl, h⟩ := and2 h
    have hl : len = 1 := Nat.eq_of_beq_eq_true hl
    rw [hl] at hdg
    exact sUn_ok X hdg hK hf h
  | i2s =>
    obtain ⟨hl, h⟩ := and2 h
    have hl : len = 1 := Nat.eq_of_beq_eq_true hl
    rw [hl] at hdg
    exact sUn_ok X hdg hK hf h
  | _ =>
    obtain ⟨hl, h⟩ := and2 h
    have hl : len = 1 := Nat.eq_of_beq_eq_true hl
    rw [hl] at hdg
    exact sBin_ok X hdg hK hf h
end AZA
end
section
/-! the run of a method from its start and from each cut; its contract -/
def acutAt : List CUT → Nat → Option CUT
  | [], _ => none
  | d :: l, pc => bif Nat.beq d.1 pc then some d else acutAt l pc
theorem acutAt_mem : ∀ (l : List CUT) (pc : Nat) (d : CUT), acutAt l pc = some d → d ∈ l ∧ d.1 = pc
  | [], pc, d, h => by cases h
  | p :: l, pc, d, h => by
    unfold acutAt at h
    cases hb : Nat.beq p.1 pc with
    | true =>
      rw [hb] at h
      cases h
      exact ⟨List.mem_cons_self, Nat.eq_of_beq_eq_true hb⟩
    | false =>
      rw [hb] at h
      obtain ⟨h1, h2⟩ := acutAt_mem l pc d h
      exact ⟨List.mem_cons_of_mem _ h1, h2⟩
def aK (cuts : List CUT) (pids : List Nat) (sr : Option (Int × List (Int × Nat))) (X : KT) : KT := fun pc σ => match acutAt cuts pc with
  | some _ => cuts.any (fun d => Nat.beq d.1 pc && aarr pids sr d σ)
  | none => X pc σ
/-- hooks: steps of one's own -/
abbrev HKT : Type := Nat → AS → Option (List (Nat × AS))
def hk0 : HKT := fun _ _ => none
def aexec (hk : HKT) (tab : DT) (nL : Nat) (T : List TE) (fld : List (Nat × Nat × Nat)) (put : List (Nat × Nat × Nat × Nat)) (cst cstl : List (Nat × Int)) (cal : List CAL) (rk : Nat) (C : CE) (cuts : List CUT) (pids : List Nat) (sr : Option (Int × List (Int × Nat))) : Nat → KT
  | 0, _, _ => false
  | n + 1, pc, σ => afr σ && (match hk pc σ with
    | some L => L.all (fun q => aK cuts pids sr (aexec hk tab nL T fld put cst cstl cal rk C cuts pids sr n) q.1 q.2)
    | none => (match dlook tab pc with
      | some q => sIns tab nL T C.2.2.2.2.1 fld put cst cstl cal C.2.2.2.2.2.1 C.2.2.2.2.2.2 rk C (aK cuts pids sr (aexec hk tab nL T fld put cst cstl cal rk C cuts pids sr n)) pc q.2 q.1 σ.1 σ.2.1 σ.2.2.1 σ.2.2.2.1 σ.2.2.2.2.1 σ.2.2.2.2.2
      | none => false))
def alv0 : Nat → Nat → List VT → ALv
  | _, _, [] => []
  | i, j, t :: ts => (i, j, Nat.beq t.1 1) :: alv0 (bif Nat.beq t.1 1 then i + 2 else i + 1) (j + 1) ts
def aslots : List VT → Nat
  | [] => 0
  | t :: ts => (bif Nat.beq t.1 1 then 2 else 1) + aslots ts
def ast0 (C : CE) : AS := (alv0 0 0 C.1, [], C.1.zipIdx.map (fun q => (q.2, q.1)) ++ C.2.1.zipIdx.map (fun q => (100 + q.2, q.1.2.2)), C.2.1.zipIdx.map (fun q => (q.1.1, q.1.2.1, 100 + q.2)), C.2.2.1, 1000)
def apids (C : CE) : List Nat := List.range C.1.length ++ (List.range C.2.1.length).map (fun j => 100 + j)
def acheckH (hk : HKT) (tab : DT) (nL : Nat) (T : List TE) (fld : List (Nat × Nat × Nat)) (put : List (Nat × Nat × Nat × Nat)) (cst cstl : List (Nat × Int)) (cal : List CAL) (rk : Nat) (C : CE) (cuts : List CUT) (fuel : Nat) : Bool :=
  Nat.ble C.1.length 50 && (Nat.ble C.2.1.length 100 && (Nat.ble (aslots C.1) nL && (C.1.all (fun t => Nat.ble t.1 2) && (cuts.all (fun d => rposB d && (d.2.2.2.all (fun q => Nat.blt q.2 1000) && aexec hk tab nL T fld put cst cstl cal rk C cuts (apids C) (some (d.2.2.1, d.2.2.2)) fuel d.1 d.2.1)) && aK cuts (apids C) none (aexec hk tab nL T fld put cst cstl cal rk C cuts (apids C) none fuel) 0 (ast0 C)))))
def acheck (tab : DT) (nL : Nat) (T : List TE) (fld : List (Nat × Nat × Nat)) (put : List (Nat × Nat × Nat × Nat)) (cst cstl : List (Nat × Int)) (cal : List CAL) (rk : Nat) (C : CE) (cuts : List CUT) (fuel : Nat) : Bool := acheckH hk0 tab nL T fld put cst cstl cal rk C cuts fuel
/-- a run from a state to its exits -/
def acheckS (hk : HKT) (tab : DT) (nL : Nat) (T : List TE) (fld : List (Nat × Nat × Nat)) (put : List (Nat × Nat × Nat × Nat)) (cst cstl : List (Nat × Int)) (cal : List CAL) (rk : Nat) (C : CE) (cuts exs : List CUT) (pids : List Nat) (fuel pc : Nat) (σ : AS) : Bool :=
  Nat.ble C.1.length 50 && (Nat.ble C.2.1.length 100 && (cuts.all (fun d => rposB d && (d.2.2.2.all (fun q => Nat.blt q.2 1000) && aexec hk tab nL T fld put cst cstl cal rk C (cuts ++ exs) pids (some (d.2.2.1, d.2.2.2)) fuel d.1 d.2.1)) && (exs.all (fun d => rposB d) && aexec hk tab nL T fld put cst cstl cal rk C (cuts ++ exs) pids none fuel pc σ)))
/-- the hooks are sound -/
def HOK (l : Launch) (G : KG) (T : List TE) (own : String) (cc : ByteArray) (nL : Nat) (ret : Option FieldType) (Rf Rl : Nat) (hk : HKT) : Prop := ∀ {p : Program} {e : Env} {R : Room} {s : State} {m : MethodId} {args : Array Value} {below : List Frame} {meth : Method} {c : Code} {A : Nat → Prop} {nm : String} {Q : State → Prop} {kc ks : Nat}, ZC p s m args meth c cc nL own G A ret nm → Rf = R.frames → Rl = R.locals → kc ≤ R.cells → ks ≤ R.slots → ∀ (ad : Nat → Nat) (mk : List (Nat × Nat)) (w0 : va_W) (pin : List (Nat × Value)) (pc : Nat) (σ : AS) (L : List (Nat × AS)), afr σ = true → hk pc σ = some L → (∀ q ∈ L, AQ p l e R s m args below meth c nL G A Q kc ks ad T mk w0 pin q.2 q.1) → AQ p l e R s m args below meth c nL G A Q kc ks ad T mk w0 pin σ pc
theorem hok0 {l : Launch} {G : KG} {T : List TE} {own : String} {cc : ByteArray} {nL : Nat} {ret : Option FieldType} {Rf Rl : Nat} : HOK l G T own cc nL ret Rf Rl hk0 := fun _ _ _ _ _ _ _ _ _ _ _ _ _ h => by cases h
section AZB
variable {p : Program} {l : Launch} {e : Env} {R : Room} {s : State} {m : MethodId} {args : Array Value} {below : List Frame} {meth : Method} {c : Code} {nL : Nat} {G : KG} {A : Nat → Prop} {cc : ByteArray} {own : String} {ret : Option FieldType} {nm : String} {kc ks mc ms : Nat}
variable {ad : Nat → Nat} {T : List TE} {w0 : va_W} {pin : List (Nat × Value)} {C : CE} {μ : Nat → Value} {PO : Option Value → va_W → Prop}
variable {lv : ALv} {st : List Nat} {ev : AEv} {ca : ACa} {rl : ARl} {nx pc rk : Nat} {K : KT}
variable {hk : HKT}
variable {fld : List (Nat × Nat × Nat)} {put : List (Nat × Nat × Nat × Nat)} {cst cstl : List (Nat × Int)} {cal : List CAL}
theorem aK_ok {cuts : List CUT} {pids : List Nat} {sr : Option (Int × List (Int × Nat))} {X : KT} (hcut : ∀ d pc σ, d ∈ cuts ∧ d.1 = pc → aarr pids sr d σ = true → AR p l e R s m args below meth c nL G A mc ms kc ks ad T C PO w0 pin σ pc) (hX : ∀ pc σ, X pc σ = true → AR p l e R s m args below meth c nL G A mc ms kc ks ad T C PO w0 pin σ pc) : ∀ pc σ, aK cuts pids sr X pc σ = true → AR p l e R s m args below meth c nL G A mc ms kc ks ad T C PO w0 pin σ pc := by
  intro pc σ h
  unfold aK at h
  cases hd : acutAt cuts pc with
  | none => rw [hd] at h; exact hX pc σ h
  | some d0 =>
    rw [hd] at h
    obtain ⟨d, d1, d2⟩ := List.any_eq_true.mp h
    obtain ⟨d2, d3⟩ := and2 d2
    exact hcut d pc σ ⟨d1, Nat.eq_of_beq_eq_true d2⟩ d3
theorem aexec_ok {tab : DT} (htab : ∀ q ∈ tab, decode cc q.1 = .ok q.2) (X : ZC p s m args meth c cc nL own G A ret nm) (hR1 : C.2.2.2.2.2.1 = R.frames) (hR2 : C.2.2.2.2.2.2 = R.locals) (hhk : HOK l G T own cc nL ret C.2.2.2.2.2.1 C.2.2.2.2.2.2 hk) (hrk : RK rk ret) (hc : kc ≤ mc) (hs : ks ≤ ms) (hp1 : ∀ j, j < C.1.length → (j, μ j) ∈ pin) (hp2 : ∀ j, j < C.2.1.length → (100 + j, μ (100 + j)) ∈ pin) (hl1 : C.1.length ≤ 50) (hl2 : C.2.1.length ≤ 100) (hPO : ∀ r w1, POST G ad T C μ w0 r w1 → PO r w1)
    (hF : ∀ q ∈ fld, FL own q.1 q.2.1 q.2.2 ∨ FN own q.1 q.2.1 q.2.2) (hP : ∀ q ∈ put, PA own q.1 q.2.1 q.2.2.1 q.2.2.2) (hC : ∀ q ∈ cst, ∃ x : Int32, x.toInt = q.2 ∧ Jvm.Cond.constant own q.1 x ∈ BIG) (hCl : ∀ q ∈ cstl, ∃ x : Int64, x.toInt = q.2 ∧ Jvm.Cond.constantLong own q.1 x ∈ BIG) (hcal : ∀ q ∈ cal, COK l G own T q) (hkc : kc ≤ R.cells) (hks : ks ≤ R.slots)
    {cuts : List CUT} {pids : List Nat} {sr : Option (Int × List (Int × Nat))} (hcut : ∀ d pc σ, d ∈ cuts ∧ d.1 = pc → aarr pids sr d σ = true → AR p l e R s m args below meth c nL G A mc ms kc ks ad T C PO w0 pin σ pc) : ∀ (n pc : Nat) (σ : AS), aexec hk tab nL T fld put cst cstl cal rk C cuts pids sr n pc σ = true → AR p l e R s m args below meth c nL G A mc ms kc ks ad T C PO w0 pin σ pc
  | 0, pc, σ, h => by cases h
  | n + 1, pc, σ, h => by
    unfold aexec at h
    obtain ⟨hf, h⟩ := and2 h
    have ih := aexec_ok htab X hR1 hR2 hhk hrk hc hs hp1 hp2 hl1 hl2 hPO hF hP hC hCl hcal hkc hks hcut n
    cases hh : hk pc σ with
    | some L =>
      rw [hh] at h
      exact hhk X hR1 hR2 hkc hks ad _ w0 pin pc σ L hf hh (fun q hq => aK_ok hcut ih _ _ (List.all_eq_true.mp h q hq))
    | none =>
      rw [hh] at h
      cases hd0 : dlook tab pc with
      | none => rw [hd0] at h; cases h
      | some z =>
        rw [hd0] at h
        have hd := htab _ (dlook_mem tab _ _ hd0)
        obtain ⟨i, len⟩ := z
        obtain ⟨lv, st, ev, ca, rl, nx⟩ := σ
        have h : sIns tab nL T C.2.2.2.2.1 fld put cst cstl cal C.2.2.2.2.2.1 C.2.2.2.2.2.2 rk C (aK cuts pids sr (aexec hk tab nL T fld put cst cstl cal rk C cuts pids sr n)) pc len i lv st ev ca rl nx = true := h
        rw [hR1, hR2] at h
        exact sIns_ok X htab hd hrk hc hs hp1 hp2 hl1 hl2 hPO hF hP hC hCl hcal hkc hks hf (aK_ok hcut ih) h
theorem rpos_ok {ν : Nat → Value} {mk : List (Nat × Nat)} {ws : va_W} (h : AK G ad T mk w0 pin (lv, st, ev, ca, rl, nx) ν ws) : ∀ (ts : List (Int × Nat)), rsum ts ν ≤ ts.foldr (fun q acc => tub ev rl q.1 q.2 + acc) 0
  | [] => Int.le_refl _
  | q :: ts => by
    have h1 := h.sTub q.1 q.2
    have h2 := rpos_ok h ts
    show q.1 * vI (ν q.2) + rsum ts ν ≤ tub ev rl q.1 q.2 + _
    omega
theorem rsum_pin {ν ν' : Nat → Value} : ∀ (ts : List (Int × Nat)), (∀ q ∈ ts, ν' q.2 = ν q.2) → rsum ts ν' = rsum ts ν
  | [], _ => rfl
  | q :: ts, h => by
    show q.1 * vI (ν' q.2) + rsum ts ν' = q.1 * vI (ν q.2) + rsum ts ν
    rw [h q List.mem_cons_self, rsum_pin ts (fun q hq => h q (List.mem_cons_of_mem _ hq))]
theorem AG.weak {mk : List (Nat × Nat)} {pin2 : List (Nat × Value)} {σ : AS} {ν : Nat → Value} {lw : List (Nat × Value)} {sw : List Value} {ws : va_W} (h : AG G ad T mk w0 pin2 σ ν lw sw ws) (hp : ∀ q ∈ pin, q ∈ pin2) : AG G ad T mk w0 pin σ ν lw sw ws := ⟨h.1, h.2.1, h.2.2.1, h.2.2.2.1, h.2.2.2.2.1, h.2.2.2.2.2.1, fun q hq => h.2.2.2.2.2.2.1 q (hp q hq), h.2.2.2.2.2.2.2⟩
theorem Z.mono {Q : State → Prop} {lw lw' : List (Nat × Value)} {sw : List Value} {ws : va_W} (h : ∀ q ∈ lw', q ∈ lw) (k : Z p l e R s m args below meth c nL G A Q pc lw' sw ws kc ks) : Z p l e R s m args below meth c nL G A Q pc lw sw ws kc ks := fun H locs ls hP hD hS hl => k H locs ls hP hD hS ⟨hl.1, hl.2.1, fun q hq => hl.2.2 q (h q hq)⟩
/-- arriving at a cut: its own state, nearer to the end -/
theorem aarr_ok {mk : List (Nat × Nat)} {pids : List Nat} {sr : Option (Int × List (Int × Nat))} {d : CUT} {σ : AS} {ν : Nat → Value} {lw : List (Nat × Value)} {sw : List Value} {ws : va_W} (hg : AG G ad T mk w0 pin σ ν lw sw ws) (hpin : ∀ q ∈ pin, q.1 ∈ pids) (h : aarr pids sr d σ = true) (hpos : rposB d = true) : ∃ (ν' : Nat → Value) (lw' : List (Nat × Value)), AG G ad T mk w0 pin d.2.1 ν' lw' sw ws ∧ (∀ q ∈ lw', q ∈ lw) ∧ 0 ≤ d.2.2.1 - rsum d.2.2.2 ν' ∧ ∀ s0, sr = some s0 → d.2.2.1 - rsum d.2.2.2 ν' < s0.1 - rsum s0.2 ν := by
  obtain ⟨lv, st, ev, ca, rl, nx⟩ := σ
  unfold aarr at h
  cases hm : amap pids (lv, st, ev, ca, rl, nx) d.2.1 with
  | none => simp only [hm] at h; cases h
  | some mm =>
    simp only [hm] at h
    obtain ⟨h1, h2⟩ := and2 h
    obtain ⟨g1, g2⟩ := hg.sub hpin hm h1
    refine ⟨_, _, g1, g2, ?_, fun s0 hs0 => ?_⟩
    · have hp := of_decide_eq_true hpos
      obtain ⟨pcd, ⟨lvd, std, evd, cad, rld, nxd⟩, Kd, td⟩ := d
      have h3 := rpos_ok (lv := lvd) (st := std) (ev := evd) (ca := cad) (rl := rld) (nx := nxd) g1.2.2 td
      have hp : td.foldr (fun q acc => tub evd rld q.1 q.2 + acc) 0 ≤ Kd := hp
      show 0 ≤ Kd - rsum td _
      omega
    · subst hs0
      have h2 : rdec ev rl mm (some s0) d = true := h2
      unfold rdec at h2
      cases hr : rub ev rl mm s0.2 d.2.2.2 with
      | none => simp only [hr] at h2; cases h2
      | some r =>
        simp only [hr] at h2
        have h2 := of_decide_eq_true h2
        have h3 := AK.sRub (lv := lv) (st := st) (ca := ca) (nx := nx) hg.2.2 s0.2 d.2.2.2 r hr
        omega
theorem lv0_ok {ad : Nat → Nat} : ∀ (ts : List VT) (i j : Nat), (∀ t ∈ ts, t.1 ≤ 2) → (∀ k t, ts[k]? = some t → vty ad t (μ (j + k))) → lv_args i ((List.range' j ts.length).map μ) = (alv0 i j ts).map (fun q => (q.1, μ q.2.1)) ∧ (∀ q ∈ alv0 i j ts, (μ q.2.1).category = bif q.2.2 then 2 else 1) ∧ (lg_sl ((List.range' j ts.length).map μ)).length = aslots ts
  | [], i, j, _, _ => ⟨rfl, fun q hq => (by cases hq), rfl⟩
  | t :: ts, i, j, h2, h => by
    have h0 := h 0 t rfl
    have hc : (μ j).category = bif Nat.beq t.1 1 then 2 else 1 := by
      rcases h0 with ⟨e, ⟨x, hx⟩, -⟩ | ⟨e, ⟨x, hx⟩, -⟩ | ⟨e, hx⟩ | ⟨e, -⟩
      · rw [show μ (j + 0) = μ j from rfl] at hx
        rw [e, hx]; rfl
      · rw [show μ (j + 0) = μ j from rfl] at hx
        rw [e, hx]; rfl
      · rw [show μ (j + 0) = μ j from rfl] at hx
        rw [e, hx]; rfl
      · have := h2 t List.mem_cons_self
        omega
    obtain ⟨r1, r2, r3⟩ := lv0_ok ts (bif Nat.beq t.1 1 then i + 2 else i + 1) (j + 1) (fun t ht => h2 t (List.mem_cons_of_mem _ ht)) (fun k t' hk => by
      have := h (k + 1) t' (by simpa using hk)
      rw [show j + 1 + k = j + (k + 1) by omega]
      exact this)
    have hi : (if (μ j).category = 2 then i + 2 else i + 1) = bif Nat.beq t.1 1 then i + 2 else i + 1 := by
      rw [hc]
      cases Nat.beq t.1 1 <;> rfl
    refine ⟨?_, fun q hq => ?_, ?_⟩
    · show lv_args i (μ j :: (List.range' (j + 1) ts.length).map μ) = (i, μ j) :: (alv0 _ (j + 1) ts).map (fun q => (q.1, μ q.2.1))
      show (i, μ j) :: lv_args (if (μ j).category = 2 then i + 2 else i + 1) ((List.range' (j + 1) ts.length).map μ) = _
      rw [hi, r1]
    · rcases List.mem_cons.mp hq with e | hq
      · rw [e]; exact hc
      · exact r2 q hq
    · show (lg_sl (μ j :: (List.range' (j + 1) ts.length).map μ)).length = (bif Nat.beq t.1 1 then 2 else 1) + aslots ts
      unfold lg_sl at r3 ⊢
      rw [List.flatMap_cons, List.length_append, r3]
      congr 1
      cases hb : Nat.beq t.1 1 with
      | true =>
        rw [hb] at hc
        have hc : (μ j).category = 2 := hc
        rw [if_pos hc]; rfl
      | false =>
        rw [hb] at hc
        have hc : (μ j).category = 1 := hc
        rw [if_neg (by omega)]; rfl
set_option maxHeartbeats 1000000 in
/-- a method's contract, by its check -/
theorem acertH {y : MethodName} {tab : DT} {cuts : List CUT} {fuel : Nat} (hy : plainName y.cls = true) (hrk : RK rk ret)
    (hF : ∀ q ∈ fld, FL y.cls q.1 q.2.1 q.2.2 ∨ FN y.cls q.1 q.2.1 q.2.2) (hP : ∀ q ∈ put, PA y.cls q.1 q.2.1 q.2.2.1 q.2.2.2) (hC : ∀ q ∈ cst, ∃ x : Int32, x.toInt = q.2 ∧ Jvm.Cond.constant y.cls q.1 x ∈ BIG) (hCl : ∀ q ∈ cstl, ∃ x : Int64, x.toInt = q.2 ∧ Jvm.Cond.constantLong y.cls q.1 x ∈ BIG) (hcal : ∀ q ∈ cal, COK l G y.cls T q) (htab : dtOK cc tab = true) (hhk : HOK l G T y.cls cc nL ret C.2.2.2.2.2.1 C.2.2.2.2.2.2 hk)
    (h : acheckH hk tab nL T fld put cst cstl cal rk C cuts fuel = true) : ACt l G T y cc nL ret C := by
  unfold acheckH at h
  obtain ⟨c1, h⟩ := and2 h
  obtain ⟨c2, h⟩ := and2 h
  obtain ⟨c3, h⟩ := and2 h
  obtain ⟨c4, h⟩ := and2 h
  obtain ⟨c5, h⟩ := and2 h
  have c1 := Nat.le_of_ble_eq_true c1
  have c2 := Nat.le_of_ble_eq_true c2
  intro ad w0 μ hW hPre
  obtain ⟨r1, r2, r3⟩ := lv0_ok (μ := μ) (ad := ad) C.1 0 0 (fun t ht => Nat.le_of_ble_eq_true (List.all_eq_true.mp c4 t ht)) (fun k t hk => by rw [Nat.zero_add]; exact hPre.1 k t hk)
  rw [List.range_eq_range']
  refine ct_of _ hy (by rw [r3]; exact Nat.le_of_ble_eq_true c3) rfl ?_
  intro p e s m args below meth c A X
  obtain ⟨pin, hpin⟩ : ∃ pin : List (Nat × Value), pin = (List.range C.1.length).map (fun j => (j, μ j)) ++ (List.range C.2.1.length).map (fun j => (100 + j, μ (100 + j))) := ⟨_, rfl⟩
  have hp1 : ∀ j, j < C.1.length → (j, μ j) ∈ pin := fun j hj => by rw [hpin]; exact List.mem_append_left _ (List.mem_map.mpr ⟨j, List.mem_range.mpr hj, rfl⟩)
  have hp2 : ∀ j, j < C.2.1.length → (100 + j, μ (100 + j)) ∈ pin := fun j hj => by rw [hpin]; exact List.mem_append_right _ (List.mem_map.mpr ⟨j, List.mem_range.mpr hj, rfl⟩)
  have hpids : ∀ q ∈ pin, q.1 ∈ apids C := by
    intro q hq
    rw [hpin] at hq
    unfold apids
    rcases List.mem_append.mp hq with hq | hq
    · obtain ⟨j, hj, rfl⟩ := List.mem_map.mp hq
      exact List.mem_append_left _ hj
    · obtain ⟨j, hj, rfl⟩ := List.mem_map.mp hq
      exact List.mem_append_right _ (List.mem_map.mpr ⟨j, hj, rfl⟩)
  have hpin2 : ∀ q ∈ pin, q.1 < 1000 ∧ μ q.1 = q.2 := by
    intro q hq
    rw [hpin] at hq
    rcases List.mem_append.mp hq with hq | hq
    · obtain ⟨j, hj, rfl⟩ := List.mem_map.mp hq
      have := List.mem_range.mp hj
      exact ⟨by show j < 1000; omega, rfl⟩
    · obtain ⟨j, hj, rfl⟩ := List.mem_map.mp hq
      have := List.mem_range.mp hj
      exact ⟨by show 100 + j < 1000; omega, rfl⟩
  have main : ∀ (N : Nat) (d : CUT), d ∈ cuts → ∀ (ν : Nat → Value) (lw : List (Nat × Value)) (sw : List Value) (ws : va_W), AG G ad T C.2.2.2.2.1 w0 pin d.2.1 ν lw sw ws → (d.2.2.1 - rsum d.2.2.2 ν).toNat < N → Z p l e (rmOf C) s m args below meth c nL G A (MQ below (QQ G A (fun r w1 => POST G ad T C μ w0 r w1)) args s (rmOf C).cells (rmOf C).slots A) d.1 lw sw ws 0 0 := by
    intro N
    induction N with
    | zero => intro d _ ν lw sw ws _ h9; exact absurd h9 (Nat.not_lt_zero _)
    | succ N ih =>
      intro d hd ν lw sw ws hg hN
      have hdc := List.all_eq_true.mp c5 d hd
      obtain ⟨d1, d2⟩ := and2 hdc
      obtain ⟨d2, d3⟩ := and2 d2
      obtain ⟨pin', hpin'⟩ : ∃ pin' : List (Nat × Value), pin' = pin ++ d.2.2.2.map (fun q => (q.2, ν q.2)) := ⟨_, rfl⟩
      have hsub : ∀ q ∈ pin, q ∈ pin' := fun q hq => by rw [hpin']; exact List.mem_append_left _ hq
      have hg' : AG G ad T C.2.2.2.2.1 w0 pin' d.2.1 ν lw sw ws := by
        refine ⟨hg.1, hg.2.1, hg.2.2.1, hg.2.2.2.1, hg.2.2.2.2.1, hg.2.2.2.2.2.1, fun q hq => ?_, hg.2.2.2.2.2.2.2⟩
        rw [hpin'] at hq
        rcases List.mem_append.mp hq with hq | hq
        · exact hg.2.2.2.2.2.2.1 q hq
        · obtain ⟨z, hz, rfl⟩ := List.mem_map.mp hq
          exact ⟨blt_lt (List.all_eq_true.mp d2 z hz), rfl⟩
      refine aexec_ok (dt_ok htab) (R := rmOf C) (pin := pin') X rfl rfl hhk hrk (Nat.le_refl 0) (Nat.le_refl 0) (fun j hj => hsub _ (hp1 j hj)) (fun j hj => hsub _ (hp2 j hj)) c1 c2 (fun _ _ h => h) hF hP hC hCl hcal (Nat.le_refl 0) (Nat.le_refl 0) ?_ fuel d.1 d.2.1 d3 ν lw sw ws hg'
      intro d' pc' σ hd' ha ν2 lw2 sw2 ws2 hg2
      obtain ⟨m1, m2⟩ := hd'
      obtain ⟨ν3, lw3, q1, q2, q3, q4⟩ := aarr_ok (hg2.weak hsub) hpids ha (and2 (List.all_eq_true.mp c5 d' m1)).1
      have q4 := q4 _ rfl
      have e1 : rsum d.2.2.2 ν2 = rsum d.2.2.2 ν := rsum_pin _ (fun z hz => by
        have := (hg2.2.2.2.2.2.2.1 (z.2, ν z.2) (by rw [hpin']; exact List.mem_append_right _ (List.mem_map.mpr ⟨z, hz, rfl⟩))).2
        exact this)
      have q4 : d'.2.2.1 - rsum d'.2.2.2 ν3 < d.2.2.1 - rsum d.2.2.2 ν2 := q4
      rw [e1] at q4
      rw [← m2]
      exact Z.mono q2 (ih d' m1 ν3 lw3 sw2 ws2 q1 (by omega))
  have hcut0 : ∀ d pc σ, d ∈ cuts ∧ d.1 = pc → aarr (apids C) none d σ = true → AR p l e (rmOf C) s m args below meth c nL G A (rmOf C).cells (rmOf C).slots 0 0 ad T C (fun r w1 => POST G ad T C μ w0 r w1) w0 pin σ pc := by
    intro d' pc' σ hd' ha ν2 lw2 sw2 ws2 hg2
    obtain ⟨m1, m2⟩ := hd'
    obtain ⟨ν3, lw3, q1, q2, -, -⟩ := aarr_ok hg2 hpids ha (and2 (List.all_eq_true.mp c5 d' m1)).1
    rw [← m2]
    exact Z.mono q2 (main _ d' m1 ν3 lw3 sw2 ws2 q1 (Nat.lt_succ_self _))
  have hrun := aK_ok hcut0 (aexec_ok (dt_ok htab) (R := rmOf C) (pin := pin) X rfl rfl hhk hrk (Nat.le_refl 0) (Nat.le_refl 0) hp1 hp2 c1 c2 (fun _ _ h => h) hF hP hC hCl hcal (Nat.le_refl 0) (Nat.le_refl 0) hcut0 fuel) 0 (ast0 C) h
  refine hrun μ _ [] w0 ⟨r1, rfl, r2, fun q hq => ?_, fun q hq => ?_, hPre.2.2, hpin2, hW, rfl, fun k j _ => rfl⟩
  · rcases List.mem_append.mp hq with hq | hq
    · obtain ⟨z, hz, rfl⟩ := List.mem_map.mp hq
      exact hPre.1 z.2 z.1 (zipIdx_mem hz)
    · obtain ⟨z, hz, rfl⟩ := List.mem_map.mp hq
      exact (hPre.2.1 z.2 z.1 (zipIdx_mem hz)).1
  · obtain ⟨z, hz, rfl⟩ := List.mem_map.mp hq
    exact (hPre.2.1 z.2 z.1 (zipIdx_mem hz)).2
theorem acert {y : MethodName} {tab : DT} {cuts : List CUT} {fuel : Nat} (hy : plainName y.cls = true) (hrk : RK rk ret)
    (hF : ∀ q ∈ fld, FL y.cls q.1 q.2.1 q.2.2 ∨ FN y.cls q.1 q.2.1 q.2.2) (hP : ∀ q ∈ put, PA y.cls q.1 q.2.1 q.2.2.1 q.2.2.2) (hC : ∀ q ∈ cst, ∃ x : Int32, x.toInt = q.2 ∧ Jvm.Cond.constant y.cls q.1 x ∈ BIG) (hCl : ∀ q ∈ cstl, ∃ x : Int64, x.toInt = q.2 ∧ Jvm.Cond.constantLong y.cls q.1 x ∈ BIG) (hcal : ∀ q ∈ cal, COK l G y.cls T q) (htab : dtOK cc tab = true)
    (h : acheck tab nL T fld put cst cstl cal rk C cuts fuel = true) : ACt l G T y cc nL ret C := acertH hy hrk hF hP hC hCl hcal htab hok0 h
set_option maxHeartbeats 1000000 in
/-- from a state to the exits -/
theorem aseg {tab : DT} {cuts exs : List CUT} {pids : List Nat} {fuel : Nat} {σ : AS} (htab : dtOK cc tab = true) (X : ZC p s m args meth c cc nL own G A ret nm) (hR1 : C.2.2.2.2.2.1 = R.frames) (hR2 : C.2.2.2.2.2.2 = R.locals) (hhk : HOK l G T own cc nL ret C.2.2.2.2.2.1 C.2.2.2.2.2.2 hk) (hrk : RK rk ret) (hc : kc ≤ mc) (hs : ks ≤ ms) (hp1 : ∀ j, j < C.1.length → (j, μ j) ∈ pin) (hp2 : ∀ j, j < C.2.1.length → (100 + j, μ (100 + j)) ∈ pin) (hPO : ∀ r w1, POST G ad T C μ w0 r w1 → PO r w1)
    (hF : ∀ q ∈ fld, FL own q.1 q.2.1 q.2.2 ∨ FN own q.1 q.2.1 q.2.2) (hP : ∀ q ∈ put, PA own q.1 q.2.1 q.2.2.1 q.2.2.2) (hC : ∀ q ∈ cst, ∃ x : Int32, x.toInt = q.2 ∧ Jvm.Cond.constant own q.1 x ∈ BIG) (hCl : ∀ q ∈ cstl, ∃ x : Int64, x.toInt = q.2 ∧ Jvm.Cond.constantLong own q.1 x ∈ BIG) (hcal : ∀ q ∈ cal, COK l G own T q) (hkc : kc ≤ R.cells) (hks : ks ≤ R.slots)
    (hpids : ∀ q ∈ pin, q.1 ∈ pids) (h : acheckS hk tab nL T fld put cst cstl cal rk C cuts exs pids fuel pc σ = true)
    (hx : ∀ d ∈ exs, ∀ (ν : Nat → Value) (lw : List (Nat × Value)) (sw : List Value) (ws : va_W), AG G ad T C.2.2.2.2.1 w0 pin d.2.1 ν lw sw ws → Z p l e R s m args below meth c nL G A (MQ below (QQ G A PO) args s mc ms A) d.1 lw sw ws kc ks) : AR p l e R s m args below meth c nL G A mc ms kc ks ad T C PO w0 pin σ pc := by
  unfold acheckS at h
  obtain ⟨c1, h⟩ := and2 h
  obtain ⟨c2, h⟩ := and2 h
  obtain ⟨c5, h⟩ := and2 h
  obtain ⟨c6, h⟩ := and2 h
  have c1 := Nat.le_of_ble_eq_true c1
  have c2 := Nat.le_of_ble_eq_true c2
  have rp : ∀ d ∈ cuts ++ exs, rposB d = true := fun d hd => (List.mem_append.mp hd).elim (fun m1 => (and2 (List.all_eq_true.mp c5 d m1)).1) (fun m1 => List.all_eq_true.mp c6 d m1)
  have main : ∀ (N : Nat) (d : CUT), d ∈ cuts → ∀ (ν : Nat → Value) (lw : List (Nat × Value)) (sw : List Value) (ws : va_W), AG G ad T C.2.2.2.2.1 w0 pin d.2.1 ν lw sw ws → (d.2.2.1 - rsum d.2.2.2 ν).toNat < N → Z p l e R s m args below meth c nL G A (MQ below (QQ G A PO) args s mc ms A) d.1 lw sw ws kc ks := by
    intro N
    induction N with
    | zero => intro d _ ν lw sw ws _ h9; exact absurd h9 (Nat.not_lt_zero _)
    | succ N ih =>
      intro d hd ν lw sw ws hg hN
      have hdc := List.all_eq_true.mp c5 d hd
      obtain ⟨d1, d2⟩ := and2 hdc
      obtain ⟨d2, d3⟩ := and2 d2
      obtain ⟨pin', hpin'⟩ : ∃ pin' : List (Nat × Value), pin' = pin ++ d.2.2.2.map (fun q => (q.2, ν q.2)) := ⟨_, rfl⟩
      have hsub : ∀ q ∈ pin, q ∈ pin' := fun q hq => by rw [hpin']; exact List.mem_append_left _ hq
      have hg' : AG G ad T C.2.2.2.2.1 w0 pin' d.2.1 ν lw sw ws := by
        refine ⟨hg.1, hg.2.1, hg.2.2.1, hg.2.2.2.1, hg.2.2.2.2.1, hg.2.2.2.2.2.1, fun q hq => ?_, hg.2.2.2.2.2.2.2⟩
        rw [hpin'] at hq
        rcases List.mem_append.mp hq with hq | hq
        · exact hg.2.2.2.2.2.2.1 q hq
        · obtain ⟨z, hz, rfl⟩ := List.mem_map.mp hq
          exact ⟨blt_lt (List.all_eq_true.mp d2 z hz), rfl⟩
      refine aexec_ok (dt_ok htab) (pin := pin') X hR1 hR2 hhk hrk hc hs (fun j hj => hsub _ (hp1 j hj)) (fun j hj => hsub _ (hp2 j hj)) c1 c2 hPO hF hP hC hCl hcal hkc hks ?_ fuel d.1 d.2.1 d3 ν lw sw ws hg'
      intro d' pc' σ hd' ha ν2 lw2 sw2 ws2 hg2
      obtain ⟨m1, m2⟩ := hd'
      obtain ⟨ν3, lw3, q1, q2, q3, q4⟩ := aarr_ok (hg2.weak hsub) hpids ha (rp d' m1)
      have q4 := q4 _ rfl
      have e1 : rsum d.2.2.2 ν2 = rsum d.2.2.2 ν := rsum_pin _ (fun z hz => by
        have := (hg2.2.2.2.2.2.2.1 (z.2, ν z.2) (by rw [hpin']; exact List.mem_append_right _ (List.mem_map.mpr ⟨z, hz, rfl⟩))).2
        exact this)
      have q4 : d'.2.2.1 - rsum d'.2.2.2 ν3 < d.2.2.1 - rsum d.2.2.2 ν2 := q4
      rw [e1] at q4
      rw [← m2]
      rcases List.mem_append.mp m1 with m1 | m1
      · exact Z.mono q2 (ih d' m1 ν3 lw3 sw2 ws2 q1 (by omega))
      · exact Z.mono q2 (hx d' m1 ν3 lw3 sw2 ws2 q1)
  have hcut0 : ∀ d pc σ, d ∈ cuts ++ exs ∧ d.1 = pc → aarr pids none d σ = true → AR p l e R s m args below meth c nL G A mc ms kc ks ad T C PO w0 pin σ pc := by
    intro d' pc' σ hd' ha ν2 lw2 sw2 ws2 hg2
    obtain ⟨m1, m2⟩ := hd'
    obtain ⟨ν3, lw3, q1, q2, -, -⟩ := aarr_ok hg2 hpids ha (rp d' m1)
    rw [← m2]
    rcases List.mem_append.mp m1 with m1 | m1
    · exact Z.mono q2 (main _ d' m1 ν3 lw3 sw2 ws2 q1 (Nat.lt_succ_self _))
    · exact Z.mono q2 (hx d' m1 ν3 lw3 sw2 ws2 q1)
  exact aexec_ok (dt_ok htab) X hR1 hR2 hhk hrk hc hs hp1 hp2 c1 c2 hPO hF hP hC hCl hcal hkc hks hcut0 fuel pc σ h
end AZB
end
section
/-! calls, from a link and a contract -/
theorem cok_v {l : Launch} {G : KG} {own : String} {T : List TE} {idx mx : Nat} {Cn : String} {y : MethodName} {cy : ByteArray} {rt : Option FieldType} {n ci : Nat} {C : CE} {t : VT} {ts : List VT} {vc : vw_C} (hL : LkV own idx Cn y cy mx rt n) (hA : ACt l G T y cy mx rt C) (h1 : C.1.length = n + 1) (h2 : C.1[0]? = some t) (h3 : t.1 = 2) (hT : T[t.2.1.toNat]? = some (.inl (ci, ts))) (hv : vwCl[ci]? = some vc) (hn : vc.1 = Cn) : COK l G own T (idx, 0, mx, C) := Or.inl ⟨rfl, Cn, y, cy, rt, n, _, ci, ts, t, vc, Or.inl hL, hA, h1, h2, h3, rfl, hT, hv, hn⟩
theorem cok_vn {l : Launch} {G : KG} {own : String} {T : List TE} {idx mx : Nat} {Cn : String} {y : MethodName} {cy : ByteArray} {rt : Option FieldType} {n ci : Nat} {C : CE} {t : VT} {ts : List VT} {vc : vw_C} (hL : LnV own idx Cn y cy mx rt n) (hA : ACt l G T y cy mx rt C) (h1 : C.1.length = n + 1) (h2 : C.1[0]? = some t) (h3 : t.1 = 2) (hT : T[t.2.1.toNat]? = some (.inl (ci, ts))) (hv : vwCl[ci]? = some vc) (hn : vc.1 = Cn) : COK l G own T (idx, 0, mx, C) := Or.inl ⟨rfl, Cn, y, cy, rt, n, _, ci, ts, t, vc, Or.inr hL, hA, h1, h2, h3, rfl, hT, hv, hn⟩
theorem cok_s {l : Launch} {G : KG} {own : String} {T : List TE} {idx mx : Nat} {y : MethodName} {cy : ByteArray} {rt : Option FieldType} {n : Nat} {C : CE} (hL : LkS own idx y cy mx rt n) (hA : ACt l G T y cy mx rt C) (h1 : C.1.length = n) : COK l G own T (idx, 1, mx, C) := Or.inr (Or.inl ⟨rfl, y, cy, rt, n, Or.inl hL, hA, h1⟩)
theorem cok_sn {l : Launch} {G : KG} {own : String} {T : List TE} {idx mx : Nat} {y : MethodName} {cy : ByteArray} {rt : Option FieldType} {n : Nat} {C : CE} (hL : LnS own idx y cy mx rt n) (hA : ACt l G T y cy mx rt C) (h1 : C.1.length = n) : COK l G own T (idx, 1, mx, C) := Or.inr (Or.inl ⟨rfl, y, cy, rt, n, Or.inr hL, hA, h1⟩)
theorem cok_m {l : Launch} {G : KG} {own : String} {T : List TE} {idx mx : Nat} {C : CE} (h : MROW l G own T (idx, 1, mx, C)) : COK l G own T (idx, 1, mx, C) := Or.inr (Or.inr ⟨rfl, h⟩)
theorem post_pure {G : KG} {ad : Nat → Nat} {T : List TE} {C : CE} {μ : Nat → Value} {ws : va_W} {v : Value} {t : VT} {rl : ARl} (hA : ((some t, [], [], rl) : ALT) ∈ C.2.2.2.1) (hW : WT G ad T ws) (hv : vty ad t v) (hr : ∀ q ∈ rl, vI (nup μ 50 v q.1) ≤ vI (nup μ 50 v q.2.1) + q.2.2) : POST G ad T C μ ws (some v) ws :=
  ⟨_, hA, nup μ 50 v, fun i hi => nup_ne hi, fun i hi _ => if_neg (by omega), (show resOK ad (some t) (some v) (nup μ 50 v 50) from ⟨by rw [nup_eq], by rw [nup_eq]; exact hv⟩), fun q hq => absurd hq List.not_mem_nil, fun n q hq => (by have hq : ([] : List (Nat × Nat × VT))[n]? = some q := hq; simp at hq), hr, hW, rfl, fun k j _ => rfl⟩
abbrev C_mmin : CE := ([tI0, tI0], [], [], [(some tI0, [], [], [(50, 1, 0), (1, 50, 0), (1, 0, -1)]), (some tI0, [], [], [(50, 0, 0), (0, 50, 0), (0, 1, 0)])], [], 0, 0)
abbrev C_mmax : CE := ([tI0, tI0], [], [], [(some tI0, [], [], [(50, 1, 0), (1, 50, 0), (0, 1, -1)]), (some tI0, [], [], [(50, 0, 0), (0, 50, 0), (1, 0, 0)])], [], 0, 0)
abbrev C_mabs : CE := ([tI0], [], [], [(some tI0, [], [], [(50, 0, 0), (0, 50, 0)]), (some tI0, [], [], [])], [], 0, 1)
abbrev C_lmin : CE := ([tL0, tL0], [], [], [(some tL0, [], [], [(50, 1, 0), (1, 50, 0), (1, 0, -1)]), (some tL0, [], [], [(50, 0, 0), (0, 50, 0), (0, 1, 0)])], [], 0, 0)
abbrev C_lmax : CE := ([tL0, tL0], [], [], [(some tL0, [], [], [(50, 0, 0), (0, 50, 0), (1, 0, -1)]), (some tL0, [], [], [(50, 1, 0), (1, 50, 0), (0, 1, 0)])], [], 0, 0)
abbrev C_labs : CE := ([tL0], [], [], [(some tL0, [], [], [(50, 0, 0), (0, 50, 0)]), (some tL0, [], [], [])], [], 0, 0)
theorem rel3 {μ : Nat → Value} {a b c d u w : Nat} {c1 c2 c3 : Int} (h1 : vI (μ a) ≤ vI (μ b) + c1) (h2 : vI (μ c) ≤ vI (μ d) + c2) (h3 : vI (μ u) ≤ vI (μ w) + c3) : ∀ q ∈ [(a, b, c1), (c, d, c2), (u, w, c3)], vI (μ q.1) ≤ vI (μ q.2.1) + q.2.2 := by
  intro q hq
  rcases List.mem_cons.mp hq with e | hq
  · rw [e]; exact h1
  · rcases List.mem_cons.mp hq with e | hq
    · rw [e]; exact h2
    · rw [List.mem_singleton.mp hq]; exact h3
theorem row_mmin {l : Launch} {G : KG} {own : String} {T : List TE} {idx : Nat} (h1 : Cond.methodLink own idx Lib.Math.min.name ∈ BIG) (h2 : Cond.static Lib.Math.min.name ∈ BIG) (h3 : Cond.initialized "java/lang/Math" ∈ BIG) (h4 : Cond.code Lib.Math.min.name Lib.Math.min.code 2 (some .int) ∈ BIG) : MROW l G own T (idx, 1, 2, C_mmin) := by
  intro p e R s m args below meth c nL A Q cc ret nm kc ks pc ad X hdg hR1 hR2 hkc hks lw rest ws μ hcat hW hP kk
  obtain ⟨x, hx, -⟩ := vty0 (hP.1 0 _ rfl) rfl
  obtain ⟨y, hy, -⟩ := vty0 (hP.1 1 _ rfl) rfl
  have e0 : ((List.range (C_mmin).1.length).map μ).reverse ++ rest = .int y :: .int x :: rest := by
    show μ 1 :: μ 0 :: rest = _
    rw [hx, hy]
  rw [e0]
  have hR1 : 1 ≤ R.frames := hR1
  have hR2 : 8 + (2 + 11) + 0 ≤ R.locals := hR2
  have vx : ∀ v, vI (nup μ 50 v 0) = x.toInt := fun v => by rw [nup_ne (by decide), hx]; rfl
  have vy : ∀ v, vI (nup μ 50 v 1) = y.toInt := fun v => by rw [nup_ne (by decide), hy]; rfl
  have vr : ∀ v, vI (nup μ 50 v 50) = vI v := fun v => by rw [nup_eq]
  have hts := X.2.2.2.2.1
  intro H locs ls hP0 hD hS hl
  refine va_mmin X.1 X.2.1 (X.2.2.1.trans hl.1.symm) X.2.2.2.1 (hts _ h1) (hts _ h2) (hts _ h3) (hts _ h4) hR1 (by omega) hkc hks hdg ?_
  by_cases hc : y < x
  · rw [if_pos hc]
    have hc : y.toInt < x.toInt := Int32.lt_iff_toInt_lt.mp hc
    exact kk (some (.int y)) ws (post_pure List.mem_cons_self hW (vty_i0 _) (rel3 (by rw [vr, vy]; show (y).toInt ≤ _; omega) (by rw [vr, vy]; show _ ≤ (y).toInt + 0; omega) (by rw [vx, vy]; omega))) H locs ls hP0 hD hS hl
  · rw [if_neg hc]
    have hc : ¬ y.toInt < x.toInt := fun h => hc (Int32.lt_iff_toInt_lt.mpr h)
    exact kk (some (.int x)) ws (post_pure (List.mem_cons_of_mem _ List.mem_cons_self) hW (vty_i0 _) (rel3 (by rw [vr, vx]; show (x).toInt ≤ _; omega) (by rw [vr, vx]; show _ ≤ (x).toInt + 0; omega) (by rw [vx, vy]; omega))) H locs ls hP0 hD hS hl
theorem row_mmax {l : Launch} {G : KG} {own : String} {T : List TE} {idx : Nat} (h1 : Cond.methodLink own idx Lib.Math.max.name ∈ BIG) (h2 : Cond.static Lib.Math.max.name ∈ BIG) (h3 : Cond.initialized "java/lang/Math" ∈ BIG) (h4 : Cond.code Lib.Math.max.name Lib.Math.max.code 2 (some .int) ∈ BIG) : MROW l G own T (idx, 1, 2, C_mmax) := by
  intro p e R s m args below meth c nL A Q cc ret nm kc ks pc ad X hdg hR1 hR2 hkc hks lw rest ws μ hcat hW hP kk
  obtain ⟨x, hx, -⟩ := vty0 (hP.1 0 _ rfl) rfl
  obtain ⟨y, hy, -⟩ := vty0 (hP.1 1 _ rfl) rfl
  have e0 : ((List.range (C_mmax).1.length).map μ).reverse ++ rest = .int y :: .int x :: rest := by
    show μ 1 :: μ 0 :: rest = _
    rw [hx, hy]
  rw [e0]
  have hR1 : 1 ≤ R.frames := hR1
  have hR2 : 8 + (2 + 11) + 0 ≤ R.locals := hR2
  have vx : ∀ v, vI (nup μ 50 v 0) = x.toInt := fun v => by rw [nup_ne (by decide), hx]; rfl
  have vy : ∀ v, vI (nup μ 50 v 1) = y.toInt := fun v => by rw [nup_ne (by decide), hy]; rfl
  have vr : ∀ v, vI (nup μ 50 v 50) = vI v := fun v => by rw [nup_eq]
  have hts := X.2.2.2.2.1
  intro H locs ls hP0 hD hS hl
  refine va_mmax X.1 X.2.1 (X.2.2.1.trans hl.1.symm) X.2.2.2.1 (hts _ h1) (hts _ h2) (hts _ h3) (hts _ h4) hR1 (by omega) hkc hks hdg ?_
  by_cases hc : x < y
  · rw [if_pos hc]
    have hc : x.toInt < y.toInt := Int32.lt_iff_toInt_lt.mp hc
    exact kk (some (.int y)) ws (post_pure List.mem_cons_self hW (vty_i0 _) (rel3 (by rw [vr, vy]; show (y).toInt ≤ _; omega) (by rw [vr, vy]; show _ ≤ (y).toInt + 0; omega) (by rw [vx, vy]; omega))) H locs ls hP0 hD hS hl
  · rw [if_neg hc]
    have hc : ¬ x.toInt < y.toInt := fun h => hc (Int32.lt_iff_toInt_lt.mpr h)
    exact kk (some (.int x)) ws (post_pure (List.mem_cons_of_mem _ List.mem_cons_self) hW (vty_i0 _) (rel3 (by rw [vr, vx]; show (x).toInt ≤ _; omega) (by rw [vr, vx]; show _ ≤ (x).toInt + 0; omega) (by rw [vx, vy]; omega))) H locs ls hP0 hD hS hl
theorem row_lmin {l : Launch} {G : KG} {own : String} {T : List TE} {idx : Nat} (h1 : Cond.methodLink own idx Lib.MathLoose.min_long.x ∈ BIG) (h2 : Cond.static Lib.MathLoose.min_long.x ∈ BIG) (h3 : Cond.initialized "java/lang/Math" ∈ BIG) (h4 : Cond.code Lib.MathLoose.min_long.x Lib.MathLoose.min_long.code 4 (some .long) ∈ BIG) : MROW l G own T (idx, 1, 4, C_lmin) := by
  intro p e R s m args below meth c nL A Q cc ret nm kc ks pc ad X hdg hR1 hR2 hkc hks lw rest ws μ hcat hW hP kk
  obtain ⟨x, hx, -⟩ := vty1 (hP.1 0 _ rfl) rfl
  obtain ⟨y, hy, -⟩ := vty1 (hP.1 1 _ rfl) rfl
  have e0 : ((List.range (C_lmin).1.length).map μ).reverse ++ rest = .long y :: .long x :: rest := by
    show μ 1 :: μ 0 :: rest = _
    rw [hx, hy]
  rw [e0]
  have hR1 : 1 ≤ R.frames := hR1
  have hR2 : 8 + (4 + 11) + 0 ≤ R.locals := hR2
  have vx : ∀ v, vI (nup μ 50 v 0) = x.toInt := fun v => by rw [nup_ne (by decide), hx]; rfl
  have vy : ∀ v, vI (nup μ 50 v 1) = y.toInt := fun v => by rw [nup_ne (by decide), hy]; rfl
  have vr : ∀ v, vI (nup μ 50 v 50) = vI v := fun v => by rw [nup_eq]
  have hts := X.2.2.2.2.1
  intro H locs ls hP0 hD hS hl
  refine va_mmin_long X.1 X.2.1 (X.2.2.1.trans hl.1.symm) X.2.2.2.1 (hts _ h1) (hts _ h2) (hts _ h3) (hts _ h4) hR1 (by omega) hkc hks hdg ?_
  by_cases hc : y < x
  · rw [if_pos hc]
    have hc : y.toInt < x.toInt := Int64.lt_iff_toInt_lt.mp hc
    exact kk (some (.long y)) ws (post_pure List.mem_cons_self hW (vty_l0 _) (rel3 (by rw [vr, vy]; show (y).toInt ≤ _; omega) (by rw [vr, vy]; show _ ≤ (y).toInt + 0; omega) (by rw [vx, vy]; omega))) H locs ls hP0 hD hS hl
  · rw [if_neg hc]
    have hc : ¬ y.toInt < x.toInt := fun h => hc (Int64.lt_iff_toInt_lt.mpr h)
    exact kk (some (.long x)) ws (post_pure (List.mem_cons_of_mem _ List.mem_cons_self) hW (vty_l0 _) (rel3 (by rw [vr, vx]; show (x).toInt ≤ _; omega) (by rw [vr, vx]; show _ ≤ (x).toInt + 0; omega) (by rw [vx, vy]; omega))) H locs ls hP0 hD hS hl
theorem row_lmax {l : Launch} {G : KG} {own : String} {T : List TE} {idx : Nat} (h1 : Cond.methodLink own idx Lib.MathLoose.max_long.x ∈ BIG) (h2 : Cond.static Lib.MathLoose.max_long.x ∈ BIG) (h3 : Cond.initialized "java/lang/Math" ∈ BIG) (h4 : Cond.code Lib.MathLoose.max_long.x Lib.MathLoose.max_long.code 4 (some .long) ∈ BIG) : MROW l G own T (idx, 1, 4, C_lmax) := by
  intro p e R s m args below meth c nL A Q cc ret nm kc ks pc ad X hdg hR1 hR2 hkc hks lw rest ws μ hcat hW hP kk
  obtain ⟨x, hx, -⟩ := vty1 (hP.1 0 _ rfl) rfl
  obtain ⟨y, hy, -⟩ := vty1 (hP.1 1 _ rfl) rfl
  have e0 : ((List.range (C_lmax).1.length).map μ).reverse ++ rest = .long y :: .long x :: rest := by
    show μ 1 :: μ 0 :: rest = _
    rw [hx, hy]
  rw [e0]
  have hR1 : 1 ≤ R.frames := hR1
  have hR2 : 8 + (4 + 11) + 0 ≤ R.locals := hR2
  have vx : ∀ v, vI (nup μ 50 v 0) = x.toInt := fun v => by rw [nup_ne (by decide), hx]; rfl
  have vy : ∀ v, vI (nup μ 50 v 1) = y.toInt := fun v => by rw [nup_ne (by decide), hy]; rfl
  have vr : ∀ v, vI (nup μ 50 v 50) = vI v := fun v => by rw [nup_eq]
  have hts := X.2.2.2.2.1
  intro H locs ls hP0 hD hS hl
  refine va_mmax_long X.1 X.2.1 (X.2.2.1.trans hl.1.symm) X.2.2.2.1 (hts _ h1) (hts _ h2) (hts _ h3) (hts _ h4) hR1 (by omega) hkc hks hdg ?_
  by_cases hc : y < x
  · rw [if_pos hc]
    have hc : y.toInt < x.toInt := Int64.lt_iff_toInt_lt.mp hc
    exact kk (some (.long x)) ws (post_pure List.mem_cons_self hW (vty_l0 _) (rel3 (by rw [vr, vx]; show (x).toInt ≤ _; omega) (by rw [vr, vx]; show _ ≤ (x).toInt + 0; omega) (by rw [vx, vy]; omega))) H locs ls hP0 hD hS hl
  · rw [if_neg hc]
    have hc : ¬ y.toInt < x.toInt := fun h => hc (Int64.lt_iff_toInt_lt.mpr h)
    exact kk (some (.long y)) ws (post_pure (List.mem_cons_of_mem _ List.mem_cons_self) hW (vty_l0 _) (rel3 (by rw [vr, vy]; show (y).toInt ≤ _; omega) (by rw [vr, vy]; show _ ≤ (y).toInt + 0; omega) (by rw [vx, vy]; omega))) H locs ls hP0 hD hS hl
theorem row_mabs {l : Launch} {G : KG} {own : String} {T : List TE} {idx : Nat} (h1 : Cond.methodLink own idx Lib.Math.abs.name ∈ BIG) (h2 : Cond.static Lib.Math.abs.name ∈ BIG) (h3 : Cond.initialized "java/lang/Math" ∈ BIG) (h4 : Cond.code Lib.Math.abs.name Lib.Math.abs.code 1 (some .int) ∈ BIG) : MROW l G own T (idx, 1, 1, C_mabs) := by
  intro p e R s m args below meth c nL A Q cc ret nm kc ks pc ad X hdg hR1 hR2 hkc hks lw rest ws μ hcat hW hP kk
  obtain ⟨x, hx, -⟩ := vty0 (hP.1 0 _ rfl) rfl
  have e0 : ((List.range (C_mabs).1.length).map μ).reverse ++ rest = .int x :: rest := by
    show μ 0 :: rest = _
    rw [hx]
  rw [e0]
  have hR1 : 1 ≤ R.frames := hR1
  have hR2 : 8 + (1 + 11) + 1 ≤ R.locals := hR2
  have vx : ∀ v, vI (nup μ 50 v 0) = x.toInt := fun v => by rw [nup_ne (by decide), hx]; rfl
  have vr : ∀ v, vI (nup μ 50 v 50) = vI v := fun v => by rw [nup_eq]
  have hts := X.2.2.2.2.1
  have hcat : (rest.map fun v => v.category).sum + 13 ≤ R.locals := by omega
  intro H locs ls hP0 hD hS hl
  refine va_mabs X.1 X.2.1 (X.2.2.1.trans hl.1.symm) X.2.2.2.1 (hts _ h1) (hts _ h2) (hts _ h3) (hts _ h4) hR1 (by omega) hkc hks hdg ?_
  by_cases hc : 0 ≤ x
  · rw [if_pos hc]
    exact kk (some (.int x)) ws (post_pure List.mem_cons_self hW (vty_i0 _) (rel2 (by rw [vr, vx]; show x.toInt ≤ _; omega) (by rw [vr, vx]; show _ ≤ x.toInt + 0; omega))) H locs ls hP0 hD hS hl
  · rw [if_neg hc]
    exact kk (some (.int (0 - x))) ws (post_pure (List.mem_cons_of_mem _ List.mem_cons_self) hW (vty_i0 _) (fun q hq => by cases hq)) H locs ls hP0 hD hS hl
theorem row_labs {l : Launch} {G : KG} {own : String} {T : List TE} {idx : Nat} (h1 : Cond.methodLink own idx Lib.MathLoose.abs_long.x ∈ BIG) (h2 : Cond.static Lib.MathLoose.abs_long.x ∈ BIG) (h3 : Cond.initialized "java/lang/Math" ∈ BIG) (h4 : Cond.code Lib.MathLoose.abs_long.x Lib.MathLoose.abs_long.code 2 (some .long) ∈ BIG) : MROW l G own T (idx, 1, 2, C_labs) := by
  intro p e R s m args below meth c nL A Q cc ret nm kc ks pc ad X hdg hR1 hR2 hkc hks lw rest ws μ hcat hW hP kk
  obtain ⟨x, hx, -⟩ := vty1 (hP.1 0 _ rfl) rfl
  have e0 : ((List.range (C_labs).1.length).map μ).reverse ++ rest = .long x :: rest := by
    show μ 0 :: rest = _
    rw [hx]
  rw [e0]
  have hR1 : 1 ≤ R.frames := hR1
  have hR2 : 8 + (2 + 11) + 0 ≤ R.locals := hR2
  have vx : ∀ v, vI (nup μ 50 v 0) = x.toInt := fun v => by rw [nup_ne (by decide), hx]; rfl
  have vr : ∀ v, vI (nup μ 50 v 50) = vI v := fun v => by rw [nup_eq]
  have hts := X.2.2.2.2.1
  have hcat : (rest.map fun v => v.category).sum + 13 ≤ R.locals := by omega
  intro H locs ls hP0 hD hS hl
  refine va_mabs_long X.1 X.2.1 (X.2.2.1.trans hl.1.symm) X.2.2.2.1 (hts _ h1) (hts _ h2) (hts _ h3) (hts _ h4) hR1 (by omega) hkc hks hdg ?_
  by_cases hc : 0 < x
  · rw [if_pos hc]
    exact kk (some (.long x)) ws (post_pure List.mem_cons_self hW (vty_l0 _) (rel2 (by rw [vr, vx]; show x.toInt ≤ _; omega) (by rw [vr, vx]; show _ ≤ x.toInt + 0; omega))) H locs ls hP0 hD hS hl
  · rw [if_neg hc]
    exact kk (some (.long (-x))) ws (post_pure (List.mem_cons_of_mem _ List.mem_cons_self) hW (vty_l0 _) (fun q hq => by cases hq)) H locs ls hP0 hD hS hl
end
section
/-! hooks -/
/-- (x + y) / 2, three instructions in one -/
def hkMid (p0 : Nat) : HKT := fun pc σ => bif Nat.beq pc p0 then (match σ.2.1 with
  | y :: x :: st => bif pId σ.2.2.1 x 0 && (pId σ.2.2.1 y 0 && (decide (0 ≤ xlo σ.2.2.1 σ.2.2.2.2.1 x) && (decide (0 ≤ xlo σ.2.2.1 σ.2.2.2.2.1 y) && (decide (xhi σ.2.2.1 σ.2.2.2.2.1 x + xhi σ.2.2.1 σ.2.2.2.2.1 y ≤ iMax) && dle σ.2.2.1 σ.2.2.2.2.1 x y 0)))) then (match adif σ.2.2.1 σ.2.2.2.2.1 x 3 y with
    | some d => some [(p0 + 3, (σ.1, σ.2.2.2.2.2 :: st, (σ.2.2.2.2.2, (0, xlo σ.2.2.1 σ.2.2.2.2.1 x, xhi σ.2.2.1 σ.2.2.2.2.1 y)) :: σ.2.2.1, σ.2.2.2.1, [(x, σ.2.2.2.2.2, 0), (σ.2.2.2.2.2, y, 0), (σ.2.2.2.2.2, x, d / 2), (y, σ.2.2.2.2.2, (d + 1) / 2)] ++ σ.2.2.2.2.1, σ.2.2.2.2.2 + 1))]
    | none => none) else none
  | _ => none) else none
theorem hkMid_ok {l : Launch} {G : KG} {T : List TE} {own : String} {cc : ByteArray} {nL : Nat} {ret : Option FieldType} {Rf Rl p0 : Nat} (d0 : decode cc p0 = .ok (.iadd, 1)) (d1 : decode cc (p0 + 1) = .ok (.iconst 2, 1)) (d2 : decode cc (p0 + 2) = .ok (.idiv, 1)) : HOK l G T own cc nL ret Rf Rl (hkMid p0) := by
  intro p e R s m args below meth c A nm Q kc ks X _ _ _ _ ad mk w0 pin pc σ L hf h k
  obtain ⟨lv, st, ev, ca, rl, nx⟩ := σ
  unfold hkMid at h
  cases hb : Nat.beq pc p0 with
  | false => rw [hb] at h; cases h
  | true =>
    have hb := Nat.eq_of_beq_eq_true hb
    subst hb
    rw [Nat.beq_refl] at h
    match st, h, hf with
    | [], h, _ => cases h
    | [x], h, _ => cases h
    | y :: x :: st, h, hf =>
      have h : (bif pId ev x 0 && (pId ev y 0 && (decide (0 ≤ xlo ev rl x) && (decide (0 ≤ xlo ev rl y) && (decide (xhi ev rl x + xhi ev rl y ≤ iMax) && dle ev rl x y 0)))) then (match adif ev rl x 3 y with
        | some d => some [(pc + 3, ((lv, nx :: st, (nx, (0, xlo ev rl x, xhi ev rl y)) :: ev, ca, [(x, nx, 0), (nx, y, 0), (nx, x, d / 2), (y, nx, (d + 1) / 2)] ++ rl, nx + 1) : AS))]
        | none => none) else none) = some L := h
      cases hc : (pId ev x 0 && (pId ev y 0 && (decide (0 ≤ xlo ev rl x) && (decide (0 ≤ xlo ev rl y) && (decide (xhi ev rl x + xhi ev rl y ≤ iMax) && dle ev rl x y 0))))) with
      | false => rw [hc] at h; cases h
      | true =>
        rw [hc] at h
        cases hd : adif ev rl x 3 y with
        | none => rw [hd] at h; cases h
        | some d =>
          rw [hd] at h
          cases h
          have k := k _ List.mem_cons_self
          obtain ⟨c1, hc⟩ := and2 hc
          obtain ⟨c2, hc⟩ := and2 hc
          obtain ⟨c3, hc⟩ := and2 hc
          obtain ⟨c4, hc⟩ := and2 hc
          obtain ⟨c5, c6⟩ := and2 hc
          have c3 := of_decide_eq_true c3
          have c4 := of_decide_eq_true c4
          have c5 := of_decide_eq_true c5
          unfold iMax at c5
          intro ν lw sw ws hg
          obtain ⟨h1, h2, h3⟩ := hg
          have h3 : AK G ad T mk w0 pin (lv, st, ev, ca, rl, nx) ν ws := h3
          have h2 : sw = ν y :: ν x :: st.map ν := h2
          obtain ⟨a, ha⟩ := h3.int (pId_ok c1)
          obtain ⟨b, hb⟩ := h3.int (pId_ok c2)
          have l1 := h3.lo2 x
          have l2 := h3.hi2 x
          have l3 := h3.lo2 y
          have l4 := h3.hi2 y
          have l5 := h3.dl c6
          have l6 := h3.dif hd
          rw [ha] at l1 l2
          rw [hb] at l3 l4
          rw [ha, hb] at l5 l6
          have l1 : xlo ev rl x ≤ a.toInt := l1
          have l2 : a.toInt ≤ xhi ev rl x := l2
          have l3 : xlo ev rl y ≤ b.toInt := l3
          have l4 : b.toInt ≤ xhi ev rl y := l4
          have l5 : a.toInt ≤ b.toInt + 0 := l5
          have l6 : b.toInt - a.toInt ≤ d := l6
          have e1 : (a + b).toInt = a.toInt + b.toInt := tI_add rfl rfl (by omega)
          have e2 : ((a + b) / 2).toInt = (a.toInt + b.toInt) / 2 := by
            rw [i32_div (by omega) (show (0 : Int) < (2 : Int32).toInt by decide), e1]
            rfl
          rw [h2, ha, hb]
          refine z_iadd X d0 (z_iconst X d1 (v := 2) rfl (z_idiv X d2 (by decide) ?_))
          have hxn : x < nx := (afr_ok hf).2.2.1 x (List.mem_cons_of_mem _ List.mem_cons_self)
          have hyn : y < nx := (afr_ok hf).2.2.1 y List.mem_cons_self
          refine k _ _ _ _ (AG.push (nr := [(x, nx, 0), (nx, y, 0), (nx, x, d / 2), (y, nx, (d + 1) / 2)]) ⟨h1, rfl, h3⟩ (afr_pop (afr_pop hf)) (vty_i (by rw [e2]; omega) (by rw [e2]; omega)) (fun q hq => ?_))
          have vx : ∀ v, vI (nup ν nx v x) = a.toInt := fun v => by rw [nup_ne hxn, ha]; rfl
          have vy : ∀ v, vI (nup ν nx v y) = b.toInt := fun v => by rw [nup_ne hyn, hb]; rfl
          have vn : ∀ v, vI (nup ν nx v nx) = vI v := fun v => by rw [nup_eq]
          have vv : vI (.int ((a + b) / 2)) = (a.toInt + b.toInt) / 2 := e2
          rcases List.mem_cons.mp hq with e | hq
          · rw [e, vx, vn, vv]; show _ ≤ _ + (0 : Int); omega
          rcases List.mem_cons.mp hq with e | hq
          · rw [e, vy, vn, vv]; show _ ≤ _ + (0 : Int); omega
          rcases List.mem_cons.mp hq with e | hq
          · rw [e, vx, vn, vv]; show _ ≤ _ + d / 2; omega
          rcases List.mem_cons.mp hq with e | hq
          · rw [e, vy, vn, vv]; show _ ≤ _ + (d + 1) / 2; omega
          · cases hq
end
