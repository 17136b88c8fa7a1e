section
-- ===== PART A: goes FIRST, ahead of the names: the tables' words, and 'selects' of the private methods out of them =====
/-- a private method of a class that the tables say can be made, by its rows of tables_1 -/
def lw_okq (q : MethodName × Nat) : Prop := (q.1.cls ≠ "java/lang/invoke/MethodHandle" ∧ q.1.cls ≠ "java/lang/invoke/VarHandle") ∧ Cond.instantiable q.1.cls q.2 ∈ tables_1 ∧ Cond.privateMethod q.1 ∈ tables_1 ∧ Cond.instanceMethod q.1 ∈ tables_1
theorem lw_p0 : lw_okq (⟨"StoneThatShakes$Reader", "readLine", "(LStoneThatShakes$Ring;LStoneThatShakes$Speeds;LStoneThatShakes$Cogs;)Z"⟩, 8) := ⟨⟨by decide +kernel, by decide +kernel⟩, List.mem_of_getElem? (i := 46) (by decide +kernel), List.mem_of_getElem? (i := 451) (by decide +kernel), List.mem_of_getElem? (i := 452) (by decide +kernel)⟩
theorem lw_p1 : lw_okq (⟨"StoneThatShakes$Reader", "readHole", "(LStoneThatShakes$Ring;)Z"⟩, 8) := ⟨⟨by decide +kernel, by decide +kernel⟩, List.mem_of_getElem? (i := 46) (by decide +kernel), List.mem_of_getElem? (i := 455) (by decide +kernel), List.mem_of_getElem? (i := 456) (by decide +kernel)⟩
theorem lw_p2 : lw_okq (⟨"StoneThatShakes$Reader", "readNumber", "(II)Z"⟩, 8) := ⟨⟨by decide +kernel, by decide +kernel⟩, List.mem_of_getElem? (i := 46) (by decide +kernel), List.mem_of_getElem? (i := 459) (by decide +kernel), List.mem_of_getElem? (i := 460) (by decide +kernel)⟩
theorem lw_p3 : lw_okq (⟨"StoneThatShakes$Reader", "isDigitHere", "()Z"⟩, 8) := ⟨⟨by decide +kernel, by decide +kernel⟩, List.mem_of_getElem? (i := 46) (by decide +kernel), List.mem_of_getElem? (i := 463) (by decide +kernel), List.mem_of_getElem? (i := 464) (by decide +kernel)⟩
theorem lw_p4 : lw_okq (⟨"StoneThatShakes$Reader", "readSign", "(I)Z"⟩, 8) := ⟨⟨by decide +kernel, by decide +kernel⟩, List.mem_of_getElem? (i := 46) (by decide +kernel), List.mem_of_getElem? (i := 467) (by decide +kernel), List.mem_of_getElem? (i := 468) (by decide +kernel)⟩
theorem lw_p5 : lw_okq (⟨"StoneThatShakes$Reader", "readSigned", "()Z"⟩, 8) := ⟨⟨by decide +kernel, by decide +kernel⟩, List.mem_of_getElem? (i := 46) (by decide +kernel), List.mem_of_getElem? (i := 471) (by decide +kernel), List.mem_of_getElem? (i := 472) (by decide +kernel)⟩
theorem lw_p6 : lw_okq (⟨"StoneThatShakes$Reader", "readSpeed", "(LStoneThatShakes$Speeds;)Z"⟩, 8) := ⟨⟨by decide +kernel, by decide +kernel⟩, List.mem_of_getElem? (i := 46) (by decide +kernel), List.mem_of_getElem? (i := 475) (by decide +kernel), List.mem_of_getElem? (i := 476) (by decide +kernel)⟩
theorem lw_p7 : lw_okq (⟨"StoneThatShakes$Reader", "readCog", "(LStoneThatShakes$Cogs;)Z"⟩, 8) := ⟨⟨by decide +kernel, by decide +kernel⟩, List.mem_of_getElem? (i := 46) (by decide +kernel), List.mem_of_getElem? (i := 479) (by decide +kernel), List.mem_of_getElem? (i := 480) (by decide +kernel)⟩
theorem lw_p8 : lw_okq (⟨"StoneThatShakes", "feltTruly", "(III)I"⟩, 16) := ⟨⟨by decide +kernel, by decide +kernel⟩, List.mem_of_getElem? (i := 22) (by decide +kernel), List.mem_of_getElem? (i := 547) (by decide +kernel), List.mem_of_getElem? (i := 548) (by decide +kernel)⟩
theorem lw_p9 : lw_okq (⟨"StoneThatShakes", "besides", "([III)I"⟩, 16) := ⟨⟨by decide +kernel, by decide +kernel⟩, List.mem_of_getElem? (i := 22) (by decide +kernel), List.mem_of_getElem? (i := 560) (by decide +kernel), List.mem_of_getElem? (i := 561) (by decide +kernel)⟩
theorem lw_p10 : lw_okq (⟨"StoneThatShakes$Trials", "addTrial", "(IIILStoneThatShakes$Ring;)I"⟩, 10) := ⟨⟨by decide +kernel, by decide +kernel⟩, List.mem_of_getElem? (i := 203) (by decide +kernel), List.mem_of_getElem? (i := 588) (by decide +kernel), List.mem_of_getElem? (i := 589) (by decide +kernel)⟩
theorem lw_p11 : lw_okq (⟨"StoneThatShakes", "gatherSpan", "()V"⟩, 16) := ⟨⟨by decide +kernel, by decide +kernel⟩, List.mem_of_getElem? (i := 22) (by decide +kernel), List.mem_of_getElem? (i := 610) (by decide +kernel), List.mem_of_getElem? (i := 611) (by decide +kernel)⟩
theorem lw_p12 : lw_okq (⟨"StoneThatShakes", "prepareTrials", "()V"⟩, 16) := ⟨⟨by decide +kernel, by decide +kernel⟩, List.mem_of_getElem? (i := 22) (by decide +kernel), List.mem_of_getElem? (i := 614) (by decide +kernel), List.mem_of_getElem? (i := 615) (by decide +kernel)⟩
theorem lw_p13 : lw_okq (⟨"StoneThatShakes", "feltBarePull", "(IIII)I"⟩, 16) := ⟨⟨by decide +kernel, by decide +kernel⟩, List.mem_of_getElem? (i := 22) (by decide +kernel), List.mem_of_getElem? (i := 618) (by decide +kernel), List.mem_of_getElem? (i := 619) (by decide +kernel)⟩
theorem lw_p14 : lw_okq (⟨"StoneThatShakes$Trials", "agrees", "(III)Z"⟩, 10) := ⟨⟨by decide +kernel, by decide +kernel⟩, List.mem_of_getElem? (i := 203) (by decide +kernel), List.mem_of_getElem? (i := 630) (by decide +kernel), List.mem_of_getElem? (i := 631) (by decide +kernel)⟩
theorem lw_p15 : lw_okq (⟨"StoneThatShakes", "gatherPulls", "()LStoneThatShakes$Pulls;"⟩, 16) := ⟨⟨by decide +kernel, by decide +kernel⟩, List.mem_of_getElem? (i := 22) (by decide +kernel), List.mem_of_getElem? (i := 681) (by decide +kernel), List.mem_of_getElem? (i := 682) (by decide +kernel)⟩
def lw_privs_1 : List (MethodName × Nat) := [(⟨"StoneThatShakes$Reader", "readLine", "(LStoneThatShakes$Ring;LStoneThatShakes$Speeds;LStoneThatShakes$Cogs;)Z"⟩, 8), (⟨"StoneThatShakes$Reader", "readHole", "(LStoneThatShakes$Ring;)Z"⟩, 8), (⟨"StoneThatShakes$Reader", "readNumber", "(II)Z"⟩, 8), (⟨"StoneThatShakes$Reader", "isDigitHere", "()Z"⟩, 8), (⟨"StoneThatShakes$Reader", "readSign", "(I)Z"⟩, 8), (⟨"StoneThatShakes$Reader", "readSigned", "()Z"⟩, 8), (⟨"StoneThatShakes$Reader", "readSpeed", "(LStoneThatShakes$Speeds;)Z"⟩, 8), (⟨"StoneThatShakes$Reader", "readCog", "(LStoneThatShakes$Cogs;)Z"⟩, 8), (⟨"StoneThatShakes", "feltTruly", "(III)I"⟩, 16), (⟨"StoneThatShakes", "besides", "([III)I"⟩, 16), (⟨"StoneThatShakes$Trials", "addTrial", "(IIILStoneThatShakes$Ring;)I"⟩, 10), (⟨"StoneThatShakes", "gatherSpan", "()V"⟩, 16), (⟨"StoneThatShakes", "prepareTrials", "()V"⟩, 16), (⟨"StoneThatShakes", "feltBarePull", "(IIII)I"⟩, 16), (⟨"StoneThatShakes$Trials", "agrees", "(III)Z"⟩, 10), (⟨"StoneThatShakes", "gatherPulls", "()LStoneThatShakes$Pulls;"⟩, 16)]
theorem lw_r1 : ∀ q ∈ lw_privs_1, lw_okq q := List.forall_mem_cons.mpr ⟨lw_p0, List.forall_mem_cons.mpr ⟨lw_p1, List.forall_mem_cons.mpr ⟨lw_p2, List.forall_mem_cons.mpr ⟨lw_p3, List.forall_mem_cons.mpr ⟨lw_p4, List.forall_mem_cons.mpr ⟨lw_p5, List.forall_mem_cons.mpr ⟨lw_p6, List.forall_mem_cons.mpr ⟨lw_p7, List.forall_mem_cons.mpr ⟨lw_p8, List.forall_mem_cons.mpr ⟨lw_p9, List.forall_mem_cons.mpr ⟨lw_p10, List.forall_mem_cons.mpr ⟨lw_p11, List.forall_mem_cons.mpr ⟨lw_p12, List.forall_mem_cons.mpr ⟨lw_p13, List.forall_mem_cons.mpr ⟨lw_p14, List.forall_mem_cons.mpr ⟨lw_p15, fun _ h => absurd h List.not_mem_nil⟩⟩⟩⟩⟩⟩⟩⟩⟩⟩⟩⟩⟩⟩⟩⟩
theorem lw_p16 : lw_okq (⟨"StoneThatShakes", "findNarrowest", "(LStoneThatShakes$Pulls;II)I"⟩, 16) := ⟨⟨by decide +kernel, by decide +kernel⟩, List.mem_of_getElem? (i := 22) (by decide +kernel), List.mem_of_getElem? (i := 727) (by decide +kernel), List.mem_of_getElem? (i := 728) (by decide +kernel)⟩
theorem lw_p17 : lw_okq (⟨"StoneThatShakes", "feelWithHung", "(LStoneThatShakes$Pulls;III)V"⟩, 16) := ⟨⟨by decide +kernel, by decide +kernel⟩, List.mem_of_getElem? (i := 22) (by decide +kernel), List.mem_of_getElem? (i := 731) (by decide +kernel), List.mem_of_getElem? (i := 732) (by decide +kernel)⟩
theorem lw_p18 : lw_okq (⟨"StoneThatShakes$Pulls", "sizeMade", "(I)J"⟩, 9) := ⟨⟨by decide +kernel, by decide +kernel⟩, List.mem_of_getElem? (i := 685) (by decide +kernel), List.mem_of_getElem? (i := 744) (by decide +kernel), List.mem_of_getElem? (i := 745) (by decide +kernel)⟩
theorem lw_p19 : lw_okq (⟨"StoneThatShakes$Pulls", "tallied", "(JI)I"⟩, 9) := ⟨⟨by decide +kernel, by decide +kernel⟩, List.mem_of_getElem? (i := 685) (by decide +kernel), List.mem_of_getElem? (i := 748) (by decide +kernel), List.mem_of_getElem? (i := 749) (by decide +kernel)⟩
theorem lw_p20 : lw_okq (⟨"StoneThatShakes", "feltByMan", "(II)J"⟩, 16) := ⟨⟨by decide +kernel, by decide +kernel⟩, List.mem_of_getElem? (i := 22) (by decide +kernel), List.mem_of_getElem? (i := 773) (by decide +kernel), List.mem_of_getElem? (i := 774) (by decide +kernel)⟩
theorem lw_p21 : lw_okq (⟨"StoneThatShakes", "unmended", "(II)I"⟩, 16) := ⟨⟨by decide +kernel, by decide +kernel⟩, List.mem_of_getElem? (i := 22) (by decide +kernel), List.mem_of_getElem? (i := 796) (by decide +kernel), List.mem_of_getElem? (i := 797) (by decide +kernel)⟩
theorem lw_p22 : lw_okq (⟨"StoneThatShakes", "searchPutting", "(II)J"⟩, 16) := ⟨⟨by decide +kernel, by decide +kernel⟩, List.mem_of_getElem? (i := 22) (by decide +kernel), List.mem_of_getElem? (i := 804) (by decide +kernel), List.mem_of_getElem? (i := 805) (by decide +kernel)⟩
theorem lw_p23 : lw_okq (⟨"StoneThatShakes", "startRestSearch", "(I)V"⟩, 16) := ⟨⟨by decide +kernel, by decide +kernel⟩, List.mem_of_getElem? (i := 22) (by decide +kernel), List.mem_of_getElem? (i := 808) (by decide +kernel), List.mem_of_getElem? (i := 809) (by decide +kernel)⟩
theorem lw_p24 : lw_okq (⟨"StoneThatShakes$Search", "costNow", "()J"⟩, 15) := ⟨⟨by decide +kernel, by decide +kernel⟩, List.mem_of_getElem? (i := 287) (by decide +kernel), List.mem_of_getElem? (i := 840) (by decide +kernel), List.mem_of_getElem? (i := 841) (by decide +kernel)⟩
theorem lw_p25 : lw_okq (⟨"StoneThatShakes$Search", "dig", "(II)V"⟩, 15) := ⟨⟨by decide +kernel, by decide +kernel⟩, List.mem_of_getElem? (i := 287) (by decide +kernel), List.mem_of_getElem? (i := 845) (by decide +kernel), List.mem_of_getElem? (i := 846) (by decide +kernel)⟩
theorem lw_p26 : lw_okq (⟨"StoneThatShakes$Search", "digLast", "(I)V"⟩, 15) := ⟨⟨by decide +kernel, by decide +kernel⟩, List.mem_of_getElem? (i := 287) (by decide +kernel), List.mem_of_getElem? (i := 849) (by decide +kernel), List.mem_of_getElem? (i := 850) (by decide +kernel)⟩
theorem lw_p27 : lw_okq (⟨"StoneThatShakes$Search", "slopeOf", "(I)J"⟩, 15) := ⟨⟨by decide +kernel, by decide +kernel⟩, List.mem_of_getElem? (i := 287) (by decide +kernel), List.mem_of_getElem? (i := 853) (by decide +kernel), List.mem_of_getElem? (i := 854) (by decide +kernel)⟩
theorem lw_p28 : lw_okq (⟨"StoneThatShakes$Search", "footOf", "(JI)J"⟩, 15) := ⟨⟨by decide +kernel, by decide +kernel⟩, List.mem_of_getElem? (i := 287) (by decide +kernel), List.mem_of_getElem? (i := 857) (by decide +kernel), List.mem_of_getElem? (i := 858) (by decide +kernel)⟩
theorem lw_p29 : lw_okq (⟨"StoneThatShakes$Search", "offer", "(J)V"⟩, 15) := ⟨⟨by decide +kernel, by decide +kernel⟩, List.mem_of_getElem? (i := 287) (by decide +kernel), List.mem_of_getElem? (i := 874) (by decide +kernel), List.mem_of_getElem? (i := 875) (by decide +kernel)⟩
theorem lw_p30 : lw_okq (⟨"StoneThatShakes$Search", "isPreferred", "()Z"⟩, 15) := ⟨⟨by decide +kernel, by decide +kernel⟩, List.mem_of_getElem? (i := 287) (by decide +kernel), List.mem_of_getElem? (i := 878) (by decide +kernel), List.mem_of_getElem? (i := 879) (by decide +kernel)⟩
theorem lw_p31 : lw_okq (⟨"StoneThatShakes$Search", "lay", "(II)V"⟩, 15) := ⟨⟨by decide +kernel, by decide +kernel⟩, List.mem_of_getElem? (i := 287) (by decide +kernel), List.mem_of_getElem? (i := 882) (by decide +kernel), List.mem_of_getElem? (i := 883) (by decide +kernel)⟩
def lw_privs_2 : List (MethodName × Nat) := [(⟨"StoneThatShakes", "findNarrowest", "(LStoneThatShakes$Pulls;II)I"⟩, 16), (⟨"StoneThatShakes", "feelWithHung", "(LStoneThatShakes$Pulls;III)V"⟩, 16), (⟨"StoneThatShakes$Pulls", "sizeMade", "(I)J"⟩, 9), (⟨"StoneThatShakes$Pulls", "tallied", "(JI)I"⟩, 9), (⟨"StoneThatShakes", "feltByMan", "(II)J"⟩, 16), (⟨"StoneThatShakes", "unmended", "(II)I"⟩, 16), (⟨"StoneThatShakes", "searchPutting", "(II)J"⟩, 16), (⟨"StoneThatShakes", "startRestSearch", "(I)V"⟩, 16), (⟨"StoneThatShakes$Search", "costNow", "()J"⟩, 15), (⟨"StoneThatShakes$Search", "dig", "(II)V"⟩, 15), (⟨"StoneThatShakes$Search", "digLast", "(I)V"⟩, 15), (⟨"StoneThatShakes$Search", "slopeOf", "(I)J"⟩, 15), (⟨"StoneThatShakes$Search", "footOf", "(JI)J"⟩, 15), (⟨"StoneThatShakes$Search", "offer", "(J)V"⟩, 15), (⟨"StoneThatShakes$Search", "isPreferred", "()Z"⟩, 15), (⟨"StoneThatShakes$Search", "lay", "(II)V"⟩, 15)]
theorem lw_r2 : ∀ q ∈ lw_privs_2, lw_okq q := List.forall_mem_cons.mpr ⟨lw_p16, List.forall_mem_cons.mpr ⟨lw_p17, List.forall_mem_cons.mpr ⟨lw_p18, List.forall_mem_cons.mpr ⟨lw_p19, List.forall_mem_cons.mpr ⟨lw_p20, List.forall_mem_cons.mpr ⟨lw_p21, List.forall_mem_cons.mpr ⟨lw_p22, List.forall_mem_cons.mpr ⟨lw_p23, List.forall_mem_cons.mpr ⟨lw_p24, List.forall_mem_cons.mpr ⟨lw_p25, List.forall_mem_cons.mpr ⟨lw_p26, List.forall_mem_cons.mpr ⟨lw_p27, List.forall_mem_cons.mpr ⟨lw_p28, List.forall_mem_cons.mpr ⟨lw_p29, List.forall_mem_cons.mpr ⟨lw_p30, List.forall_mem_cons.mpr ⟨lw_p31, fun _ h => absurd h List.not_mem_nil⟩⟩⟩⟩⟩⟩⟩⟩⟩⟩⟩⟩⟩⟩⟩⟩
theorem lw_p32 : lw_okq (⟨"StoneThatShakes", "tellSearched", "()V"⟩, 16) := ⟨⟨by decide +kernel, by decide +kernel⟩, List.mem_of_getElem? (i := 22) (by decide +kernel), List.mem_of_getElem? (i := 886) (by decide +kernel), List.mem_of_getElem? (i := 887) (by decide +kernel)⟩
theorem lw_p33 : lw_okq (⟨"StoneThatShakes", "gatherFitting", "(II)I"⟩, 16) := ⟨⟨by decide +kernel, by decide +kernel⟩, List.mem_of_getElem? (i := 22) (by decide +kernel), List.mem_of_getElem? (i := 906) (by decide +kernel), List.mem_of_getElem? (i := 907) (by decide +kernel)⟩
theorem lw_p34 : lw_okq (⟨"StoneThatShakes", "bestOunce", "(II)I"⟩, 16) := ⟨⟨by decide +kernel, by decide +kernel⟩, List.mem_of_getElem? (i := 22) (by decide +kernel), List.mem_of_getElem? (i := 917) (by decide +kernel), List.mem_of_getElem? (i := 918) (by decide +kernel)⟩
theorem lw_p35 : lw_okq (⟨"StoneThatShakes", "changeByOunce", "(II)J"⟩, 16) := ⟨⟨by decide +kernel, by decide +kernel⟩, List.mem_of_getElem? (i := 22) (by decide +kernel), List.mem_of_getElem? (i := 921) (by decide +kernel), List.mem_of_getElem? (i := 922) (by decide +kernel)⟩
theorem lw_p36 : lw_okq (⟨"StoneThatShakes", "settleOunce", "(I)Z"⟩, 16) := ⟨⟨by decide +kernel, by decide +kernel⟩, List.mem_of_getElem? (i := 22) (by decide +kernel), List.mem_of_getElem? (i := 929) (by decide +kernel), List.mem_of_getElem? (i := 930) (by decide +kernel)⟩
theorem lw_p37 : lw_okq (⟨"StoneThatShakes", "partingOfCrosses", "()I"⟩, 16) := ⟨⟨by decide +kernel, by decide +kernel⟩, List.mem_of_getElem? (i := 22) (by decide +kernel), List.mem_of_getElem? (i := 937) (by decide +kernel), List.mem_of_getElem? (i := 938) (by decide +kernel)⟩
theorem lw_p38 : lw_okq (⟨"StoneThatShakes", "tellPull", "(IIIII)V"⟩, 16) := ⟨⟨by decide +kernel, by decide +kernel⟩, List.mem_of_getElem? (i := 22) (by decide +kernel), List.mem_of_getElem? (i := 941) (by decide +kernel), List.mem_of_getElem? (i := 942) (by decide +kernel)⟩
theorem lw_p39 : lw_okq (⟨"StoneThatShakes", "feltThought", "(III)I"⟩, 16) := ⟨⟨by decide +kernel, by decide +kernel⟩, List.mem_of_getElem? (i := 22) (by decide +kernel), List.mem_of_getElem? (i := 958) (by decide +kernel), List.mem_of_getElem? (i := 959) (by decide +kernel)⟩
theorem lw_p40 : lw_okq (⟨"StoneThatShakes", "partingOfSpeeds", "(III)J"⟩, 16) := ⟨⟨by decide +kernel, by decide +kernel⟩, List.mem_of_getElem? (i := 22) (by decide +kernel), List.mem_of_getElem? (i := 988) (by decide +kernel), List.mem_of_getElem? (i := 989) (by decide +kernel)⟩
theorem lw_p41 : lw_okq (⟨"StoneThatShakes", "tellThree", "(IIIJJJ)V"⟩, 16) := ⟨⟨by decide +kernel, by decide +kernel⟩, List.mem_of_getElem? (i := 22) (by decide +kernel), List.mem_of_getElem? (i := 992) (by decide +kernel), List.mem_of_getElem? (i := 993) (by decide +kernel)⟩
theorem lw_p42 : lw_okq (⟨"StoneThatShakes", "cogsHavePlaces", "()Z"⟩, 16) := ⟨⟨by decide +kernel, by decide +kernel⟩, List.mem_of_getElem? (i := 22) (by decide +kernel), List.mem_of_getElem? (i := 1012) (by decide +kernel), List.mem_of_getElem? (i := 1013) (by decide +kernel)⟩
theorem lw_p43 : lw_okq (⟨"StoneThatShakes$Cogs", "seatFrom", "(LStoneThatShakes$Ring;IIII)V"⟩, 7) := ⟨⟨by decide +kernel, by decide +kernel⟩, List.mem_of_getElem? (i := 167) (by decide +kernel), List.mem_of_getElem? (i := 1029) (by decide +kernel), List.mem_of_getElem? (i := 1030) (by decide +kernel)⟩
theorem lw_p44 : lw_okq (⟨"StoneThatShakes$Cogs", "moved", "(II[I)I"⟩, 7) := ⟨⟨by decide +kernel, by decide +kernel⟩, List.mem_of_getElem? (i := 167) (by decide +kernel), List.mem_of_getElem? (i := 1046) (by decide +kernel), List.mem_of_getElem? (i := 1047) (by decide +kernel)⟩
theorem lw_p45 : lw_okq (⟨"java/lang/Throwable", "fillInStackTrace", "(I)Ljava/lang/Throwable;"⟩, 6) := ⟨⟨by decide +kernel, by decide +kernel⟩, List.mem_of_getElem? (i := 1125) (by decide +kernel), List.mem_of_getElem? (i := 1123) (by decide +kernel), List.mem_of_getElem? (i := 1124) (by decide +kernel)⟩
theorem lw_p46 : lw_okq (⟨"StoneThatShakesModel", "readsLine", "()Z"⟩, 75) := ⟨⟨by decide +kernel, by decide +kernel⟩, List.mem_of_getElem? (i := 1182) (by decide +kernel), List.mem_of_getElem? (i := 1180) (by decide +kernel), List.mem_of_getElem? (i := 1181) (by decide +kernel)⟩
theorem lw_p47 : lw_okq (⟨"StoneThatShakesModel", "number", "(II)I"⟩, 75) := ⟨⟨by decide +kernel, by decide +kernel⟩, List.mem_of_getElem? (i := 1182) (by decide +kernel), List.mem_of_getElem? (i := 1185) (by decide +kernel), List.mem_of_getElem? (i := 1186) (by decide +kernel)⟩
def lw_privs_3 : List (MethodName × Nat) := [(⟨"StoneThatShakes", "tellSearched", "()V"⟩, 16), (⟨"StoneThatShakes", "gatherFitting", "(II)I"⟩, 16), (⟨"StoneThatShakes", "bestOunce", "(II)I"⟩, 16), (⟨"StoneThatShakes", "changeByOunce", "(II)J"⟩, 16), (⟨"StoneThatShakes", "settleOunce", "(I)Z"⟩, 16), (⟨"StoneThatShakes", "partingOfCrosses", "()I"⟩, 16), (⟨"StoneThatShakes", "tellPull", "(IIIII)V"⟩, 16), (⟨"StoneThatShakes", "feltThought", "(III)I"⟩, 16), (⟨"StoneThatShakes", "partingOfSpeeds", "(III)J"⟩, 16), (⟨"StoneThatShakes", "tellThree", "(IIIJJJ)V"⟩, 16), (⟨"StoneThatShakes", "cogsHavePlaces", "()Z"⟩, 16), (⟨"StoneThatShakes$Cogs", "seatFrom", "(LStoneThatShakes$Ring;IIII)V"⟩, 7), (⟨"StoneThatShakes$Cogs", "moved", "(II[I)I"⟩, 7), (⟨"java/lang/Throwable", "fillInStackTrace", "(I)Ljava/lang/Throwable;"⟩, 6), (⟨"StoneThatShakesModel", "readsLine", "()Z"⟩, 75), (⟨"StoneThatShakesModel", "number", "(II)I"⟩, 75)]
theorem lw_r3 : ∀ q ∈ lw_privs_3, lw_okq q := List.forall_mem_cons.mpr ⟨lw_p32, List.forall_mem_cons.mpr ⟨lw_p33, List.forall_mem_cons.mpr ⟨lw_p34, List.forall_mem_cons.mpr ⟨lw_p35, List.forall_mem_cons.mpr ⟨lw_p36, List.forall_mem_cons.mpr ⟨lw_p37, List.forall_mem_cons.mpr ⟨lw_p38, List.forall_mem_cons.mpr ⟨lw_p39, List.forall_mem_cons.mpr ⟨lw_p40, List.forall_mem_cons.mpr ⟨lw_p41, List.forall_mem_cons.mpr ⟨lw_p42, List.forall_mem_cons.mpr ⟨lw_p43, List.forall_mem_cons.mpr ⟨lw_p44, List.forall_mem_cons.mpr ⟨lw_p45, List.forall_mem_cons.mpr ⟨lw_p46, List.forall_mem_cons.mpr ⟨lw_p47, fun _ h => absurd h List.not_mem_nil⟩⟩⟩⟩⟩⟩⟩⟩⟩⟩⟩⟩⟩⟩⟩⟩
theorem lw_p48 : lw_okq (⟨"StoneThatShakesModel", "isDigit", "()Z"⟩, 75) := ⟨⟨by decide +kernel, by decide +kernel⟩, List.mem_of_getElem? (i := 1182) (by decide +kernel), List.mem_of_getElem? (i := 1189) (by decide +kernel), List.mem_of_getElem? (i := 1190) (by decide +kernel)⟩
theorem lw_p49 : lw_okq (⟨"StoneThatShakesModel", "takes", "(I)Z"⟩, 75) := ⟨⟨by decide +kernel, by decide +kernel⟩, List.mem_of_getElem? (i := 1182) (by decide +kernel), List.mem_of_getElem? (i := 1195) (by decide +kernel), List.mem_of_getElem? (i := 1196) (by decide +kernel)⟩
theorem lw_p50 : lw_okq (⟨"StoneThatShakesModel", "signed", "()I"⟩, 75) := ⟨⟨by decide +kernel, by decide +kernel⟩, List.mem_of_getElem? (i := 1182) (by decide +kernel), List.mem_of_getElem? (i := 1202) (by decide +kernel), List.mem_of_getElem? (i := 1203) (by decide +kernel)⟩
theorem lw_p51 : lw_okq (⟨"StoneThatShakesModel", "isHole", "(I)Z"⟩, 75) := ⟨⟨by decide +kernel, by decide +kernel⟩, List.mem_of_getElem? (i := 1182) (by decide +kernel), List.mem_of_getElem? (i := 1210) (by decide +kernel), List.mem_of_getElem? (i := 1211) (by decide +kernel)⟩
theorem lw_p52 : lw_okq (⟨"StoneThatShakesModel", "ouncesAll", "()I"⟩, 75) := ⟨⟨by decide +kernel, by decide +kernel⟩, List.mem_of_getElem? (i := 1182) (by decide +kernel), List.mem_of_getElem? (i := 1230) (by decide +kernel), List.mem_of_getElem? (i := 1231) (by decide +kernel)⟩
theorem lw_p53 : lw_okq (⟨"StoneThatShakesModel", "isSpeed", "(I)Z"⟩, 75) := ⟨⟨by decide +kernel, by decide +kernel⟩, List.mem_of_getElem? (i := 1182) (by decide +kernel), List.mem_of_getElem? (i := 1264) (by decide +kernel), List.mem_of_getElem? (i := 1265) (by decide +kernel)⟩
theorem lw_p54 : lw_okq (⟨"StoneThatShakesModel", "leadsNow", "()V"⟩, 75) := ⟨⟨by decide +kernel, by decide +kernel⟩, List.mem_of_getElem? (i := 1182) (by decide +kernel), List.mem_of_getElem? (i := 1268) (by decide +kernel), List.mem_of_getElem? (i := 1269) (by decide +kernel)⟩
theorem lw_p55 : lw_okq (⟨"StoneThatShakesModel", "leads", "(II)V"⟩, 75) := ⟨⟨by decide +kernel, by decide +kernel⟩, List.mem_of_getElem? (i := 1182) (by decide +kernel), List.mem_of_getElem? (i := 1272) (by decide +kernel), List.mem_of_getElem? (i := 1273) (by decide +kernel)⟩
theorem lw_p56 : lw_okq (⟨"StoneThatShakesModel", "felt", "(II[II)J"⟩, 75) := ⟨⟨by decide +kernel, by decide +kernel⟩, List.mem_of_getElem? (i := 1182) (by decide +kernel), List.mem_of_getElem? (i := 1276) (by decide +kernel), List.mem_of_getElem? (i := 1277) (by decide +kernel)⟩
theorem lw_p57 : lw_okq (⟨"StoneThatShakesModel", "enters", "(J)V"⟩, 75) := ⟨⟨by decide +kernel, by decide +kernel⟩, List.mem_of_getElem? (i := 1182) (by decide +kernel), List.mem_of_getElem? (i := 1280) (by decide +kernel), List.mem_of_getElem? (i := 1281) (by decide +kernel)⟩
theorem lw_p58 : lw_okq (⟨"StoneThatShakesModel", "lays", "(IZIII)I"⟩, 75) := ⟨⟨by decide +kernel, by decide +kernel⟩, List.mem_of_getElem? (i := 1182) (by decide +kernel), List.mem_of_getElem? (i := 1301) (by decide +kernel), List.mem_of_getElem? (i := 1302) (by decide +kernel)⟩
theorem lw_p59 : lw_okq (⟨"StoneThatShakesModel", "finds", "()V"⟩, 75) := ⟨⟨by decide +kernel, by decide +kernel⟩, List.mem_of_getElem? (i := 1182) (by decide +kernel), List.mem_of_getElem? (i := 1318) (by decide +kernel), List.mem_of_getElem? (i := 1319) (by decide +kernel)⟩
theorem lw_p60 : lw_okq (⟨"StoneThatShakesModel", "prepares", "()V"⟩, 75) := ⟨⟨by decide +kernel, by decide +kernel⟩, List.mem_of_getElem? (i := 1182) (by decide +kernel), List.mem_of_getElem? (i := 1322) (by decide +kernel), List.mem_of_getElem? (i := 1323) (by decide +kernel)⟩
theorem lw_p61 : lw_okq (⟨"StoneThatShakesModel", "bases", "(I)V"⟩, 75) := ⟨⟨by decide +kernel, by decide +kernel⟩, List.mem_of_getElem? (i := 1182) (by decide +kernel), List.mem_of_getElem? (i := 1326) (by decide +kernel), List.mem_of_getElem? (i := 1327) (by decide +kernel)⟩
theorem lw_p62 : lw_okq (⟨"StoneThatShakesModel", "agreesAll", "(III)Z"⟩, 75) := ⟨⟨by decide +kernel, by decide +kernel⟩, List.mem_of_getElem? (i := 1182) (by decide +kernel), List.mem_of_getElem? (i := 1336) (by decide +kernel), List.mem_of_getElem? (i := 1337) (by decide +kernel)⟩
theorem lw_p63 : lw_okq (⟨"StoneThatShakesModel", "agrees", "(III)Z"⟩, 75) := ⟨⟨by decide +kernel, by decide +kernel⟩, List.mem_of_getElem? (i := 1182) (by decide +kernel), List.mem_of_getElem? (i := 1343) (by decide +kernel), List.mem_of_getElem? (i := 1344) (by decide +kernel)⟩
def lw_privs_4 : List (MethodName × Nat) := [(⟨"StoneThatShakesModel", "isDigit", "()Z"⟩, 75), (⟨"StoneThatShakesModel", "takes", "(I)Z"⟩, 75), (⟨"StoneThatShakesModel", "signed", "()I"⟩, 75), (⟨"StoneThatShakesModel", "isHole", "(I)Z"⟩, 75), (⟨"StoneThatShakesModel", "ouncesAll", "()I"⟩, 75), (⟨"StoneThatShakesModel", "isSpeed", "(I)Z"⟩, 75), (⟨"StoneThatShakesModel", "leadsNow", "()V"⟩, 75), (⟨"StoneThatShakesModel", "leads", "(II)V"⟩, 75), (⟨"StoneThatShakesModel", "felt", "(II[II)J"⟩, 75), (⟨"StoneThatShakesModel", "enters", "(J)V"⟩, 75), (⟨"StoneThatShakesModel", "lays", "(IZIII)I"⟩, 75), (⟨"StoneThatShakesModel", "finds", "()V"⟩, 75), (⟨"StoneThatShakesModel", "prepares", "()V"⟩, 75), (⟨"StoneThatShakesModel", "bases", "(I)V"⟩, 75), (⟨"StoneThatShakesModel", "agreesAll", "(III)Z"⟩, 75), (⟨"StoneThatShakesModel", "agrees", "(III)Z"⟩, 75)]
theorem lw_r4 : ∀ q ∈ lw_privs_4, lw_okq q := List.forall_mem_cons.mpr ⟨lw_p48, List.forall_mem_cons.mpr ⟨lw_p49, List.forall_mem_cons.mpr ⟨lw_p50, List.forall_mem_cons.mpr ⟨lw_p51, List.forall_mem_cons.mpr ⟨lw_p52, List.forall_mem_cons.mpr ⟨lw_p53, List.forall_mem_cons.mpr ⟨lw_p54, List.forall_mem_cons.mpr ⟨lw_p55, List.forall_mem_cons.mpr ⟨lw_p56, List.forall_mem_cons.mpr ⟨lw_p57, List.forall_mem_cons.mpr ⟨lw_p58, List.forall_mem_cons.mpr ⟨lw_p59, List.forall_mem_cons.mpr ⟨lw_p60, List.forall_mem_cons.mpr ⟨lw_p61, List.forall_mem_cons.mpr ⟨lw_p62, List.forall_mem_cons.mpr ⟨lw_p63, fun _ h => absurd h List.not_mem_nil⟩⟩⟩⟩⟩⟩⟩⟩⟩⟩⟩⟩⟩⟩⟩⟩
theorem lw_p64 : lw_okq (⟨"StoneThatShakesModel", "some", "(I)Z"⟩, 75) := ⟨⟨by decide +kernel, by decide +kernel⟩, List.mem_of_getElem? (i := 1182) (by decide +kernel), List.mem_of_getElem? (i := 1368) (by decide +kernel), List.mem_of_getElem? (i := 1369) (by decide +kernel)⟩
theorem lw_p65 : lw_okq (⟨"StoneThatShakesModel", "narrows", "(II)I"⟩, 75) := ⟨⟨by decide +kernel, by decide +kernel⟩, List.mem_of_getElem? (i := 1182) (by decide +kernel), List.mem_of_getElem? (i := 1377) (by decide +kernel), List.mem_of_getElem? (i := 1378) (by decide +kernel)⟩
theorem lw_p66 : lw_okq (⟨"StoneThatShakesModel", "leaves", "(III)I"⟩, 75) := ⟨⟨by decide +kernel, by decide +kernel⟩, List.mem_of_getElem? (i := 1182) (by decide +kernel), List.mem_of_getElem? (i := 1381) (by decide +kernel), List.mem_of_getElem? (i := 1382) (by decide +kernel)⟩
theorem lw_p67 : lw_okq (⟨"StoneThatShakesModel", "sizeOf", "(I)J"⟩, 75) := ⟨⟨by decide +kernel, by decide +kernel⟩, List.mem_of_getElem? (i := 1182) (by decide +kernel), List.mem_of_getElem? (i := 1385) (by decide +kernel), List.mem_of_getElem? (i := 1386) (by decide +kernel)⟩
theorem lw_p68 : lw_okq (⟨"StoneThatShakesModel", "sorts", "(II)V"⟩, 75) := ⟨⟨by decide +kernel, by decide +kernel⟩, List.mem_of_getElem? (i := 1182) (by decide +kernel), List.mem_of_getElem? (i := 1389) (by decide +kernel), List.mem_of_getElem? (i := 1390) (by decide +kernel)⟩
theorem lw_p69 : lw_okq (⟨"StoneThatShakesModel", "isMended", "(I)Z"⟩, 75) := ⟨⟨by decide +kernel, by decide +kernel⟩, List.mem_of_getElem? (i := 1182) (by decide +kernel), List.mem_of_getElem? (i := 1397) (by decide +kernel), List.mem_of_getElem? (i := 1398) (by decide +kernel)⟩
theorem lw_p70 : lw_okq (⟨"StoneThatShakesModel", "keepsLike", "(II)V"⟩, 75) := ⟨⟨by decide +kernel, by decide +kernel⟩, List.mem_of_getElem? (i := 1182) (by decide +kernel), List.mem_of_getElem? (i := 1401) (by decide +kernel), List.mem_of_getElem? (i := 1402) (by decide +kernel)⟩
theorem lw_p71 : lw_okq (⟨"StoneThatShakesModel", "told", "(III)J"⟩, 75) := ⟨⟨by decide +kernel, by decide +kernel⟩, List.mem_of_getElem? (i := 1182) (by decide +kernel), List.mem_of_getElem? (i := 1418) (by decide +kernel), List.mem_of_getElem? (i := 1419) (by decide +kernel)⟩
theorem lw_p72 : lw_okq (⟨"StoneThatShakesModel", "restOf", "(I)J"⟩, 75) := ⟨⟨by decide +kernel, by decide +kernel⟩, List.mem_of_getElem? (i := 1182) (by decide +kernel), List.mem_of_getElem? (i := 1430) (by decide +kernel), List.mem_of_getElem? (i := 1431) (by decide +kernel)⟩
theorem lw_p73 : lw_okq (⟨"StoneThatShakesModel", "mended", "(IIZZ)J"⟩, 75) := ⟨⟨by decide +kernel, by decide +kernel⟩, List.mem_of_getElem? (i := 1182) (by decide +kernel), List.mem_of_getElem? (i := 1438) (by decide +kernel), List.mem_of_getElem? (i := 1439) (by decide +kernel)⟩
theorem lw_p74 : lw_okq (⟨"StoneThatShakesModel", "mends", "(IIZZ)V"⟩, 75) := ⟨⟨by decide +kernel, by decide +kernel⟩, List.mem_of_getElem? (i := 1182) (by decide +kernel), List.mem_of_getElem? (i := 1442) (by decide +kernel), List.mem_of_getElem? (i := 1443) (by decide +kernel)⟩
theorem lw_p75 : lw_okq (⟨"StoneThatShakesModel", "goes", "(III)V"⟩, 75) := ⟨⟨by decide +kernel, by decide +kernel⟩, List.mem_of_getElem? (i := 1182) (by decide +kernel), List.mem_of_getElem? (i := 1446) (by decide +kernel), List.mem_of_getElem? (i := 1447) (by decide +kernel)⟩
theorem lw_p76 : lw_okq (⟨"StoneThatShakesModel", "asks", "()J"⟩, 75) := ⟨⟨by decide +kernel, by decide +kernel⟩, List.mem_of_getElem? (i := 1182) (by decide +kernel), List.mem_of_getElem? (i := 1450) (by decide +kernel), List.mem_of_getElem? (i := 1451) (by decide +kernel)⟩
theorem lw_p77 : lw_okq (⟨"StoneThatShakesModel", "bothBearings", "(I)J"⟩, 75) := ⟨⟨by decide +kernel, by decide +kernel⟩, List.mem_of_getElem? (i := 1182) (by decide +kernel), List.mem_of_getElem? (i := 1454) (by decide +kernel), List.mem_of_getElem? (i := 1455) (by decide +kernel)⟩
theorem lw_p78 : lw_okq (⟨"StoneThatShakesModel", "entersFound", "()V"⟩, 75) := ⟨⟨by decide +kernel, by decide +kernel⟩, List.mem_of_getElem? (i := 1182) (by decide +kernel), List.mem_of_getElem? (i := 1459) (by decide +kernel), List.mem_of_getElem? (i := 1460) (by decide +kernel)⟩
theorem lw_p79 : lw_okq (⟨"StoneThatShakesModel", "ounceOf", "(II)I"⟩, 75) := ⟨⟨by decide +kernel, by decide +kernel⟩, List.mem_of_getElem? (i := 1182) (by decide +kernel), List.mem_of_getElem? (i := 1483) (by decide +kernel), List.mem_of_getElem? (i := 1484) (by decide +kernel)⟩
def lw_privs_5 : List (MethodName × Nat) := [(⟨"StoneThatShakesModel", "some", "(I)Z"⟩, 75), (⟨"StoneThatShakesModel", "narrows", "(II)I"⟩, 75), (⟨"StoneThatShakesModel", "leaves", "(III)I"⟩, 75), (⟨"StoneThatShakesModel", "sizeOf", "(I)J"⟩, 75), (⟨"StoneThatShakesModel", "sorts", "(II)V"⟩, 75), (⟨"StoneThatShakesModel", "isMended", "(I)Z"⟩, 75), (⟨"StoneThatShakesModel", "keepsLike", "(II)V"⟩, 75), (⟨"StoneThatShakesModel", "told", "(III)J"⟩, 75), (⟨"StoneThatShakesModel", "restOf", "(I)J"⟩, 75), (⟨"StoneThatShakesModel", "mended", "(IIZZ)J"⟩, 75), (⟨"StoneThatShakesModel", "mends", "(IIZZ)V"⟩, 75), (⟨"StoneThatShakesModel", "goes", "(III)V"⟩, 75), (⟨"StoneThatShakesModel", "asks", "()J"⟩, 75), (⟨"StoneThatShakesModel", "bothBearings", "(I)J"⟩, 75), (⟨"StoneThatShakesModel", "entersFound", "()V"⟩, 75), (⟨"StoneThatShakesModel", "ounceOf", "(II)I"⟩, 75)]
theorem lw_r5 : ∀ q ∈ lw_privs_5, lw_okq q := List.forall_mem_cons.mpr ⟨lw_p64, List.forall_mem_cons.mpr ⟨lw_p65, List.forall_mem_cons.mpr ⟨lw_p66, List.forall_mem_cons.mpr ⟨lw_p67, List.forall_mem_cons.mpr ⟨lw_p68, List.forall_mem_cons.mpr ⟨lw_p69, List.forall_mem_cons.mpr ⟨lw_p70, List.forall_mem_cons.mpr ⟨lw_p71, List.forall_mem_cons.mpr ⟨lw_p72, List.forall_mem_cons.mpr ⟨lw_p73, List.forall_mem_cons.mpr ⟨lw_p74, List.forall_mem_cons.mpr ⟨lw_p75, List.forall_mem_cons.mpr ⟨lw_p76, List.forall_mem_cons.mpr ⟨lw_p77, List.forall_mem_cons.mpr ⟨lw_p78, List.forall_mem_cons.mpr ⟨lw_p79, fun _ h => absurd h List.not_mem_nil⟩⟩⟩⟩⟩⟩⟩⟩⟩⟩⟩⟩⟩⟩⟩⟩
theorem lw_p80 : lw_okq (⟨"StoneThatShakesModel", "entersFraction", "(JJ)V"⟩, 75) := ⟨⟨by decide +kernel, by decide +kernel⟩, List.mem_of_getElem? (i := 1182) (by decide +kernel), List.mem_of_getElem? (i := 1495) (by decide +kernel), List.mem_of_getElem? (i := 1496) (by decide +kernel)⟩
theorem lw_p81 : lw_okq (⟨"StoneThatShakesModel", "laysOut", "(IIIIJJJ)V"⟩, 75) := ⟨⟨by decide +kernel, by decide +kernel⟩, List.mem_of_getElem? (i := 1182) (by decide +kernel), List.mem_of_getElem? (i := 1531) (by decide +kernel), List.mem_of_getElem? (i := 1532) (by decide +kernel)⟩
theorem lw_p82 : lw_okq (⟨"StoneThatShakesModel", "areCogs", "()Z"⟩, 75) := ⟨⟨by decide +kernel, by decide +kernel⟩, List.mem_of_getElem? (i := 1182) (by decide +kernel), List.mem_of_getElem? (i := 1550) (by decide +kernel), List.mem_of_getElem? (i := 1551) (by decide +kernel)⟩
theorem lw_p83 : lw_okq (⟨"StoneThatShakesModel", "asTold", "()V"⟩, 75) := ⟨⟨by decide +kernel, by decide +kernel⟩, List.mem_of_getElem? (i := 1182) (by decide +kernel), List.mem_of_getElem? (i := 1554) (by decide +kernel), List.mem_of_getElem? (i := 1555) (by decide +kernel)⟩
theorem lw_p84 : lw_okq (⟨"StoneThatShakesModel", "cogSize", "()J"⟩, 75) := ⟨⟨by decide +kernel, by decide +kernel⟩, List.mem_of_getElem? (i := 1182) (by decide +kernel), List.mem_of_getElem? (i := 1558) (by decide +kernel), List.mem_of_getElem? (i := 1559) (by decide +kernel)⟩
theorem lw_p85 : lw_okq (⟨"StoneThatShakesModel", "orders", "(II)V"⟩, 75) := ⟨⟨by decide +kernel, by decide +kernel⟩, List.mem_of_getElem? (i := 1182) (by decide +kernel), List.mem_of_getElem? (i := 1566) (by decide +kernel), List.mem_of_getElem? (i := 1567) (by decide +kernel)⟩
theorem lw_p86 : lw_okq (⟨"StoneThatShakesModel", "exchanges", "(II)V"⟩, 75) := ⟨⟨by decide +kernel, by decide +kernel⟩, List.mem_of_getElem? (i := 1182) (by decide +kernel), List.mem_of_getElem? (i := 1574) (by decide +kernel), List.mem_of_getElem? (i := 1575) (by decide +kernel)⟩
theorem lw_p87 : lw_okq (⟨"StoneThatShakesModel", "lays", "(I)V"⟩, 75) := ⟨⟨by decide +kernel, by decide +kernel⟩, List.mem_of_getElem? (i := 1182) (by decide +kernel), List.mem_of_getElem? (i := 1582) (by decide +kernel), List.mem_of_getElem? (i := 1583) (by decide +kernel)⟩
theorem lw_p88 : lw_okq (⟨"StoneThatShakesModel", "takesKept", "()I"⟩, 75) := ⟨⟨by decide +kernel, by decide +kernel⟩, List.mem_of_getElem? (i := 1182) (by decide +kernel), List.mem_of_getElem? (i := 1590) (by decide +kernel), List.mem_of_getElem? (i := 1591) (by decide +kernel)⟩
def lw_privs_6 : List (MethodName × Nat) := [(⟨"StoneThatShakesModel", "entersFraction", "(JJ)V"⟩, 75), (⟨"StoneThatShakesModel", "laysOut", "(IIIIJJJ)V"⟩, 75), (⟨"StoneThatShakesModel", "areCogs", "()Z"⟩, 75), (⟨"StoneThatShakesModel", "asTold", "()V"⟩, 75), (⟨"StoneThatShakesModel", "cogSize", "()J"⟩, 75), (⟨"StoneThatShakesModel", "orders", "(II)V"⟩, 75), (⟨"StoneThatShakesModel", "exchanges", "(II)V"⟩, 75), (⟨"StoneThatShakesModel", "lays", "(I)V"⟩, 75), (⟨"StoneThatShakesModel", "takesKept", "()I"⟩, 75)]
theorem lw_r6 : ∀ q ∈ lw_privs_6, lw_okq q := List.forall_mem_cons.mpr ⟨lw_p80, List.forall_mem_cons.mpr ⟨lw_p81, List.forall_mem_cons.mpr ⟨lw_p82, List.forall_mem_cons.mpr ⟨lw_p83, List.forall_mem_cons.mpr ⟨lw_p84, List.forall_mem_cons.mpr ⟨lw_p85, List.forall_mem_cons.mpr ⟨lw_p86, List.forall_mem_cons.mpr ⟨lw_p87, List.forall_mem_cons.mpr ⟨lw_p88, fun _ h => absurd h List.not_mem_nil⟩⟩⟩⟩⟩⟩⟩⟩⟩
def lw_privs : List (MethodName × Nat) := lw_privs_1 ++ (lw_privs_2 ++ (lw_privs_3 ++ (lw_privs_4 ++ (lw_privs_5 ++ (lw_privs_6)))))
def lw_tbl : List Cond := k2_sels lw_privs ++ tables_1
theorem lw_privs_ok : ∀ q ∈ lw_privs, lw_okq q := by
  show ∀ q ∈ lw_privs_1 ++ (lw_privs_2 ++ (lw_privs_3 ++ (lw_privs_4 ++ (lw_privs_5 ++ (lw_privs_6))))), lw_okq q
  exact List.forall_mem_append.mpr ⟨lw_r1, List.forall_mem_append.mpr ⟨lw_r2, List.forall_mem_append.mpr ⟨lw_r3, List.forall_mem_append.mpr ⟨lw_r4, List.forall_mem_append.mpr ⟨lw_r5, lw_r6⟩⟩⟩⟩⟩
end
section
def RX0 : String := "StoneThatShakes$Cogs"
def TX0 : u_T := fun k => match k with
  | 0 => ("StoneThatShakes$Cogs", "count", "I", false)
  | 1 => ("StoneThatShakes$Cogs", "weight", "[I", true)
  | 2 => ("StoneThatShakes$Cogs", "seat", "[I", true)
  | 3 => ("StoneThatShakes$Cogs", "best", "[I", true)
  | 4 => ("StoneThatShakes$Cogs", "x", "I", false)
  | 5 => ("StoneThatShakes$Cogs", "y", "I", false)
  | _ => ("StoneThatShakes$Cogs", "leastSize", "J", false)
def tyX0 : Nat → FieldType := fun k => match k with
  | 0 => .int
  | 1 => .array .int
  | 2 => .array .int
  | 3 => .array .int
  | 4 => .int
  | 5 => .int
  | _ => .long
theorem nmX0 : ∀ a, a < 7 → ∀ b, b < 7 → a ≠ b → (TX0 a).2.1 ≠ (TX0 b).2.1 := by decide +kernel
theorem tyX0_ok : ∀ k, k < 7 → parseFieldDescriptor (TX0 k).2.2.1 = some (tyX0 k) := by decide +kernel
abbrev cX0_init : ByteArray := prog_2_method_1_code
def yX0_init : MethodName := ⟨RX0, "<init>", "()V"⟩
abbrev cX0_seatAsTold : ByteArray := prog_2_method_2_code
def yX0_seatAsTold : MethodName := ⟨RX0, "seatAsTold", "(LStoneThatShakes$Ring;)V"⟩
abbrev cX0_findLeast : ByteArray := prog_2_method_3_code
def yX0_findLeast : MethodName := ⟨RX0, "findLeast", "(LStoneThatShakes$Ring;)V"⟩
abbrev cX0_seatFrom : ByteArray := prog_2_method_4_code
def yX0_seatFrom : MethodName := ⟨RX0, "seatFrom", "(LStoneThatShakes$Ring;IIII)V"⟩
abbrev cX0_exchangeBest : ByteArray := prog_2_method_5_code
def yX0_exchangeBest : MethodName := ⟨RX0, "exchangeBest", "(LStoneThatShakes$Ring;)Z"⟩
abbrev cX0_moved : ByteArray := prog_2_method_6_code
def yX0_moved : MethodName := ⟨RX0, "moved", "(II[I)I"⟩
def RX1 : String := "StoneThatShakes$Ends"
def TX1 : u_T := fun k => match k with
  | 0 => ("StoneThatShakes$Ends", "count", "I", false)
  | 1 => ("StoneThatShakes$Ends", "firstX", "I", false)
  | 2 => ("StoneThatShakes$Ends", "firstY", "I", false)
  | 3 => ("StoneThatShakes$Ends", "lastX", "I", false)
  | 4 => ("StoneThatShakes$Ends", "lastY", "I", false)
  | 5 => ("StoneThatShakes$Ends", "leastY", "I", false)
  | 6 => ("StoneThatShakes$Ends", "greatestY", "I", false)
  | 7 => ("StoneThatShakes$Ends", "fewX", "[I", true)
  | _ => ("StoneThatShakes$Ends", "fewY", "[I", true)
def tyX1 : Nat → FieldType := fun k => match k with
  | 0 => .int
  | 1 => .int
  | 2 => .int
  | 3 => .int
  | 4 => .int
  | 5 => .int
  | 6 => .int
  | 7 => .array .int
  | _ => .array .int
theorem nmX1 : ∀ a, a < 9 → ∀ b, b < 9 → a ≠ b → (TX1 a).2.1 ≠ (TX1 b).2.1 := by decide +kernel
theorem tyX1_ok : ∀ k, k < 9 → parseFieldDescriptor (TX1 k).2.2.1 = some (tyX1 k) := by decide +kernel
abbrev cX1_init : ByteArray := prog_3_method_1_code
def yX1_init : MethodName := ⟨RX1, "<init>", "()V"⟩
abbrev cX1_start : ByteArray := prog_3_method_2_code
def yX1_start : MethodName := ⟨RX1, "start", "()V"⟩
abbrev cX1_take : ByteArray := prog_3_method_3_code
def yX1_take : MethodName := ⟨RX1, "take", "(II)V"⟩
abbrev cX1_widest : ByteArray := prog_3_method_4_code
def yX1_widest : MethodName := ⟨RX1, "widest", "()J"⟩
def RX2 : String := "StoneThatShakes$Kept"
def TX2 : u_T := fun k => match k with
  | 0 => ("StoneThatShakes$Kept", "filled", "Z", false)
  | 1 => ("StoneThatShakes$Kept", "has", "[I", true)
  | 2 => ("StoneThatShakes$Kept", "thoughts", "[I", true)
  | 3 => ("StoneThatShakes$Kept", "apart", "LStoneThatShakes$Speeds;", true)
  | 4 => ("StoneThatShakes$Kept", "trials", "LStoneThatShakes$Trials;", true)
  | 5 => ("StoneThatShakes$Kept", "poundHole", "I", false)
  | _ => ("StoneThatShakes$Kept", "poundOunces", "I", false)
def tyX2 : Nat → FieldType := fun k => match k with
  | 0 => .boolean
  | 1 => .array .int
  | 2 => .array .int
  | 3 => .object "StoneThatShakes$Speeds"
  | 4 => .object "StoneThatShakes$Trials"
  | 5 => .int
  | _ => .int
theorem nmX2 : ∀ a, a < 7 → ∀ b, b < 7 → a ≠ b → (TX2 a).2.1 ≠ (TX2 b).2.1 := by decide +kernel
theorem tyX2_ok : ∀ k, k < 7 → parseFieldDescriptor (TX2 k).2.2.1 = some (tyX2 k) := by decide +kernel
abbrev cX2_init : ByteArray := prog_4_method_1_code
def yX2_init : MethodName := ⟨RX2, "<init>", "()V"⟩
abbrev cX2_store : ByteArray := prog_4_method_2_code
def yX2_store : MethodName := ⟨RX2, "store", "(LStoneThatShakes$Ring;LStoneThatShakes$Speeds;LStoneThatShakes$Trials;[I)V"⟩
abbrev cX2_bringBack : ByteArray := prog_4_method_3_code
def yX2_bringBack : MethodName := ⟨RX2, "bringBack", "(LStoneThatShakes$Ring;LStoneThatShakes$Speeds;LStoneThatShakes$Trials;[I)V"⟩
def RX3 : String := "StoneThatShakes$Pulls"
def TX3 : u_T := fun k => match k with
  | 0 => ("StoneThatShakes$Pulls", "count", "I", false)
  | 1 => ("StoneThatShakes$Pulls", "bestHole", "I", false)
  | 2 => ("StoneThatShakes$Pulls", "bestOunces", "I", false)
  | 3 => ("StoneThatShakes$Pulls", "behind", "[I", true)
  | 4 => ("StoneThatShakes$Pulls", "codes", "[I", true)
  | 5 => ("StoneThatShakes$Pulls", "squareX", "[J", true)
  | 6 => ("StoneThatShakes$Pulls", "squareY", "[J", true)
  | 7 => ("StoneThatShakes$Pulls", "sizes", "[J", true)
  | _ => ("StoneThatShakes$Pulls", "tally", "[I", true)
def tyX3 : Nat → FieldType := fun k => match k with
  | 0 => .int
  | 1 => .int
  | 2 => .int
  | 3 => .array .int
  | 4 => .array .int
  | 5 => .array .long
  | 6 => .array .long
  | 7 => .array .long
  | _ => .array .int
theorem nmX3 : ∀ a, a < 9 → ∀ b, b < 9 → a ≠ b → (TX3 a).2.1 ≠ (TX3 b).2.1 := by decide +kernel
theorem tyX3_ok : ∀ k, k < 9 → parseFieldDescriptor (TX3 k).2.2.1 = some (tyX3 k) := by decide +kernel
abbrev cX3_init : ByteArray := prog_5_method_1_code
def yX3_init : MethodName := ⟨RX3, "<init>", "()V"⟩
abbrev cX3_gather : ByteArray := prog_5_method_2_code
def yX3_gather : MethodName := ⟨RX3, "gather", "(LStoneThatShakes$Trials;)V"⟩
abbrev cX3_setSizes : ByteArray := prog_5_method_3_code
def yX3_setSizes : MethodName := ⟨RX3, "setSizes", "(III)V"⟩
abbrev cX3_sizeMade : ByteArray := prog_5_method_4_code
def yX3_sizeMade : MethodName := ⟨RX3, "sizeMade", "(I)J"⟩
abbrev cX3_mostAlike : ByteArray := prog_5_method_5_code
def yX3_mostAlike : MethodName := ⟨RX3, "mostAlike", "(I)I"⟩
abbrev cX3_tallied : ByteArray := prog_5_method_6_code
def yX3_tallied : MethodName := ⟨RX3, "tallied", "(JI)I"⟩
abbrev cX3_keepAlike : ByteArray := prog_5_method_7_code
def yX3_keepAlike : MethodName := ⟨RX3, "keepAlike", "(II)V"⟩
def RX4 : String := "StoneThatShakes$Reader"
def TX4 : u_T := fun k => match k with
  | 0 => ("StoneThatShakes$Reader", "signs", "[I", true)
  | 1 => ("StoneThatShakes$Reader", "length", "I", false)
  | 2 => ("StoneThatShakes$Reader", "limit", "I", false)
  | 3 => ("StoneThatShakes$Reader", "place", "I", false)
  | 4 => ("StoneThatShakes$Reader", "number", "I", false)
  | 5 => ("StoneThatShakes$Reader", "moreHoles", "I", false)
  | 6 => ("StoneThatShakes$Reader", "moreSpeeds", "I", false)
  | _ => ("StoneThatShakes$Reader", "moreCogs", "I", false)
def tyX4 : Nat → FieldType := fun k => match k with
  | 0 => .array .int
  | 1 => .int
  | 2 => .int
  | 3 => .int
  | 4 => .int
  | 5 => .int
  | 6 => .int
  | _ => .int
theorem nmX4 : ∀ a, a < 8 → ∀ b, b < 8 → a ≠ b → (TX4 a).2.1 ≠ (TX4 b).2.1 := by decide +kernel
theorem tyX4_ok : ∀ k, k < 8 → parseFieldDescriptor (TX4 k).2.2.1 = some (tyX4 k) := by decide +kernel
abbrev cX4_init : ByteArray := prog_6_method_1_code
def yX4_init : MethodName := ⟨RX4, "<init>", "()V"⟩
abbrev cX4_append : ByteArray := prog_6_method_2_code
def yX4_append : MethodName := ⟨RX4, "append", "(I)I"⟩
abbrev cX4_cutTo : ByteArray := prog_6_method_3_code
def yX4_cutTo : MethodName := ⟨RX4, "cutTo", "(I)Z"⟩
abbrev cX4_empty : ByteArray := prog_6_method_4_code
def yX4_empty : MethodName := ⟨RX4, "empty", "()V"⟩
abbrev cX4_readLines : ByteArray := prog_6_method_5_code
def yX4_readLines : MethodName := ⟨RX4, "readLines", "(LStoneThatShakes$Ring;LStoneThatShakes$Speeds;LStoneThatShakes$Cogs;)I"⟩
abbrev cX4_readLine : ByteArray := prog_6_method_6_code
def yX4_readLine : MethodName := ⟨RX4, "readLine", "(LStoneThatShakes$Ring;LStoneThatShakes$Speeds;LStoneThatShakes$Cogs;)Z"⟩
abbrev cX4_readHole : ByteArray := prog_6_method_7_code
def yX4_readHole : MethodName := ⟨RX4, "readHole", "(LStoneThatShakes$Ring;)Z"⟩
abbrev cX4_readSpeed : ByteArray := prog_6_method_8_code
def yX4_readSpeed : MethodName := ⟨RX4, "readSpeed", "(LStoneThatShakes$Speeds;)Z"⟩
abbrev cX4_readCog : ByteArray := prog_6_method_9_code
def yX4_readCog : MethodName := ⟨RX4, "readCog", "(LStoneThatShakes$Cogs;)Z"⟩
abbrev cX4_readSign : ByteArray := prog_6_method_10_code
def yX4_readSign : MethodName := ⟨RX4, "readSign", "(I)Z"⟩
abbrev cX4_readSigned : ByteArray := prog_6_method_11_code
def yX4_readSigned : MethodName := ⟨RX4, "readSigned", "()Z"⟩
abbrev cX4_readNumber : ByteArray := prog_6_method_12_code
def yX4_readNumber : MethodName := ⟨RX4, "readNumber", "(II)Z"⟩
abbrev cX4_isDigitHere : ByteArray := prog_6_method_13_code
def yX4_isDigitHere : MethodName := ⟨RX4, "isDigitHere", "()Z"⟩
def RX5 : String := "StoneThatShakes$Ring"
def TX5 : u_T := fun k => match k with
  | 0 => ("StoneThatShakes$Ring", "count", "I", false)
  | 1 => ("StoneThatShakes$Ring", "plane", "[I", true)
  | 2 => ("StoneThatShakes$Ring", "x", "[I", true)
  | 3 => ("StoneThatShakes$Ring", "y", "[I", true)
  | 4 => ("StoneThatShakes$Ring", "room", "[I", true)
  | 5 => ("StoneThatShakes$Ring", "has", "[I", true)
  | 6 => ("StoneThatShakes$Ring", "deep", "[I", true)
  | 7 => ("StoneThatShakes$Ring", "poundHole", "I", false)
  | _ => ("StoneThatShakes$Ring", "poundOunces", "I", false)
def tyX5 : Nat → FieldType := fun k => match k with
  | 0 => .int
  | 1 => .array .int
  | 2 => .array .int
  | 3 => .array .int
  | 4 => .array .int
  | 5 => .array .int
  | 6 => .array .int
  | 7 => .int
  | _ => .int
theorem nmX5 : ∀ a, a < 9 → ∀ b, b < 9 → a ≠ b → (TX5 a).2.1 ≠ (TX5 b).2.1 := by decide +kernel
theorem tyX5_ok : ∀ k, k < 9 → parseFieldDescriptor (TX5 k).2.2.1 = some (tyX5 k) := by decide +kernel
abbrev cX5_init : ByteArray := prog_7_method_1_code
def yX5_init : MethodName := ⟨RX5, "<init>", "()V"⟩
abbrev cX5_isHole : ByteArray := prog_7_method_2_code
def yX5_isHole : MethodName := ⟨RX5, "isHole", "(I)Z"⟩
abbrev cX5_hasHoleOf : ByteArray := prog_7_method_3_code
def yX5_hasHoleOf : MethodName := ⟨RX5, "hasHoleOf", "(I)Z"⟩
abbrev cX5_roomLeft : ByteArray := prog_7_method_4_code
def yX5_roomLeft : MethodName := ⟨RX5, "roomLeft", "(I)I"⟩
abbrev cX5_ouncesInAll : ByteArray := prog_7_method_5_code
def yX5_ouncesInAll : MethodName := ⟨RX5, "ouncesInAll", "()I"⟩
abbrev cX5_leadOfHoles : ByteArray := prog_7_method_6_code
def yX5_leadOfHoles : MethodName := ⟨RX5, "leadOfHoles", "(II)I"⟩
abbrev cX5_leadWithPound : ByteArray := prog_7_method_7_code
def yX5_leadWithPound : MethodName := ⟨RX5, "leadWithPound", "(II)I"⟩
def RX6 : String := "StoneThatShakes$Search"
def TX6 : u_T := fun k => match k with
  | 0 => ("StoneThatShakes$Search", "holes", "I", false)
  | 1 => ("StoneThatShakes$Search", "points", "I", false)
  | 2 => ("StoneThatShakes$Search", "byGreatest", "Z", false)
  | 3 => ("StoneThatShakes$Search", "from", "[I", true)
  | 4 => ("StoneThatShakes$Search", "upTo", "[I", true)
  | 5 => ("StoneThatShakes$Search", "x", "[J", true)
  | 6 => ("StoneThatShakes$Search", "y", "[J", true)
  | 7 => ("StoneThatShakes$Search", "stepX", "[J", true)
  | 8 => ("StoneThatShakes$Search", "stepY", "[J", true)
  | 9 => ("StoneThatShakes$Search", "stepSize", "[J", true)
  | 10 => ("StoneThatShakes$Search", "put", "[I", true)
  | 11 => ("StoneThatShakes$Search", "best", "[I", true)
  | 12 => ("StoneThatShakes$Search", "ounces", "I", false)
  | 13 => ("StoneThatShakes$Search", "fewestOunces", "I", false)
  | _ => ("StoneThatShakes$Search", "leastCost", "J", false)
def tyX6 : Nat → FieldType := fun k => match k with
  | 0 => .int
  | 1 => .int
  | 2 => .boolean
  | 3 => .array .int
  | 4 => .array .int
  | 5 => .array .long
  | 6 => .array .long
  | 7 => .array .long
  | 8 => .array .long
  | 9 => .array .long
  | 10 => .array .int
  | 11 => .array .int
  | 12 => .int
  | 13 => .int
  | _ => .long
theorem nmX6 : ∀ a, a < 15 → ∀ b, b < 15 → a ≠ b → (TX6 a).2.1 ≠ (TX6 b).2.1 := by decide +kernel
theorem tyX6_ok : ∀ k, k < 15 → parseFieldDescriptor (TX6 k).2.2.1 = some (tyX6 k) := by decide +kernel
abbrev cX6_init : ByteArray := prog_8_method_1_code
def yX6_init : MethodName := ⟨RX6, "<init>", "()V"⟩
abbrev cX6_start : ByteArray := prog_8_method_2_code
def yX6_start : MethodName := ⟨RX6, "start", "(Z)V"⟩
abbrev cX6_addPoint : ByteArray := prog_8_method_3_code
def yX6_addPoint : MethodName := ⟨RX6, "addPoint", "(II)V"⟩
abbrev cX6_addHole : ByteArray := prog_8_method_4_code
def yX6_addHole : MethodName := ⟨RX6, "addHole", "(II)V"⟩
abbrev cX6_addStep : ByteArray := prog_8_method_5_code
def yX6_addStep : MethodName := ⟨RX6, "addStep", "(III)V"⟩
abbrev cX6_stepAt : ByteArray := prog_8_method_6_code
def yX6_stepAt : MethodName := ⟨RX6, "stepAt", "(II)I"⟩
abbrev cX6_leastOf : ByteArray := prog_8_method_7_code
def yX6_leastOf : MethodName := ⟨RX6, "leastOf", "(I)J"⟩
abbrev cX6_dig : ByteArray := prog_8_method_8_code
def yX6_dig : MethodName := ⟨RX6, "dig", "(II)V"⟩
abbrev cX6_digLast : ByteArray := prog_8_method_9_code
def yX6_digLast : MethodName := ⟨RX6, "digLast", "(I)V"⟩
abbrev cX6_slopeOf : ByteArray := prog_8_method_10_code
def yX6_slopeOf : MethodName := ⟨RX6, "slopeOf", "(I)J"⟩
abbrev cX6_footOf : ByteArray := prog_8_method_11_code
def yX6_footOf : MethodName := ⟨RX6, "footOf", "(JI)J"⟩
abbrev cX6_lay : ByteArray := prog_8_method_12_code
def yX6_lay : MethodName := ⟨RX6, "lay", "(II)V"⟩
abbrev cX6_costNow : ByteArray := prog_8_method_13_code
def yX6_costNow : MethodName := ⟨RX6, "costNow", "()J"⟩
abbrev cX6_offer : ByteArray := prog_8_method_14_code
def yX6_offer : MethodName := ⟨RX6, "offer", "(J)V"⟩
abbrev cX6_isPreferred : ByteArray := prog_8_method_15_code
def yX6_isPreferred : MethodName := ⟨RX6, "isPreferred", "()Z"⟩
def RX7 : String := "StoneThatShakes$Speeds"
def TX7 : u_T := fun k => match k with
  | 0 => ("StoneThatShakes$Speeds", "count", "I", false)
  | 1 => ("StoneThatShakes$Speeds", "factor", "[I", true)
  | 2 => ("StoneThatShakes$Speeds", "other", "[I", true)
  | 3 => ("StoneThatShakes$Speeds", "apart", "[Z", true)
  | 4 => ("StoneThatShakes$Speeds", "apartX", "[I", true)
  | _ => ("StoneThatShakes$Speeds", "apartY", "[I", true)
def tyX7 : Nat → FieldType := fun k => match k with
  | 0 => .int
  | 1 => .array .int
  | 2 => .array .int
  | 3 => .array .boolean
  | 4 => .array .int
  | _ => .array .int
theorem nmX7 : ∀ a, a < 6 → ∀ b, b < 6 → a ≠ b → (TX7 a).2.1 ≠ (TX7 b).2.1 := by decide +kernel
theorem tyX7_ok : ∀ k, k < 6 → parseFieldDescriptor (TX7 k).2.2.1 = some (tyX7 k) := by decide +kernel
abbrev cX7_init : ByteArray := prog_9_method_1_code
def yX7_init : MethodName := ⟨RX7, "<init>", "()V"⟩
abbrev cX7_isSpeed : ByteArray := prog_9_method_2_code
def yX7_isSpeed : MethodName := ⟨RX7, "isSpeed", "(I)Z"⟩
abbrev cX7_copyApart : ByteArray := prog_9_method_3_code
def yX7_copyApart : MethodName := ⟨RX7, "copyApart", "(LStoneThatShakes$Speeds;)V"⟩
def RX8 : String := "StoneThatShakes$Told"
def TX8 : u_T := fun k => match k with
  | 0 => ("StoneThatShakes$Told", "numbers", "[J", true)
  | _ => ("StoneThatShakes$Told", "length", "I", false)
def tyX8 : Nat → FieldType := fun k => match k with
  | 0 => .array .long
  | _ => .int
theorem nmX8 : ∀ a, a < 2 → ∀ b, b < 2 → a ≠ b → (TX8 a).2.1 ≠ (TX8 b).2.1 := by decide +kernel
theorem tyX8_ok : ∀ k, k < 2 → parseFieldDescriptor (TX8 k).2.2.1 = some (tyX8 k) := by decide +kernel
abbrev cX8_init : ByteArray := prog_10_method_1_code
def yX8_init : MethodName := ⟨RX8, "<init>", "()V"⟩
abbrev cX8_start : ByteArray := prog_10_method_2_code
def yX8_start : MethodName := ⟨RX8, "start", "()V"⟩
abbrev cX8_add : ByteArray := prog_10_method_3_code
def yX8_add : MethodName := ⟨RX8, "add", "(J)V"⟩
abbrev cX8_addFraction : ByteArray := prog_10_method_4_code
def yX8_addFraction : MethodName := ⟨RX8, "addFraction", "(JJ)V"⟩
abbrev cX8_greatestDivisor : ByteArray := prog_10_method_5_code
def yX8_greatestDivisor : MethodName := ⟨RX8, "greatestDivisor", "(JJ)J"⟩
abbrev cX8_placeOfGreatest : ByteArray := prog_10_method_6_code
def yX8_placeOfGreatest : MethodName := ⟨RX8, "placeOfGreatest", "()I"⟩
def RX9 : String := "StoneThatShakes$Trials"
def TX9 : u_T := fun k => match k with
  | 0 => ("StoneThatShakes$Trials", "count", "I", false)
  | 1 => ("StoneThatShakes$Trials", "speed", "[I", true)
  | 2 => ("StoneThatShakes$Trials", "isWhole", "[Z", true)
  | 3 => ("StoneThatShakes$Trials", "first", "[I", true)
  | 4 => ("StoneThatShakes$Trials", "second", "[I", true)
  | 5 => ("StoneThatShakes$Trials", "give", "[I", true)
  | 6 => ("StoneThatShakes$Trials", "lead", "[I", true)
  | 7 => ("StoneThatShakes$Trials", "scale", "[I", true)
  | 8 => ("StoneThatShakes$Trials", "baseX", "[I", true)
  | _ => ("StoneThatShakes$Trials", "baseY", "[I", true)
def tyX9 : Nat → FieldType := fun k => match k with
  | 0 => .int
  | 1 => .array .int
  | 2 => .array .boolean
  | 3 => .array .int
  | 4 => .array .int
  | 5 => .array .int
  | 6 => .array .int
  | 7 => .array .int
  | 8 => .array .int
  | _ => .array .int
theorem nmX9 : ∀ a, a < 10 → ∀ b, b < 10 → a ≠ b → (TX9 a).2.1 ≠ (TX9 b).2.1 := by decide +kernel
theorem tyX9_ok : ∀ k, k < 10 → parseFieldDescriptor (TX9 k).2.2.1 = some (tyX9 k) := by decide +kernel
abbrev cX9_init : ByteArray := prog_11_method_1_code
def yX9_init : MethodName := ⟨RX9, "<init>", "()V"⟩
abbrev cX9_addWhole : ByteArray := prog_11_method_2_code
def yX9_addWhole : MethodName := ⟨RX9, "addWhole", "(IIIILStoneThatShakes$Ring;)I"⟩
abbrev cX9_addMuch : ByteArray := prog_11_method_3_code
def yX9_addMuch : MethodName := ⟨RX9, "addMuch", "(IIILStoneThatShakes$Ring;)I"⟩
abbrev cX9_addTrial : ByteArray := prog_11_method_4_code
def yX9_addTrial : MethodName := ⟨RX9, "addTrial", "(IIILStoneThatShakes$Ring;)I"⟩
abbrev cX9_agrees : ByteArray := prog_11_method_5_code
def yX9_agrees : MethodName := ⟨RX9, "agrees", "(III)Z"⟩
abbrev cX9_firstAgainst : ByteArray := prog_11_method_6_code
def yX9_firstAgainst : MethodName := ⟨RX9, "firstAgainst", "(II)I"⟩
abbrev cX9_allAgainst : ByteArray := prog_11_method_7_code
def yX9_allAgainst : MethodName := ⟨RX9, "allAgainst", "(III)I"⟩
abbrev cX9_copyTrials : ByteArray := prog_11_method_8_code
def yX9_copyTrials : MethodName := ⟨RX9, "copyTrials", "(LStoneThatShakes$Trials;)V"⟩
def RX10 : String := "StoneThatShakes"
def TX10 : u_T := fun k => match k with
  | 0 => ("StoneThatShakes", "told", "LStoneThatShakes$Told;", true)
  | 1 => ("StoneThatShakes", "reader", "LStoneThatShakes$Reader;", true)
  | 2 => ("StoneThatShakes", "ring", "LStoneThatShakes$Ring;", true)
  | 3 => ("StoneThatShakes", "speeds", "LStoneThatShakes$Speeds;", true)
  | 4 => ("StoneThatShakes", "wheel", "LStoneThatShakes$Cogs;", true)
  | 5 => ("StoneThatShakes", "trials", "LStoneThatShakes$Trials;", true)
  | 6 => ("StoneThatShakes", "span", "LStoneThatShakes$Ends;", true)
  | 7 => ("StoneThatShakes", "search", "LStoneThatShakes$Search;", true)
  | 8 => ("StoneThatShakes", "kept", "[LStoneThatShakes$Kept;", true)
  | 9 => ("StoneThatShakes", "crosses", "[I", true)
  | 10 => ("StoneThatShakes", "trueMasses", "[I", true)
  | 11 => ("StoneThatShakes", "thought", "[I", true)
  | 12 => ("StoneThatShakes", "up", "[I", true)
  | 13 => ("StoneThatShakes", "low", "[I", true)
  | 14 => ("StoneThatShakes", "fits", "[I", true)
  | _ => ("StoneThatShakes", "pulls", "LStoneThatShakes$Pulls;", false)
def tyX10 : Nat → FieldType := fun k => match k with
  | 0 => .object "StoneThatShakes$Told"
  | 1 => .object "StoneThatShakes$Reader"
  | 2 => .object "StoneThatShakes$Ring"
  | 3 => .object "StoneThatShakes$Speeds"
  | 4 => .object "StoneThatShakes$Cogs"
  | 5 => .object "StoneThatShakes$Trials"
  | 6 => .object "StoneThatShakes$Ends"
  | 7 => .object "StoneThatShakes$Search"
  | 8 => .array (.object "StoneThatShakes$Kept")
  | 9 => .array .int
  | 10 => .array .int
  | 11 => .array .int
  | 12 => .array .int
  | 13 => .array .int
  | 14 => .array .int
  | _ => .object "StoneThatShakes$Pulls"
theorem nmX10 : ∀ a, a < 16 → ∀ b, b < 16 → a ≠ b → (TX10 a).2.1 ≠ (TX10 b).2.1 := by decide +kernel
theorem tyX10_ok : ∀ k, k < 16 → parseFieldDescriptor (TX10 k).2.2.1 = some (tyX10 k) := by decide +kernel
abbrev cX10_init : ByteArray := prog_1_method_1_code
def yX10_init : MethodName := ⟨RX10, "<init>", "()V"⟩
abbrev cX10_sign : ByteArray := prog_1_method_2_code
def yX10_sign : MethodName := ⟨RX10, "sign", "(I)I"⟩
abbrev cX10_end : ByteArray := prog_1_method_3_code
def yX10_end : MethodName := ⟨RX10, "end", "(I)Z"⟩
abbrev cX10_mill : ByteArray := prog_1_method_4_code
def yX10_mill : MethodName := ⟨RX10, "mill", "()I"⟩
abbrev cX10_hole : ByteArray := prog_1_method_5_code
def yX10_hole : MethodName := ⟨RX10, "hole", "(II)I"⟩
abbrev cX10_lead : ByteArray := prog_1_method_6_code
def yX10_lead : MethodName := ⟨RX10, "lead", "(II)I"⟩
abbrev cX10_deep : ByteArray := prog_1_method_7_code
def yX10_deep : MethodName := ⟨RX10, "deep", "(II)I"⟩
abbrev cX10_sheet : ByteArray := prog_1_method_8_code
def yX10_sheet : MethodName := ⟨RX10, "sheet", "(IIII)I"⟩
abbrev cX10_entryOf : ByteArray := prog_1_method_9_code
def yX10_entryOf : MethodName := ⟨RX10, "entryOf", "(II)I"⟩
abbrev cX10_cross : ByteArray := prog_1_method_10_code
def yX10_cross : MethodName := ⟨RX10, "cross", "(III)I"⟩
abbrev cX10_truly : ByteArray := prog_1_method_11_code
def yX10_truly : MethodName := ⟨RX10, "truly", "(III)Z"⟩
abbrev cX10_think : ByteArray := prog_1_method_12_code
def yX10_think : MethodName := ⟨RX10, "think", "(III)Z"⟩
abbrev cX10_setMass : ByteArray := prog_1_method_13_code
def yX10_setMass : MethodName := ⟨RX10, "setMass", "([IIII)Z"⟩
abbrev cX10_pound : ByteArray := prog_1_method_14_code
def yX10_pound : MethodName := ⟨RX10, "pound", "(II)Z"⟩
abbrev cX10_feel : ByteArray := prog_1_method_15_code
def yX10_feel : MethodName := ⟨RX10, "feel", "(II)I"⟩
abbrev cX10_hums : ByteArray := prog_1_method_16_code
def yX10_hums : MethodName := ⟨RX10, "hums", "(II)I"⟩
abbrev cX10_feltTruly : ByteArray := prog_1_method_17_code
def yX10_feltTruly : MethodName := ⟨RX10, "feltTruly", "(III)I"⟩
abbrev cX10_besides : ByteArray := prog_1_method_18_code
def yX10_besides : MethodName := ⟨RX10, "besides", "([III)I"⟩
abbrev cX10_whole : ByteArray := prog_1_method_19_code
def yX10_whole : MethodName := ⟨RX10, "whole", "(IIII)I"⟩
abbrev cX10_much : ByteArray := prog_1_method_20_code
def yX10_much : MethodName := ⟨RX10, "much", "(III)I"⟩
abbrev cX10_drop : ByteArray := prog_1_method_21_code
def yX10_drop : MethodName := ⟨RX10, "drop", "()I"⟩
abbrev cX10_which : ByteArray := prog_1_method_22_code
def yX10_which : MethodName := ⟨RX10, "which", "()I"⟩
abbrev cX10_ends : ByteArray := prog_1_method_23_code
def yX10_ends : MethodName := ⟨RX10, "ends", "()I"⟩
abbrev cX10_gatherSpan : ByteArray := prog_1_method_24_code
def yX10_gatherSpan : MethodName := ⟨RX10, "gatherSpan", "()V"⟩
abbrev cX10_judge : ByteArray := prog_1_method_25_code
def yX10_judge : MethodName := ⟨RX10, "judge", "(II)I"⟩
abbrev cX10_bars : ByteArray := prog_1_method_26_code
def yX10_bars : MethodName := ⟨RX10, "bars", "()I"⟩
abbrev cX10_next : ByteArray := prog_1_method_27_code
def yX10_next : MethodName := ⟨RX10, "next", "(II)I"⟩
abbrev cX10_enough : ByteArray := prog_1_method_28_code
def yX10_enough : MethodName := ⟨RX10, "enough", "(III)I"⟩
abbrev cX10_gatherPulls : ByteArray := prog_1_method_29_code
def yX10_gatherPulls : MethodName := ⟨RX10, "gatherPulls", "()LStoneThatShakes$Pulls;"⟩
abbrev cX10_findNarrowest : ByteArray := prog_1_method_30_code
def yX10_findNarrowest : MethodName := ⟨RX10, "findNarrowest", "(LStoneThatShakes$Pulls;II)I"⟩
abbrev cX10_feelWithHung : ByteArray := prog_1_method_31_code
def yX10_feelWithHung : MethodName := ⟨RX10, "feelWithHung", "(LStoneThatShakes$Pulls;III)V"⟩
abbrev cX10_prepareTrials : ByteArray := prog_1_method_32_code
def yX10_prepareTrials : MethodName := ⟨RX10, "prepareTrials", "()V"⟩
abbrev cX10_feltBarePull : ByteArray := prog_1_method_33_code
def yX10_feltBarePull : MethodName := ⟨RX10, "feltBarePull", "(IIII)I"⟩
abbrev cX10_man : ByteArray := prog_1_method_34_code
def yX10_man : MethodName := ⟨RX10, "man", "(III)Z"⟩
abbrev cX10_tells : ByteArray := prog_1_method_35_code
def yX10_tells : MethodName := ⟨RX10, "tells", "(II)I"⟩
abbrev cX10_men : ByteArray := prog_1_method_36_code
def yX10_men : MethodName := ⟨RX10, "men", "(IIII)I"⟩
abbrev cX10_feltByMan : ByteArray := prog_1_method_37_code
def yX10_feltByMan : MethodName := ⟨RX10, "feltByMan", "(II)J"⟩
abbrev cX10_isMan : ByteArray := prog_1_method_38_code
def yX10_isMan : MethodName := ⟨RX10, "isMan", "(I)Z"⟩
abbrev cX10_rest : ByteArray := prog_1_method_39_code
def yX10_rest : MethodName := ⟨RX10, "rest", "(I)J"⟩
abbrev cX10_unmended : ByteArray := prog_1_method_40_code
def yX10_unmended : MethodName := ⟨RX10, "unmended", "(II)I"⟩
abbrev cX10_best : ByteArray := prog_1_method_41_code
def yX10_best : MethodName := ⟨RX10, "best", "(II)J"⟩
abbrev cX10_off : ByteArray := prog_1_method_42_code
def yX10_off : MethodName := ⟨RX10, "off", "(II)J"⟩
abbrev cX10_instead : ByteArray := prog_1_method_43_code
def yX10_instead : MethodName := ⟨RX10, "instead", "(II)J"⟩
abbrev cX10_fewest : ByteArray := prog_1_method_44_code
def yX10_fewest : MethodName := ⟨RX10, "fewest", "(IJ)I"⟩
abbrev cX10_searchPutting : ByteArray := prog_1_method_45_code
def yX10_searchPutting : MethodName := ⟨RX10, "searchPutting", "(II)J"⟩
abbrev cX10_startRestSearch : ByteArray := prog_1_method_46_code
def yX10_startRestSearch : MethodName := ⟨RX10, "startRestSearch", "(I)V"⟩
abbrev cX10_tellSearched : ByteArray := prog_1_method_47_code
def yX10_tellSearched : MethodName := ⟨RX10, "tellSearched", "()V"⟩
abbrev cX10_all : ByteArray := prog_1_method_48_code
def yX10_all : MethodName := ⟨RX10, "all", "(II)J"⟩
abbrev cX10_gatherFitting : ByteArray := prog_1_method_49_code
def yX10_gatherFitting : MethodName := ⟨RX10, "gatherFitting", "(II)I"⟩
abbrev cX10_isFewer : ByteArray := prog_1_method_50_code
def yX10_isFewer : MethodName := ⟨RX10, "isFewer", "(II)Z"⟩
abbrev cX10_ounce : ByteArray := prog_1_method_51_code
def yX10_ounce : MethodName := ⟨RX10, "ounce", "(II)I"⟩
abbrev cX10_settle : ByteArray := prog_1_method_52_code
def yX10_settle : MethodName := ⟨RX10, "settle", "(I)I"⟩
abbrev cX10_settleOunce : ByteArray := prog_1_method_53_code
def yX10_settleOunce : MethodName := ⟨RX10, "settleOunce", "(I)Z"⟩
abbrev cX10_bestOunce : ByteArray := prog_1_method_54_code
def yX10_bestOunce : MethodName := ⟨RX10, "bestOunce", "(II)I"⟩
abbrev cX10_changeByOunce : ByteArray := prog_1_method_55_code
def yX10_changeByOunce : MethodName := ⟨RX10, "changeByOunce", "(II)J"⟩
abbrev cX10_both : ByteArray := prog_1_method_56_code
def yX10_both : MethodName := ⟨RX10, "both", "(IIIII)I"⟩
abbrev cX10_partingOfCrosses : ByteArray := prog_1_method_57_code
def yX10_partingOfCrosses : MethodName := ⟨RX10, "partingOfCrosses", "()I"⟩
abbrev cX10_tellPull : ByteArray := prog_1_method_58_code
def yX10_tellPull : MethodName := ⟨RX10, "tellPull", "(IIIII)V"⟩
abbrev cX10_two : ByteArray := prog_1_method_59_code
def yX10_two : MethodName := ⟨RX10, "two", "(I)J"⟩
abbrev cX10_feltThought : ByteArray := prog_1_method_60_code
def yX10_feltThought : MethodName := ⟨RX10, "feltThought", "(III)I"⟩
abbrev cX10_at : ByteArray := prog_1_method_61_code
def yX10_at : MethodName := ⟨RX10, "at", "(III)Z"⟩
abbrev cX10_worst : ByteArray := prog_1_method_62_code
def yX10_worst : MethodName := ⟨RX10, "worst", "()J"⟩
abbrev cX10_floor : ByteArray := prog_1_method_63_code
def yX10_floor : MethodName := ⟨RX10, "floor", "(IJIJ)I"⟩
abbrev cX10_whose : ByteArray := prog_1_method_64_code
def yX10_whose : MethodName := ⟨RX10, "whose", "(IIIJJJ)I"⟩
abbrev cX10_partingOfSpeeds : ByteArray := prog_1_method_65_code
def yX10_partingOfSpeeds : MethodName := ⟨RX10, "partingOfSpeeds", "(III)J"⟩
abbrev cX10_tellThree : ByteArray := prog_1_method_66_code
def yX10_tellThree : MethodName := ⟨RX10, "tellThree", "(IIIJJJ)V"⟩
abbrev cX10_isCode : ByteArray := prog_1_method_67_code
def yX10_isCode : MethodName := ⟨RX10, "isCode", "(J)Z"⟩
abbrev cX10_decoded : ByteArray := prog_1_method_68_code
def yX10_decoded : MethodName := ⟨RX10, "decoded", "(JI)J"⟩
abbrev cX10_part : ByteArray := prog_1_method_69_code
def yX10_part : MethodName := ⟨RX10, "part", "(I)I"⟩
abbrev cX10_buckets : ByteArray := prog_1_method_70_code
def yX10_buckets : MethodName := ⟨RX10, "buckets", "(IJ)I"⟩
abbrev cX10_cogs : ByteArray := prog_1_method_71_code
def yX10_cogs : MethodName := ⟨RX10, "cogs", "()J"⟩
abbrev cX10_order : ByteArray := prog_1_method_72_code
def yX10_order : MethodName := ⟨RX10, "order", "()J"⟩
abbrev cX10_round : ByteArray := prog_1_method_73_code
def yX10_round : MethodName := ⟨RX10, "round", "()I"⟩
abbrev cX10_cogsHavePlaces : ByteArray := prog_1_method_74_code
def yX10_cogsHavePlaces : MethodName := ⟨RX10, "cogsHavePlaces", "()Z"⟩
abbrev cX10_keep : ByteArray := prog_1_method_75_code
def yX10_keep : MethodName := ⟨RX10, "keep", "(I)Z"⟩
abbrev cX10_again : ByteArray := prog_1_method_76_code
def yX10_again : MethodName := ⟨RX10, "again", "(I)Z"⟩
abbrev cX10_count : ByteArray := prog_1_method_77_code
def yX10_count : MethodName := ⟨RX10, "count", "(I)I"⟩
abbrev cX10_row : ByteArray := prog_1_method_78_code
def yX10_row : MethodName := ⟨RX10, "row", "(I)J"⟩
abbrev cX10_isOneOfTwo : ByteArray := prog_1_method_79_code
def yX10_isOneOfTwo : MethodName := ⟨RX10, "isOneOfTwo", "(I)Z"⟩
abbrev cX10_isWithin : ByteArray := prog_1_method_80_code
def yX10_isWithin : MethodName := ⟨RX10, "isWithin", "(II)Z"⟩
abbrev cX10_sizeOf : ByteArray := prog_1_method_81_code
def yX10_sizeOf : MethodName := ⟨RX10, "sizeOf", "(JJ)J"⟩
abbrev cX10_copy : ByteArray := prog_1_method_82_code
def yX10_copy : MethodName := ⟨RX10, "copy", "([I[I)V"⟩
def RX11 : String := "StoneThatShakesModel"
def TX11 : u_T := fun k => match k with
  | 0 => ("StoneThatShakesModel", "thrown", "I", false)
  | 1 => ("StoneThatShakesModel", "rows", "I", false)
  | 2 => ("StoneThatShakesModel", "row", "[J", true)
  | 3 => ("StoneThatShakesModel", "holes", "I", false)
  | 4 => ("StoneThatShakesModel", "planeOf", "[I", true)
  | 5 => ("StoneThatShakesModel", "holeX", "[I", true)
  | 6 => ("StoneThatShakesModel", "holeY", "[I", true)
  | 7 => ("StoneThatShakesModel", "room", "[I", true)
  | 8 => ("StoneThatShakesModel", "ounces", "[I", true)
  | 9 => ("StoneThatShakesModel", "deepOf", "[I", true)
  | 10 => ("StoneThatShakesModel", "speeds", "I", false)
  | 11 => ("StoneThatShakesModel", "factor", "[I", true)
  | 12 => ("StoneThatShakesModel", "otherOf", "[I", true)
  | 13 => ("StoneThatShakesModel", "isApart", "[Z", true)
  | 14 => ("StoneThatShakesModel", "apartX", "[I", true)
  | 15 => ("StoneThatShakesModel", "apartY", "[I", true)
  | 16 => ("StoneThatShakesModel", "cogMany", "I", false)
  | 17 => ("StoneThatShakesModel", "weight", "[I", true)
  | 18 => ("StoneThatShakesModel", "tape", "[I", true)
  | 19 => ("StoneThatShakesModel", "taped", "I", false)
  | 20 => ("StoneThatShakesModel", "at", "I", false)
  | 21 => ("StoneThatShakesModel", "to", "I", false)
  | 22 => ("StoneThatShakesModel", "isFine", "Z", false)
  | 23 => ("StoneThatShakesModel", "crossOf", "[I", true)
  | 24 => ("StoneThatShakesModel", "trueX", "[I", true)
  | 25 => ("StoneThatShakesModel", "trueY", "[I", true)
  | 26 => ("StoneThatShakesModel", "thoughtX", "[I", true)
  | 27 => ("StoneThatShakesModel", "thoughtY", "[I", true)
  | 28 => ("StoneThatShakesModel", "poundHole", "I", false)
  | 29 => ("StoneThatShakesModel", "poundOunces", "I", false)
  | 30 => ("StoneThatShakesModel", "lead", "[I", true)
  | 31 => ("StoneThatShakesModel", "trials", "I", false)
  | 32 => ("StoneThatShakesModel", "trialSpeed", "[I", true)
  | 33 => ("StoneThatShakesModel", "isWhole", "[Z", true)
  | 34 => ("StoneThatShakesModel", "trialX", "[I", true)
  | 35 => ("StoneThatShakesModel", "trialY", "[I", true)
  | 36 => ("StoneThatShakesModel", "trialGive", "[I", true)
  | 37 => ("StoneThatShakesModel", "trialLead", "[I", true)
  | 38 => ("StoneThatShakesModel", "baseX", "J", false)
  | 39 => ("StoneThatShakesModel", "baseY", "J", false)
  | 40 => ("StoneThatShakesModel", "timesPull", "J", false)
  | 41 => ("StoneThatShakesModel", "trialBaseX", "[J", true)
  | 42 => ("StoneThatShakesModel", "trialBaseY", "[J", true)
  | 43 => ("StoneThatShakesModel", "trialTimes", "[J", true)
  | 44 => ("StoneThatShakesModel", "pulls", "[I", true)
  | 45 => ("StoneThatShakesModel", "pullMany", "I", false)
  | 46 => ("StoneThatShakesModel", "sizes", "[J", true)
  | 47 => ("StoneThatShakesModel", "merged", "[J", true)
  | 48 => ("StoneThatShakesModel", "nextHole", "I", false)
  | 49 => ("StoneThatShakesModel", "nextOunces", "I", false)
  | 50 => ("StoneThatShakesModel", "leftBehind", "[I", true)
  | 51 => ("StoneThatShakesModel", "manUp", "[I", true)
  | 52 => ("StoneThatShakesModel", "manLow", "[I", true)
  | 53 => ("StoneThatShakesModel", "asked", "[I", true)
  | 54 => ("StoneThatShakesModel", "lowOf", "[I", true)
  | 55 => ("StoneThatShakesModel", "highOf", "[I", true)
  | 56 => ("StoneThatShakesModel", "tried", "[I", true)
  | 57 => ("StoneThatShakesModel", "found", "[I", true)
  | 58 => ("StoneThatShakesModel", "askedMany", "I", false)
  | 59 => ("StoneThatShakesModel", "mostHoles", "I", false)
  | 60 => ("StoneThatShakesModel", "isFound", "Z", false)
  | 61 => ("StoneThatShakesModel", "foundRest", "J", false)
  | 62 => ("StoneThatShakesModel", "foundOunces", "I", false)
  | 63 => ("StoneThatShakesModel", "question", "I", false)
  | 64 => ("StoneThatShakesModel", "questionSpeed", "I", false)
  | 65 => ("StoneThatShakesModel", "ounceRest", "J", false)
  | 66 => ("StoneThatShakesModel", "parts", "[J", true)
  | 67 => ("StoneThatShakesModel", "filled", "[I", true)
  | 68 => ("StoneThatShakesModel", "cogAt", "[I", true)
  | 69 => ("StoneThatShakesModel", "cogBest", "[I", true)
  | 70 => ("StoneThatShakesModel", "isOrdered", "Z", false)
  | 71 => ("StoneThatShakesModel", "orderSize", "J", false)
  | 72 => ("StoneThatShakesModel", "isKept", "[Z", true)
  | 73 => ("StoneThatShakesModel", "kept", "[I", true)
  | _ => ("StoneThatShakesModel", "keptAt", "I", false)
def tyX11 : Nat → FieldType := fun k => match k with
  | 0 => .int
  | 1 => .int
  | 2 => .array .long
  | 3 => .int
  | 4 => .array .int
  | 5 => .array .int
  | 6 => .array .int
  | 7 => .array .int
  | 8 => .array .int
  | 9 => .array .int
  | 10 => .int
  | 11 => .array .int
  | 12 => .array .int
  | 13 => .array .boolean
  | 14 => .array .int
  | 15 => .array .int
  | 16 => .int
  | 17 => .array .int
  | 18 => .array .int
  | 19 => .int
  | 20 => .int
  | 21 => .int
  | 22 => .boolean
  | 23 => .array .int
  | 24 => .array .int
  | 25 => .array .int
  | 26 => .array .int
  | 27 => .array .int
  | 28 => .int
  | 29 => .int
  | 30 => .array .int
  | 31 => .int
  | 32 => .array .int
  | 33 => .array .boolean
  | 34 => .array .int
  | 35 => .array .int
  | 36 => .array .int
  | 37 => .array .int
  | 38 => .long
  | 39 => .long
  | 40 => .long
  | 41 => .array .long
  | 42 => .array .long
  | 43 => .array .long
  | 44 => .array .int
  | 45 => .int
  | 46 => .array .long
  | 47 => .array .long
  | 48 => .int
  | 49 => .int
  | 50 => .array .int
  | 51 => .array .int
  | 52 => .array .int
  | 53 => .array .int
  | 54 => .array .int
  | 55 => .array .int
  | 56 => .array .int
  | 57 => .array .int
  | 58 => .int
  | 59 => .int
  | 60 => .boolean
  | 61 => .long
  | 62 => .int
  | 63 => .int
  | 64 => .int
  | 65 => .long
  | 66 => .array .long
  | 67 => .array .int
  | 68 => .array .int
  | 69 => .array .int
  | 70 => .boolean
  | 71 => .long
  | 72 => .array .boolean
  | 73 => .array .int
  | _ => .int
theorem nmX11 : ∀ a, a < 75 → ∀ b, b < 75 → a ≠ b → (TX11 a).2.1 ≠ (TX11 b).2.1 := by decide +kernel
theorem tyX11_ok : ∀ k, k < 75 → parseFieldDescriptor (TX11 k).2.2.1 = some (tyX11 k) := by decide +kernel
abbrev cX11_in : ByteArray := prog_13_method_2_code
def yX11_in : MethodName := ⟨RX11, "in", "(JJJ)Z"⟩
abbrev cX11_has : ByteArray := prog_13_method_3_code
def yX11_has : MethodName := ⟨RX11, "has", "(II)Z"⟩
abbrev cX11_flag : ByteArray := prog_13_method_4_code
def yX11_flag : MethodName := ⟨RX11, "flag", "(Z)I"⟩
abbrev cX11_size : ByteArray := prog_13_method_5_code
def yX11_size : MethodName := ⟨RX11, "size", "(JJ)J"⟩
abbrev cX11_enters : ByteArray := prog_13_method_6_code
def yX11_enters : MethodName := ⟨RX11, "enters", "(J)V"⟩
abbrev cX11_common : ByteArray := prog_13_method_7_code
def yX11_common : MethodName := ⟨RX11, "common", "(JJ)J"⟩
abbrev cX11_entersFraction : ByteArray := prog_13_method_8_code
def yX11_entersFraction : MethodName := ⟨RX11, "entersFraction", "(JJ)V"⟩
abbrev cX11_sign : ByteArray := prog_13_method_9_code
def yX11_sign : MethodName := ⟨RX11, "sign", "(I)I"⟩
abbrev cX11_end : ByteArray := prog_13_method_10_code
def yX11_end : MethodName := ⟨RX11, "end", "(I)Z"⟩
abbrev cX11_takes : ByteArray := prog_13_method_11_code
def yX11_takes : MethodName := ⟨RX11, "takes", "(I)Z"⟩
abbrev cX11_isDigit : ByteArray := prog_13_method_12_code
def yX11_isDigit : MethodName := ⟨RX11, "isDigit", "()Z"⟩
abbrev cX11_number : ByteArray := prog_13_method_13_code
def yX11_number : MethodName := ⟨RX11, "number", "(II)I"⟩
abbrev cX11_signed : ByteArray := prog_13_method_14_code
def yX11_signed : MethodName := ⟨RX11, "signed", "()I"⟩
abbrev cX11_readsLine : ByteArray := prog_13_method_15_code
def yX11_readsLine : MethodName := ⟨RX11, "readsLine", "()Z"⟩
abbrev cX11_mill : ByteArray := prog_13_method_16_code
def yX11_mill : MethodName := ⟨RX11, "mill", "()I"⟩
abbrev cX11_isHole : ByteArray := prog_13_method_17_code
def yX11_isHole : MethodName := ⟨RX11, "isHole", "(I)Z"⟩
abbrev cX11_isSpeed : ByteArray := prog_13_method_18_code
def yX11_isSpeed : MethodName := ⟨RX11, "isSpeed", "(I)Z"⟩
abbrev cX11_isPlane : ByteArray := prog_13_method_19_code
def yX11_isPlane : MethodName := ⟨RX11, "isPlane", "(I)Z"⟩
abbrev cX11_hole : ByteArray := prog_13_method_20_code
def yX11_hole : MethodName := ⟨RX11, "hole", "(II)I"⟩
abbrev cX11_lead : ByteArray := prog_13_method_21_code
def yX11_lead : MethodName := ⟨RX11, "lead", "(II)I"⟩
abbrev cX11_deep : ByteArray := prog_13_method_22_code
def yX11_deep : MethodName := ⟨RX11, "deep", "(II)I"⟩
abbrev cX11_ouncesAll : ByteArray := prog_13_method_23_code
def yX11_ouncesAll : MethodName := ⟨RX11, "ouncesAll", "()I"⟩
abbrev cX11_sheet : ByteArray := prog_13_method_24_code
def yX11_sheet : MethodName := ⟨RX11, "sheet", "(IIII)I"⟩
abbrev cX11_cross : ByteArray := prog_13_method_25_code
def yX11_cross : MethodName := ⟨RX11, "cross", "(III)I"⟩
abbrev cX11_isMass : ByteArray := prog_13_method_26_code
def yX11_isMass : MethodName := ⟨RX11, "isMass", "(III)Z"⟩
abbrev cX11_truly : ByteArray := prog_13_method_27_code
def yX11_truly : MethodName := ⟨RX11, "truly", "(III)Z"⟩
abbrev cX11_think : ByteArray := prog_13_method_28_code
def yX11_think : MethodName := ⟨RX11, "think", "(III)Z"⟩
abbrev cX11_pound : ByteArray := prog_13_method_29_code
def yX11_pound : MethodName := ⟨RX11, "pound", "(II)Z"⟩
abbrev cX11_leads : ByteArray := prog_13_method_30_code
def yX11_leads : MethodName := ⟨RX11, "leads", "(II)V"⟩
abbrev cX11_leadsNow : ByteArray := prog_13_method_31_code
def yX11_leadsNow : MethodName := ⟨RX11, "leadsNow", "()V"⟩
abbrev cX11_felt : ByteArray := prog_13_method_32_code
def yX11_felt : MethodName := ⟨RX11, "felt", "(II[II)J"⟩
abbrev cX11_feel : ByteArray := prog_13_method_33_code
def yX11_feel : MethodName := ⟨RX11, "feel", "(II)I"⟩
abbrev cX11_hums : ByteArray := prog_13_method_34_code
def yX11_hums : MethodName := ⟨RX11, "hums", "(II)I"⟩
abbrev cX11_lays : ByteArray := prog_13_method_35_code
def yX11_lays : MethodName := ⟨RX11, "lays", "(IZIII)I"⟩
abbrev cX11_isFar : ByteArray := prog_13_method_36_code
def yX11_isFar : MethodName := ⟨RX11, "isFar", "(I)Z"⟩
abbrev cX11_whole : ByteArray := prog_13_method_37_code
def yX11_whole : MethodName := ⟨RX11, "whole", "(IIII)I"⟩
abbrev cX11_much : ByteArray := prog_13_method_38_code
def yX11_much : MethodName := ⟨RX11, "much", "(III)I"⟩
abbrev cX11_drop : ByteArray := prog_13_method_39_code
def yX11_drop : MethodName := ⟨RX11, "drop", "()I"⟩
abbrev cX11_bases : ByteArray := prog_13_method_40_code
def yX11_bases : MethodName := ⟨RX11, "bases", "(I)V"⟩
abbrev cX11_prepares : ByteArray := prog_13_method_41_code
def yX11_prepares : MethodName := ⟨RX11, "prepares", "()V"⟩
abbrev cX11_agrees : ByteArray := prog_13_method_42_code
def yX11_agrees : MethodName := ⟨RX11, "agrees", "(III)Z"⟩
abbrev cX11_xAt : ByteArray := prog_13_method_43_code
def yX11_xAt : MethodName := ⟨RX11, "xAt", "(I)I"⟩
abbrev cX11_yAt : ByteArray := prog_13_method_44_code
def yX11_yAt : MethodName := ⟨RX11, "yAt", "(I)I"⟩
abbrev cX11_agreesAll : ByteArray := prog_13_method_45_code
def yX11_agreesAll : MethodName := ⟨RX11, "agreesAll", "(III)Z"⟩
abbrev cX11_finds : ByteArray := prog_13_method_46_code
def yX11_finds : MethodName := ⟨RX11, "finds", "()V"⟩
abbrev cX11_which : ByteArray := prog_13_method_47_code
def yX11_which : MethodName := ⟨RX11, "which", "()I"⟩
abbrev cX11_ends : ByteArray := prog_13_method_48_code
def yX11_ends : MethodName := ⟨RX11, "ends", "()I"⟩
abbrev cX11_isPull : ByteArray := prog_13_method_49_code
def yX11_isPull : MethodName := ⟨RX11, "isPull", "(II)Z"⟩
abbrev cX11_judge : ByteArray := prog_13_method_50_code
def yX11_judge : MethodName := ⟨RX11, "judge", "(II)I"⟩
abbrev cX11_some : ByteArray := prog_13_method_51_code
def yX11_some : MethodName := ⟨RX11, "some", "(I)Z"⟩
abbrev cX11_bars : ByteArray := prog_13_method_52_code
def yX11_bars : MethodName := ⟨RX11, "bars", "()I"⟩
abbrev cX11_sorts : ByteArray := prog_13_method_53_code
def yX11_sorts : MethodName := ⟨RX11, "sorts", "(II)V"⟩
abbrev cX11_sizeOf : ByteArray := prog_13_method_54_code
def yX11_sizeOf : MethodName := ⟨RX11, "sizeOf", "(I)J"⟩
abbrev cX11_leaves : ByteArray := prog_13_method_55_code
def yX11_leaves : MethodName := ⟨RX11, "leaves", "(III)I"⟩
abbrev cX11_narrows : ByteArray := prog_13_method_56_code
def yX11_narrows : MethodName := ⟨RX11, "narrows", "(II)I"⟩
abbrev cX11_next : ByteArray := prog_13_method_57_code
def yX11_next : MethodName := ⟨RX11, "next", "(II)I"⟩
abbrev cX11_isMended : ByteArray := prog_13_method_58_code
def yX11_isMended : MethodName := ⟨RX11, "isMended", "(I)Z"⟩
abbrev cX11_keepsLike : ByteArray := prog_13_method_59_code
def yX11_keepsLike : MethodName := ⟨RX11, "keepsLike", "(II)V"⟩
abbrev cX11_enough : ByteArray := prog_13_method_60_code
def yX11_enough : MethodName := ⟨RX11, "enough", "(III)I"⟩
abbrev cX11_isMan : ByteArray := prog_13_method_61_code
def yX11_isMan : MethodName := ⟨RX11, "isMan", "(I)Z"⟩
abbrev cX11_man : ByteArray := prog_13_method_62_code
def yX11_man : MethodName := ⟨RX11, "man", "(III)Z"⟩
abbrev cX11_told : ByteArray := prog_13_method_63_code
def yX11_told : MethodName := ⟨RX11, "told", "(III)J"⟩
abbrev cX11_tells : ByteArray := prog_13_method_64_code
def yX11_tells : MethodName := ⟨RX11, "tells", "(II)I"⟩
abbrev cX11_men : ByteArray := prog_13_method_65_code
def yX11_men : MethodName := ⟨RX11, "men", "(IIII)I"⟩
abbrev cX11_restOf : ByteArray := prog_13_method_66_code
def yX11_restOf : MethodName := ⟨RX11, "restOf", "(I)J"⟩
abbrev cX11_asks : ByteArray := prog_13_method_67_code
def yX11_asks : MethodName := ⟨RX11, "asks", "()J"⟩
abbrev cX11_bothBearings : ByteArray := prog_13_method_68_code
def yX11_bothBearings : MethodName := ⟨RX11, "bothBearings", "(I)J"⟩
abbrev cX11_goes : ByteArray := prog_13_method_69_code
def yX11_goes : MethodName := ⟨RX11, "goes", "(III)V"⟩
abbrev cX11_mends : ByteArray := prog_13_method_70_code
def yX11_mends : MethodName := ⟨RX11, "mends", "(IIZZ)V"⟩
abbrev cX11_entersFound : ByteArray := prog_13_method_71_code
def yX11_entersFound : MethodName := ⟨RX11, "entersFound", "()V"⟩
abbrev cX11_rest : ByteArray := prog_13_method_72_code
def yX11_rest : MethodName := ⟨RX11, "rest", "(I)J"⟩
abbrev cX11_mended : ByteArray := prog_13_method_73_code
def yX11_mended : MethodName := ⟨RX11, "mended", "(IIZZ)J"⟩
abbrev cX11_best : ByteArray := prog_13_method_74_code
def yX11_best : MethodName := ⟨RX11, "best", "(II)J"⟩
abbrev cX11_off : ByteArray := prog_13_method_75_code
def yX11_off : MethodName := ⟨RX11, "off", "(II)J"⟩
abbrev cX11_instead : ByteArray := prog_13_method_76_code
def yX11_instead : MethodName := ⟨RX11, "instead", "(II)J"⟩
abbrev cX11_fewest : ByteArray := prog_13_method_77_code
def yX11_fewest : MethodName := ⟨RX11, "fewest", "(IJ)I"⟩
abbrev cX11_all : ByteArray := prog_13_method_78_code
def yX11_all : MethodName := ⟨RX11, "all", "(II)J"⟩
abbrev cX11_ounceOf : ByteArray := prog_13_method_79_code
def yX11_ounceOf : MethodName := ⟨RX11, "ounceOf", "(II)I"⟩
abbrev cX11_ounce : ByteArray := prog_13_method_80_code
def yX11_ounce : MethodName := ⟨RX11, "ounce", "(II)I"⟩
abbrev cX11_settle : ByteArray := prog_13_method_81_code
def yX11_settle : MethodName := ⟨RX11, "settle", "(I)I"⟩
abbrev cX11_both : ByteArray := prog_13_method_82_code
def yX11_both : MethodName := ⟨RX11, "both", "(IIIII)I"⟩
abbrev cX11_two : ByteArray := prog_13_method_83_code
def yX11_two : MethodName := ⟨RX11, "two", "(I)J"⟩
abbrev cX11_at : ByteArray := prog_13_method_84_code
def yX11_at : MethodName := ⟨RX11, "at", "(III)Z"⟩
abbrev cX11_worst : ByteArray := prog_13_method_85_code
def yX11_worst : MethodName := ⟨RX11, "worst", "()J"⟩
abbrev cX11_isPoint : ByteArray := prog_13_method_86_code
def yX11_isPoint : MethodName := ⟨RX11, "isPoint", "(J)Z"⟩
abbrev cX11_pointAt : ByteArray := prog_13_method_87_code
def yX11_pointAt : MethodName := ⟨RX11, "pointAt", "(JI)J"⟩
abbrev cX11_floor : ByteArray := prog_13_method_88_code
def yX11_floor : MethodName := ⟨RX11, "floor", "(IJIJ)I"⟩
abbrev cX11_three : ByteArray := prog_13_method_89_code
def yX11_three : MethodName := ⟨RX11, "three", "([J)J"⟩
abbrev cX11_laysOut : ByteArray := prog_13_method_90_code
def yX11_laysOut : MethodName := ⟨RX11, "laysOut", "(IIIIJJJ)V"⟩
abbrev cX11_whose : ByteArray := prog_13_method_91_code
def yX11_whose : MethodName := ⟨RX11, "whose", "(IIIJJJ)I"⟩
abbrev cX11_part : ByteArray := prog_13_method_92_code
def yX11_part : MethodName := ⟨RX11, "part", "(I)I"⟩
abbrev cX11_buckets : ByteArray := prog_13_method_93_code
def yX11_buckets : MethodName := ⟨RX11, "buckets", "(IJ)I"⟩
abbrev cX11_areCogs : ByteArray := prog_13_method_94_code
def yX11_areCogs : MethodName := ⟨RX11, "areCogs", "()Z"⟩
abbrev cX11_cogSize : ByteArray := prog_13_method_95_code
def yX11_cogSize : MethodName := ⟨RX11, "cogSize", "()J"⟩
abbrev cX11_asTold : ByteArray := prog_13_method_96_code
def yX11_asTold : MethodName := ⟨RX11, "asTold", "()V"⟩
abbrev cX11_cogs : ByteArray := prog_13_method_97_code
def yX11_cogs : MethodName := ⟨RX11, "cogs", "()J"⟩
abbrev cX11_orders : ByteArray := prog_13_method_98_code
def yX11_orders : MethodName := ⟨RX11, "orders", "(II)V"⟩
abbrev cX11_order : ByteArray := prog_13_method_99_code
def yX11_order : MethodName := ⟨RX11, "order", "()J"⟩
abbrev cX11_exchanges : ByteArray := prog_13_method_100_code
def yX11_exchanges : MethodName := ⟨RX11, "exchanges", "(II)V"⟩
abbrev cX11_round : ByteArray := prog_13_method_101_code
def yX11_round : MethodName := ⟨RX11, "round", "()I"⟩
abbrev cX11_lays_ : ByteArray := prog_13_method_102_code
def yX11_lays_ : MethodName := ⟨RX11, "lays", "(I)V"⟩
abbrev cX11_takesKept : ByteArray := prog_13_method_103_code
def yX11_takesKept : MethodName := ⟨RX11, "takesKept", "()I"⟩
abbrev cX11_keep : ByteArray := prog_13_method_104_code
def yX11_keep : MethodName := ⟨RX11, "keep", "(I)Z"⟩
abbrev cX11_again : ByteArray := prog_13_method_105_code
def yX11_again : MethodName := ⟨RX11, "again", "(I)Z"⟩
abbrev cX11_count : ByteArray := prog_13_method_106_code
def yX11_count : MethodName := ⟨RX11, "count", "(I)I"⟩
abbrev cX11_init : ByteArray := prog_13_method_107_code
def yX11_init : MethodName := ⟨RX11, "<init>", "()V"⟩
abbrev cX11_row : ByteArray := prog_13_method_108_code
def yX11_row : MethodName := ⟨RX11, "row", "(I)J"⟩
def RJx145de : String := "java/io/Serializable"
def RJxb160c : String := "java/lang/Comparable"
def RJ6 : String := "java/lang/Integer"
abbrev cJ6_bitCount_0f7a4 : ByteArray := prog_17_method_49_code
def yJ6_bitCount_0f7a4 : MethodName := ⟨RJ6, "bitCount", "(I)I"⟩
def RJ13 : String := "java/lang/Long"
abbrev cJ13_compare_74951 : ByteArray := prog_18_method_42_code
def yJ13_compare_74951 : MethodName := ⟨RJ13, "compare", "(JJ)I"⟩
abbrev cJ13_compareUnsigned_74951 : ByteArray := prog_18_method_43_code
def yJ13_compareUnsigned_74951 : MethodName := ⟨RJ13, "compareUnsigned", "(JJ)I"⟩
def RJ9 : String := "java/lang/Math"
abbrev cJ9_floorDiv_f86c9 : ByteArray := prog_19_method_49_code
def yJ9_floorDiv_f86c9 : MethodName := ⟨RJ9, "floorDiv", "(JJ)J"⟩
abbrev cJ9_floorMod_f86c9 : ByteArray := prog_19_method_52_code
def yJ9_floorMod_f86c9 : MethodName := ⟨RJ9, "floorMod", "(JJ)J"⟩
abbrev cJ9_abs_0f7a4 : ByteArray := prog_19_method_59_code
def yJ9_abs_0f7a4 : MethodName := ⟨RJ9, "abs", "(I)I"⟩
abbrev cJ9_abs_067f4 : ByteArray := prog_19_method_61_code
def yJ9_abs_067f4 : MethodName := ⟨RJ9, "abs", "(J)J"⟩
abbrev cJ9_max_7cf53 : ByteArray := prog_19_method_65_code
def yJ9_max_7cf53 : MethodName := ⟨RJ9, "max", "(II)I"⟩
abbrev cJ9_max_f86c9 : ByteArray := prog_19_method_66_code
def yJ9_max_f86c9 : MethodName := ⟨RJ9, "max", "(JJ)J"⟩
abbrev cJ9_min_7cf53 : ByteArray := prog_19_method_69_code
def yJ9_min_7cf53 : MethodName := ⟨RJ9, "min", "(II)I"⟩
abbrev cJ9_min_f86c9 : ByteArray := prog_19_method_70_code
def yJ9_min_f86c9 : MethodName := ⟨RJ9, "min", "(JJ)J"⟩
def RJxd2413 : String := "java/lang/Number"
def RJ0 : String := "java/lang/String"
def RJxfd54e : String := "java/lang/constant/Constable"
def RJx3cf43 : String := "java/lang/constant/ConstantDesc"
abbrev vwCl : List vw_C := [(RX0, TX0, 7), (RX1, TX1, 9), (RX2, TX2, 7), (RX3, TX3, 9), (RX4, TX4, 8), (RX5, TX5, 9), (RX6, TX6, 15), (RX7, TX7, 6), (RX8, TX8, 2), (RX9, TX9, 10), (RX10, TX10, 16), (RX11, TX11, 75)]
end
section
/-! MY OWN LAYER over the kit's rows: one judgement Z whose state is data (place, locals, stack, world), a runner of straight blocks, and contracts Ct. -/
abbrev KG : Type := va_G × (ClassId × ClassId × ClassId × ClassId)
abbrev cyI (G : KG) : ClassId := G.2.1
abbrev cyJ (G : KG) : ClassId := G.2.2.1
abbrev cyZ (G : KG) : ClassId := G.2.2.2.1
abbrev cyO (G : KG) : ClassId := G.2.2.2.2
abbrev TYS (G : KG) : List (ClassId × FieldType) := [(cyI G, .int), (cyJ G, .long), (cyZ G, .boolean), (cyO G, .object "StoneThatShakes$Kept")]
abbrev aI (G : KG) (n : Nat) (f : Nat → Int32) : va_E := .inl (cyI G, n, .inl f)
abbrev aJ (G : KG) (n : Nat) (f : Nat → Int64) : va_E := .inl (cyJ G, n, .inr (.inl f))
abbrev aZ (G : KG) (n : Nat) (f : Nat → Int32) : va_E := .inl (cyZ G, n, .inl f)
abbrev aO (G : KG) (n : Nat) (f : Nat → Option Nat) : va_E := .inl (cyO G, n, .inr (.inr (.inr (.inr f))))
abbrev ob (ci : Nat) (fs : List Value) : va_E := .inr (ci, fs)
def BIG : List Cond := lw_tbl.filter goodWord
theorem big_in {w : Cond} (i : Nat) (h : lw_tbl[i]? = some w) (g : goodWord w = true) : w ∈ BIG := List.mem_filter.mpr ⟨List.mem_of_getElem? h, g⟩
theorem big_tbl {w : Cond} (h : w ∈ BIG) : w ∈ lw_tbl := (List.mem_filter.mp h).1
theorem big_good {w : Cond} (h : w ∈ BIG) : (w.onTables && w.keeps) = true ∨ ∃ ty, w = .arrayClass ty := good_of_word (List.mem_filter.mp h).2
def wsOf (y : MethodName) (cc : ByteArray) (n : Nat) (r : Option FieldType) : List Cond := Cond.code y cc n r :: BIG
theorem goodIn_wsOf {y : MethodName} {cc : ByteArray} {n : Nat} {r : Option FieldType} (h : Cond.code y cc n r ∈ BIG) : GoodIn BIG (wsOf y cc n r) := by
  intro w hw
  rcases List.mem_cons.mp hw with e | e
  · rw [e]
    exact ⟨h, big_good h⟩
  · exact ⟨e, big_good e⟩
def isNest : Cond → Bool
  | .fieldLinkNest .. => true
  | .methodLinkNest .. => true
  | _ => false
def NW : List Cond := lw_tbl.filter isNest
abbrev AOW : Cond := .arrayOver (.object "StoneThatShakes$Kept")
def NWs (U : State) : Prop := (∀ w ∈ NW, va_Nw w U) ∧ va_AO "StoneThatShakes$Kept" U
theorem nest_in {w : Cond} (i : Nat) (h : lw_tbl[i]? = some w) (g : isNest w = true) : w ∈ NW := List.mem_filter.mpr ⟨List.mem_of_getElem? h, g⟩
theorem nest_tab {w : Cond} (h : isNest w = true) : w.onTables = true := by
  cases w <;> first | rfl | cases h
theorem NWs.warm {s U : State} (hW : s.WarmedH U.vm) (h : NWs s) : NWs U := by
  refine ⟨?_, va_AO.moved hW.alike h.2⟩
  intro w hw
  have h0 := h.1 w hw
  have h1 : isNest w = true := (List.mem_filter.mp hw).2
  cases w <;> first | cases h1; done | exact va_Nw.warmF hW h0 | exact va_Nw.warmM hW h0
theorem NWs.same {u U : State} (e : u.vm = U.vm) (h : NWs u) : NWs U := ⟨fun w hw => va_Nw.same (nest_tab (List.mem_filter.mp hw).2) e (h.1 w hw), va_AO.moved (by rw [← e]; exact Vm.Alike.refl u.vm) h.2⟩
theorem NWs.of {A : Array Value} {U : State} (h : ∀ w ∈ lw_tbl, w.before A U = true) (hA : AOW ∈ lw_tbl) : NWs U := ⟨fun w hw => va_Nw.of (nest_tab (List.mem_filter.mp hw).2) (h w (List.mem_filter.mp hw).1), va_AO.of (h _ hA)⟩
theorem NWs.use {A : Array Value} {U : State} (h : NWs U) {w : Cond} (hw : w ∈ NW) : w.before A U = true := va_Nw.use (nest_tab (List.mem_filter.mp hw).2) (h.1 w hw)
def KK (G : KG) (U : State) : Prop := va_K G.1 vwCl (TYS G) U ∧ NWs U
theorem KK.warm {G : KG} {s U : State} (hW : s.WarmedH U.vm) (h : KK G s) : KK G U := ⟨va_K.moved hW.alike h.1, h.2.warm hW⟩
theorem KK.same {G : KG} {u U : State} (e : u.vm = U.vm) (h : KK G u) : KK G U := ⟨va_K.moved (by rw [← e]; exact Vm.Alike.refl u.vm) h.1, h.2.same e⟩
def Pcx (G : KG) (av : List Value) (w0 : va_W) (sz : Nat) : Array Value → State → Prop := va_Pc av (fun U => U.heap.size = sz ∧ va_P G.1 vwCl w0 U.heap ∧ KK G U ∧ va_D (fun _ => True) w0)
theorem Pcx.blind {G : KG} {av : List Value} {w0 : va_W} {sz : Nat} : FrameBlind (Pcx G av w0 sz) := by
  intro a U g mk q
  obtain ⟨q0, q1, qP, qK, qD⟩ := q
  exact ⟨q0, q1, qP, KK.same (u := U) (U := U.calling g mk a) rfl qK, qD⟩
def Qcx (G : KG) (w0 : va_W) (sz : Nat) (post : Option Value → va_W → Prop) : Array Value → State → Outcome → State → Prop := fun _ st oc t => (∃ (r : Option Value) (w1 : va_W), oc = .returned r ∧ post r w1 ∧ va_P G.1 vwCl w1 t.heap ∧ va_D (va_A w0 sz) w1) ∧ va_F (va_A w0 sz) st t
abbrev QQ (G : KG) (A : Nat → Prop) (post : Option Value → va_W → Prop) : Array Value → State → Outcome → State → Prop := fun _ st oc t => (∃ (r : Option Value) (w1 : va_W), oc = .returned r ∧ post r w1 ∧ va_P G.1 vwCl w1 t.heap ∧ va_D A w1) ∧ va_F A st t
/-- a contract: from the world w0 the method returns, and 'post answer world' -/
def Ct (l : Launch) (G : KG) (y : MethodName) (cc : ByteArray) (maxL : Nat) (ret : Option FieldType) (rm : Room) (av : List Value) (w0 : va_W) (post : Option Value → va_W → Prop) : Prop := ∀ sz : Nat, Met l y (wsOf y cc maxL ret) rm (Pcx G av w0 sz) (Qcx G w0 sz post) rm.cells rm.slots (va_A w0 sz)
abbrev ZC (p : Program) (s : State) (m : MethodId) (args : Array Value) (meth : Method) (c : Code) (cc : ByteArray) (nL : Nat) (own : String) (G : KG) (A : Nat → Prop) (ret : Option FieldType) (nm : String) : Prop :=
  p.tables.exec = Jvm.exec ∧ c.code = cc ∧ c.maxLocals = nL ∧ s.vm.findClass own = some m.cls ∧ (∀ w ∈ BIG, w.before args s = true) ∧ KK G s ∧ (∀ q : Nat, s.heap.size ≤ q → A q) ∧ meth.locks = false ∧ meth.sig.returnType = ret ∧ meth.name = nm
def Z (p : Program) (l : Launch) (e : Env) (R : Room) (s : State) (m : MethodId) (args : Array Value) (below : List Frame) (meth : Method) (c : Code) (nL : Nat) (G : KG) (A : Nat → Prop) (Q : State → Prop) (pc : Nat) (lv : List (Nat × Value)) (st : List Value) (ws : va_W) (kc ks : Nat) : Prop :=
  ∀ (H : Heap) (locs : List Loc) (ls : Array Slot), va_P G.1 vwCl ws H → va_D A ws → va_S A s.heap H locs → lv_has ls nL lv → W p l e R s m args below meth c H locs kc ks Q (F0 m pc ls st)
set_option maxHeartbeats 4000000 in
theorem ct_of {l : Launch} {G : KG} {y : MethodName} {cc : ByteArray} {maxL : Nat} {ret : Option FieldType} {rm : Room} {av : List Value} {w0 : va_W} {post : Option Value → va_W → Prop} (lv : List (Nat × Value)) (hy : plainName y.cls = true) (hlen : (lg_sl av).length ≤ maxL) (hlv : lv_args 0 av = lv)
    (body : ∀ (p : Program) (e : Env) (s : State) (m : MethodId) (args : Array Value) (below : List Frame) (meth : Method) (c : Code) (A : Nat → Prop), ZC p s m args meth c cc maxL y.cls G A ret y.name →
      Z p l e rm s m args below meth c maxL G A (MQ below (QQ G A post) args s rm.cells rm.slots A) 0 lv [] w0 0 0) : Ct l G y cc maxL ret rm av w0 post := by
  intro sz
  refine Met.ofW (cc := cc) (maxL := maxL) (ret := ret) hy rfl ?_
  intro p e s m args below meth c s₁ B hml hv
  obtain ⟨rfl, hsz, hP, hK, hD0⟩ := hv
  have hts := atoms_spec (ws := wsOf y cc maxL ret) B.pre
  have hown : s.vm.findClass y.cls = some m.cls := findClass_of_methodNamed B.named
  subst hsz
  have hD := hD0.self (sz := s.heap.size)
  have hA : ∀ q : Nat, s.heap.size ≤ q → va_A w0 s.heap.size q := fun q h => Or.inr h
  have hl := lv_entry av (n := maxL) hlen
  rw [lg_entry_eq]
  rw [hlv] at hl
  have hn : meth.name = y.name := (name_of_methodNamed B.named B.method).1
  exact body p e s m av.toArray below meth c (va_A w0 s.heap.size) ⟨B.exec, B.bytes, hml, hown, fun w hw => hts w (List.mem_cons_of_mem _ hw), hK, hA, B.notSynchronized, B.returns, hn⟩ s.heap [] _ hP hD va_S.rf hl
section ZROWS
variable {p : Program} {l : Launch} {e : Env} {R : Room} {s : State} {m : MethodId} {args : Array Value} {below : List Frame} {meth : Method} {c : Code} {nL : Nat} {G : KG} {A : Nat → Prop} {Q : State → Prop} {cc : ByteArray} {own : String} {ret : Option FieldType} {nm : String}
variable {pc : Nat} {rest st : List Value} {ws : va_W} {kc ks : Nat}
theorem z_iconst (X : ZC p s m args meth c cc nL own G A ret nm) {lv : List (Nat × Value)} {n : Int} {v : Int32} (hdg : decode cc pc = .ok (.iconst n, 1)) (hv : Int32.ofInt n = v) (kz : Z p l e R s m args below meth c nL G A Q (pc + 1) lv (.int v :: rest) ws kc ks) : Z p l e R s m args below meth c nL G A Q pc lv (rest) ws kc ks := fun H locs ls hP hD hS hl => lv_iconst X.1 X.2.1 hdg hv (kz H locs ls hP hD hS hl)
theorem z_bipush (X : ZC p s m args meth c cc nL own G A ret nm) {lv : List (Nat × Value)} {n : Int} {v : Int32} (hdg : decode cc pc = .ok (.bipush n, 2)) (hv : (Int8.ofInt n).toInt32 = v) (kz : Z p l e R s m args below meth c nL G A Q (pc + 2) lv (.int v :: rest) ws kc ks) : Z p l e R s m args below meth c nL G A Q pc lv (rest) ws kc ks := fun H locs ls hP hD hS hl => lv_bipush X.1 X.2.1 hdg hv (kz H locs ls hP hD hS hl)
theorem z_sipush (X : ZC p s m args meth c cc nL own G A ret nm) {lv : List (Nat × Value)} {n : Int} {v : Int32} (hdg : decode cc pc = .ok (.sipush n, 3)) (hv : (Int16.ofInt n).toInt32 = v) (kz : Z p l e R s m args below meth c nL G A Q (pc + 3) lv (.int v :: rest) ws kc ks) : Z p l e R s m args below meth c nL G A Q pc lv (rest) ws kc ks := fun H locs ls hP hD hS hl => lv_sipush X.1 X.2.1 hdg hv (kz H locs ls hP hD hS hl)
theorem z_lconst (X : ZC p s m args meth c cc nL own G A ret nm) {lv : List (Nat × Value)} {n : Fin 2} {v : Int64} (hdg : decode cc pc = .ok (.lconst n, 1)) (hv : Int64.ofNat (n : Nat) = v) (kz : Z p l e R s m args below meth c nL G A Q (pc + 1) lv (.long v :: rest) ws kc ks) : Z p l e R s m args below meth c nL G A Q pc lv (rest) ws kc ks := fun H locs ls hP hD hS hl => lv_lconst X.1 X.2.1 hdg hv (kz H locs ls hP hD hS hl)
theorem z_iload_n (X : ZC p s m args meth c cc nL own G A ret nm) {lv : List (Nat × Value)} {k : Fin 4} {i : Nat} {x : Int32} (hdg : decode cc pc = .ok (.iload_n k, 1)) (hi : (k : Nat) = i) (q : Nat) (hq : lv[q]? = some (i, .int x)) (kz : Z p l e R s m args below meth c nL G A Q (pc + 1) lv (.int x :: rest) ws kc ks) : Z p l e R s m args below meth c nL G A Q pc lv (rest) ws kc ks := fun H locs ls hP hD hS hl => lv_iload_n X.1 X.2.1 hdg hi (lv_at hl q hq) (kz H locs ls hP hD hS hl)
theorem z_iload (X : ZC p s m args meth c cc nL own G A ret nm) {lv : List (Nat × Value)} {i : Nat} {x : Int32} (hdg : decode cc pc = .ok (.iload i, 2)) (q : Nat) (hq : lv[q]? = some (i, .int x)) (kz : Z p l e R s m args below meth c nL G A Q (pc + 2) lv (.int x :: rest) ws kc ks) : Z p l e R s m args below meth c nL G A Q pc lv (rest) ws kc ks := fun H locs ls hP hD hS hl => lv_iload X.1 X.2.1 hdg (lv_at hl q hq) (kz H locs ls hP hD hS hl)
theorem z_lload_n (X : ZC p s m args meth c cc nL own G A ret nm) {lv : List (Nat × Value)} {k : Fin 4} {i : Nat} {x : Int64} (hdg : decode cc pc = .ok (.lload_n k, 1)) (hi : (k : Nat) = i) (q : Nat) (hq : lv[q]? = some (i, .long x)) (kz : Z p l e R s m args below meth c nL G A Q (pc + 1) lv (.long x :: rest) ws kc ks) : Z p l e R s m args below meth c nL G A Q pc lv (rest) ws kc ks := fun H locs ls hP hD hS hl => lv_lload_n X.1 X.2.1 hdg hi (lv_at hl q hq) (kz H locs ls hP hD hS hl)
theorem z_lload (X : ZC p s m args meth c cc nL own G A ret nm) {lv : List (Nat × Value)} {i : Nat} {x : Int64} (hdg : decode cc pc = .ok (.lload i, 2)) (q : Nat) (hq : lv[q]? = some (i, .long x)) (kz : Z p l e R s m args below meth c nL G A Q (pc + 2) lv (.long x :: rest) ws kc ks) : Z p l e R s m args below meth c nL G A Q pc lv (rest) ws kc ks := fun H locs ls hP hD hS hl => lv_lload X.1 X.2.1 hdg (lv_at hl q hq) (kz H locs ls hP hD hS hl)
theorem z_aload_n (X : ZC p s m args meth c cc nL own G A ret nm) {lv : List (Nat × Value)} {k : Fin 4} {i : Nat} {x : Nat} (hdg : decode cc pc = .ok (.aload_n k, 1)) (hi : (k : Nat) = i) (q : Nat) (hq : lv[q]? = some (i, .ref x)) (kz : Z p l e R s m args below meth c nL G A Q (pc + 1) lv (.ref x :: rest) ws kc ks) : Z p l e R s m args below meth c nL G A Q pc lv (rest) ws kc ks := fun H locs ls hP hD hS hl => lv_aload_n X.1 X.2.1 hdg hi (lv_at hl q hq) (kz H locs ls hP hD hS hl)
theorem z_aload (X : ZC p s m args meth c cc nL own G A ret nm) {lv : List (Nat × Value)} {i : Nat} {x : Nat} (hdg : decode cc pc = .ok (.aload i, 2)) (q : Nat) (hq : lv[q]? = some (i, .ref x)) (kz : Z p l e R s m args below meth c nL G A Q (pc + 2) lv (.ref x :: rest) ws kc ks) : Z p l e R s m args below meth c nL G A Q pc lv (rest) ws kc ks := fun H locs ls hP hD hS hl => lv_aload X.1 X.2.1 hdg (lv_at hl q hq) (kz H locs ls hP hD hS hl)
theorem z_istore_n (X : ZC p s m args meth c cc nL own G A ret nm) {lv lv' : List (Nat × Value)} {k : Fin 4} {i : Nat} {x : Int32} (hdg : decode cc pc = .ok (.istore_n k, 1)) (hi : (k : Nat) = i) (hn : i < nL) (he : (i, Value.int x) :: lv.filter (fun q => !(q.1 == i) && !(q.1 + 1 == i && q.2.category == 2)) = lv') (kk : Z p l e R s m args below meth c nL G A Q (pc + 1) lv' rest ws kc ks) : Z p l e R s m args below meth c nL G A Q pc lv (.int x :: rest) ws kc ks := fun H locs ls hP hD hS hl => lv_istore_n X.1 X.2.1 hdg hi hl hn he (fun ls' hl' => kk H locs ls' hP hD hS hl')
theorem z_istore (X : ZC p s m args meth c cc nL own G A ret nm) {lv lv' : List (Nat × Value)} {i : Nat} {x : Int32} (hdg : decode cc pc = .ok (.istore i, 2)) (hn : i < nL) (he : (i, Value.int x) :: lv.filter (fun q => !(q.1 == i) && !(q.1 + 1 == i && q.2.category == 2)) = lv') (kk : Z p l e R s m args below meth c nL G A Q (pc + 2) lv' rest ws kc ks) : Z p l e R s m args below meth c nL G A Q pc lv (.int x :: rest) ws kc ks := fun H locs ls hP hD hS hl => lv_istore X.1 X.2.1 hdg hl hn he (fun ls' hl' => kk H locs ls' hP hD hS hl')
theorem z_lstore_n (X : ZC p s m args meth c cc nL own G A ret nm) {lv lv' : List (Nat × Value)} {k : Fin 4} {i : Nat} {x : Int64} (hdg : decode cc pc = .ok (.lstore_n k, 1)) (hi : (k : Nat) = i) (hn : i + 1 < nL) (he : (i, Value.long x) :: lv.filter (fun q => !(q.1 == i) && (!(q.1 == i + 1) && !(q.1 + 1 == i && q.2.category == 2))) = lv') (kk : Z p l e R s m args below meth c nL G A Q (pc + 1) lv' rest ws kc ks) : Z p l e R s m args below meth c nL G A Q pc lv (.long x :: rest) ws kc ks := fun H locs ls hP hD hS hl => lv_lstore_n X.1 X.2.1 hdg hi hl hn he (fun ls' hl' => kk H locs ls' hP hD hS hl')
theorem z_lstore (X : ZC p s m args meth c cc nL own G A ret nm) {lv lv' : List (Nat × Value)} {i : Nat} {x : Int64} (hdg : decode cc pc = .ok (.lstore i, 2)) (hn : i + 1 < nL) (he : (i, Value.long x) :: lv.filter (fun q => !(q.1 == i) && (!(q.1 == i + 1) && !(q.1 + 1 == i && q.2.category == 2))) = lv') (kk : Z p l e R s m args below meth c nL G A Q (pc + 2) lv' rest ws kc ks) : Z p l e R s m args below meth c nL G A Q pc lv (.long x :: rest) ws kc ks := fun H locs ls hP hD hS hl => lv_lstore X.1 X.2.1 hdg hl hn he (fun ls' hl' => kk H locs ls' hP hD hS hl')
theorem z_astore_n (X : ZC p s m args meth c cc nL own G A ret nm) {lv lv' : List (Nat × Value)} {k : Fin 4} {i : Nat} {x : Nat} (hdg : decode cc pc = .ok (.astore_n k, 1)) (hi : (k : Nat) = i) (hn : i < nL) (he : (i, Value.ref x) :: lv.filter (fun q => !(q.1 == i) && !(q.1 + 1 == i && q.2.category == 2)) = lv') (kk : Z p l e R s m args below meth c nL G A Q (pc + 1) lv' rest ws kc ks) : Z p l e R s m args below meth c nL G A Q pc lv (.ref x :: rest) ws kc ks := fun H locs ls hP hD hS hl => lv_astore_n X.1 X.2.1 hdg hi hl hn he (fun ls' hl' => kk H locs ls' hP hD hS hl')
theorem z_astore (X : ZC p s m args meth c cc nL own G A ret nm) {lv lv' : List (Nat × Value)} {i : Nat} {x : Nat} (hdg : decode cc pc = .ok (.astore i, 2)) (hn : i < nL) (he : (i, Value.ref x) :: lv.filter (fun q => !(q.1 == i) && !(q.1 + 1 == i && q.2.category == 2)) = lv') (kk : Z p l e R s m args below meth c nL G A Q (pc + 2) lv' rest ws kc ks) : Z p l e R s m args below meth c nL G A Q pc lv (.ref x :: rest) ws kc ks := fun H locs ls hP hD hS hl => lv_astore X.1 X.2.1 hdg hl hn he (fun ls' hl' => kk H locs ls' hP hD hS hl')
theorem z_iinc (X : ZC p s m args meth c cc nL own G A ret nm) {lv lv' : List (Nat × Value)} {i k : Nat} {n : Int} {x v : Int32} (hdg : decode cc pc = .ok (.iinc i n, 3)) (hk : lv[k]? = some (i, .int x)) (hv : x + Int32.ofInt n = v) (hn : i < nL) (he : (i, Value.int v) :: lv.filter (fun q => !(q.1 == i) && !(q.1 + 1 == i && q.2.category == 2)) = lv') (kk : Z p l e R s m args below meth c nL G A Q (pc + 3) lv' rest ws kc ks) : Z p l e R s m args below meth c nL G A Q pc lv rest ws kc ks := fun H locs ls hP hD hS hl => lv_iinc X.1 X.2.1 hdg hl hk hv hn he (fun ls' hl' => kk H locs ls' hP hD hS hl')
theorem z_iadd (X : ZC p s m args meth c cc nL own G A ret nm) {lv : List (Nat × Value)} {x y : Int32} (hdg : decode cc pc = .ok (.iadd, 1)) (kz : Z p l e R s m args below meth c nL G A Q (pc + 1) lv (.int (x + y) :: rest) ws kc ks) : Z p l e R s m args below meth c nL G A Q pc lv (.int y :: .int x :: rest) ws kc ks := fun H locs ls hP hD hS hl => lv_iadd X.1 X.2.1 hdg (kz H locs ls hP hD hS hl)
theorem z_isub (X : ZC p s m args meth c cc nL own G A ret nm) {lv : List (Nat × Value)} {x y : Int32} (hdg : decode cc pc = .ok (.isub, 1)) (kz : Z p l e R s m args below meth c nL G A Q (pc + 1) lv (.int (x - y) :: rest) ws kc ks) : Z p l e R s m args below meth c nL G A Q pc lv (.int y :: .int x :: rest) ws kc ks := fun H locs ls hP hD hS hl => lv_isub X.1 X.2.1 hdg (kz H locs ls hP hD hS hl)
theorem z_imul (X : ZC p s m args meth c cc nL own G A ret nm) {lv : List (Nat × Value)} {x y : Int32} (hdg : decode cc pc = .ok (.imul, 1)) (kz : Z p l e R s m args below meth c nL G A Q (pc + 1) lv (.int (x * y) :: rest) ws kc ks) : Z p l e R s m args below meth c nL G A Q pc lv (.int y :: .int x :: rest) ws kc ks := fun H locs ls hP hD hS hl => lv_imul X.1 X.2.1 hdg (kz H locs ls hP hD hS hl)
theorem z_iand (X : ZC p s m args meth c cc nL own G A ret nm) {lv : List (Nat × Value)} {x y : Int32} (hdg : decode cc pc = .ok (.iand, 1)) (kz : Z p l e R s m args below meth c nL G A Q (pc + 1) lv (.int (x &&& y) :: rest) ws kc ks) : Z p l e R s m args below meth c nL G A Q pc lv (.int y :: .int x :: rest) ws kc ks := fun H locs ls hP hD hS hl => lv_iand X.1 X.2.1 hdg (kz H locs ls hP hD hS hl)
theorem z_ior (X : ZC p s m args meth c cc nL own G A ret nm) {lv : List (Nat × Value)} {x y : Int32} (hdg : decode cc pc = .ok (.ior, 1)) (kz : Z p l e R s m args below meth c nL G A Q (pc + 1) lv (.int (x ||| y) :: rest) ws kc ks) : Z p l e R s m args below meth c nL G A Q pc lv (.int y :: .int x :: rest) ws kc ks := fun H locs ls hP hD hS hl => lv_ior X.1 X.2.1 hdg (kz H locs ls hP hD hS hl)
theorem z_ixor (X : ZC p s m args meth c cc nL own G A ret nm) {lv : List (Nat × Value)} {x y : Int32} (hdg : decode cc pc = .ok (.ixor, 1)) (kz : Z p l e R s m args below meth c nL G A Q (pc + 1) lv (.int (x ^^^ y) :: rest) ws kc ks) : Z p l e R s m args below meth c nL G A Q pc lv (.int y :: .int x :: rest) ws kc ks := fun H locs ls hP hD hS hl => lv_ixor X.1 X.2.1 hdg (kz H locs ls hP hD hS hl)
theorem z_idiv (X : ZC p s m args meth c cc nL own G A ret nm) {lv : List (Nat × Value)} {x y : Int32} (hdg : decode cc pc = .ok (.idiv, 1)) (hne : ¬ y = 0) (kz : Z p l e R s m args below meth c nL G A Q (pc + 1) lv (.int (x / y) :: rest) ws kc ks) : Z p l e R s m args below meth c nL G A Q pc lv (.int y :: .int x :: rest) ws kc ks := fun H locs ls hP hD hS hl => lv_idiv X.1 X.2.1 hdg hne (kz H locs ls hP hD hS hl)
theorem z_irem (X : ZC p s m args meth c cc nL own G A ret nm) {lv : List (Nat × Value)} {x y : Int32} (hdg : decode cc pc = .ok (.irem, 1)) (hne : ¬ y = 0) (kz : Z p l e R s m args below meth c nL G A Q (pc + 1) lv (.int (x - x / y * y) :: rest) ws kc ks) : Z p l e R s m args below meth c nL G A Q pc lv (.int y :: .int x :: rest) ws kc ks := fun H locs ls hP hD hS hl => lv_irem X.1 X.2.1 hdg hne (kz H locs ls hP hD hS hl)
theorem z_ineg (X : ZC p s m args meth c cc nL own G A ret nm) {lv : List (Nat × Value)} {x : Int32} (hdg : decode cc pc = .ok (.ineg, 1)) (kz : Z p l e R s m args below meth c nL G A Q (pc + 1) lv (.int (-x) :: rest) ws kc ks) : Z p l e R s m args below meth c nL G A Q pc lv (.int x :: rest) ws kc ks := fun H locs ls hP hD hS hl => lv_ineg X.1 X.2.1 hdg (kz H locs ls hP hD hS hl)
theorem z_ladd (X : ZC p s m args meth c cc nL own G A ret nm) {lv : List (Nat × Value)} {x y : Int64} (hdg : decode cc pc = .ok (.ladd, 1)) (kz : Z p l e R s m args below meth c nL G A Q (pc + 1) lv (.long (x + y) :: rest) ws kc ks) : Z p l e R s m args below meth c nL G A Q pc lv (.long y :: .long x :: rest) ws kc ks := fun H locs ls hP hD hS hl => lv_ladd X.1 X.2.1 hdg (kz H locs ls hP hD hS hl)
theorem z_lsub (X : ZC p s m args meth c cc nL own G A ret nm) {lv : List (Nat × Value)} {x y : Int64} (hdg : decode cc pc = .ok (.lsub, 1)) (kz : Z p l e R s m args below meth c nL G A Q (pc + 1) lv (.long (x - y) :: rest) ws kc ks) : Z p l e R s m args below meth c nL G A Q pc lv (.long y :: .long x :: rest) ws kc ks := fun H locs ls hP hD hS hl => lv_lsub X.1 X.2.1 hdg (kz H locs ls hP hD hS hl)
theorem z_lmul (X : ZC p s m args meth c cc nL own G A ret nm) {lv : List (Nat × Value)} {x y : Int64} (hdg : decode cc pc = .ok (.lmul, 1)) (kz : Z p l e R s m args below meth c nL G A Q (pc + 1) lv (.long (x * y) :: rest) ws kc ks) : Z p l e R s m args below meth c nL G A Q pc lv (.long y :: .long x :: rest) ws kc ks := fun H locs ls hP hD hS hl => lv_lmul X.1 X.2.1 hdg (kz H locs ls hP hD hS hl)
theorem z_land (X : ZC p s m args meth c cc nL own G A ret nm) {lv : List (Nat × Value)} {x y : Int64} (hdg : decode cc pc = .ok (.land, 1)) (kz : Z p l e R s m args below meth c nL G A Q (pc + 1) lv (.long (x &&& y) :: rest) ws kc ks) : Z p l e R s m args below meth c nL G A Q pc lv (.long y :: .long x :: rest) ws kc ks := fun H locs ls hP hD hS hl => lv_land X.1 X.2.1 hdg (kz H locs ls hP hD hS hl)
theorem z_lor (X : ZC p s m args meth c cc nL own G A ret nm) {lv : List (Nat × Value)} {x y : Int64} (hdg : decode cc pc = .ok (.lor, 1)) (kz : Z p l e R s m args below meth c nL G A Q (pc + 1) lv (.long (x ||| y) :: rest) ws kc ks) : Z p l e R s m args below meth c nL G A Q pc lv (.long y :: .long x :: rest) ws kc ks := fun H locs ls hP hD hS hl => lv_lor X.1 X.2.1 hdg (kz H locs ls hP hD hS hl)
theorem z_lxor (X : ZC p s m args meth c cc nL own G A ret nm) {lv : List (Nat × Value)} {x y : Int64} (hdg : decode cc pc = .ok (.lxor, 1)) (kz : Z p l e R s m args below meth c nL G A Q (pc + 1) lv (.long (x ^^^ y) :: rest) ws kc ks) : Z p l e R s m args below meth c nL G A Q pc lv (.long y :: .long x :: rest) ws kc ks := fun H locs ls hP hD hS hl => lv_lxor X.1 X.2.1 hdg (kz H locs ls hP hD hS hl)
theorem z_ldiv (X : ZC p s m args meth c cc nL own G A ret nm) {lv : List (Nat × Value)} {x y : Int64} (hdg : decode cc pc = .ok (.ldiv, 1)) (hne : ¬ y = 0) (kz : Z p l e R s m args below meth c nL G A Q (pc + 1) lv (.long (x / y) :: rest) ws kc ks) : Z p l e R s m args below meth c nL G A Q pc lv (.long y :: .long x :: rest) ws kc ks := fun H locs ls hP hD hS hl => lv_ldiv X.1 X.2.1 hdg hne (kz H locs ls hP hD hS hl)
theorem z_lrem (X : ZC p s m args meth c cc nL own G A ret nm) {lv : List (Nat × Value)} {x y : Int64} (hdg : decode cc pc = .ok (.lrem, 1)) (hne : ¬ y = 0) (kz : Z p l e R s m args below meth c nL G A Q (pc + 1) lv (.long (x - x / y * y) :: rest) ws kc ks) : Z p l e R s m args below meth c nL G A Q pc lv (.long y :: .long x :: rest) ws kc ks := fun H locs ls hP hD hS hl => lv_lrem X.1 X.2.1 hdg hne (kz H locs ls hP hD hS hl)
theorem z_lneg (X : ZC p s m args meth c cc nL own G A ret nm) {lv : List (Nat × Value)} {x : Int64} (hdg : decode cc pc = .ok (.lneg, 1)) (kz : Z p l e R s m args below meth c nL G A Q (pc + 1) lv (.long (-x) :: rest) ws kc ks) : Z p l e R s m args below meth c nL G A Q pc lv (.long x :: rest) ws kc ks := fun H locs ls hP hD hS hl => lv_lneg X.1 X.2.1 hdg (kz H locs ls hP hD hS hl)
theorem z_ishl (X : ZC p s m args meth c cc nL own G A ret nm) {lv : List (Nat × Value)} {x y : Int32} (hdg : decode cc pc = .ok (.ishl, 1)) (kz : Z p l e R s m args below meth c nL G A Q (pc + 1) lv (.int (x <<< (y &&& 31)) :: rest) ws kc ks) : Z p l e R s m args below meth c nL G A Q pc lv (.int y :: .int x :: rest) ws kc ks := fun H locs ls hP hD hS hl => lv_ishl X.1 X.2.1 hdg (kz H locs ls hP hD hS hl)
theorem z_ishr (X : ZC p s m args meth c cc nL own G A ret nm) {lv : List (Nat × Value)} {x y : Int32} (hdg : decode cc pc = .ok (.ishr, 1)) (kz : Z p l e R s m args below meth c nL G A Q (pc + 1) lv (.int (x >>> (y &&& 31)) :: rest) ws kc ks) : Z p l e R s m args below meth c nL G A Q pc lv (.int y :: .int x :: rest) ws kc ks := fun H locs ls hP hD hS hl => lv_ishr X.1 X.2.1 hdg (kz H locs ls hP hD hS hl)
theorem z_i2l (X : ZC p s m args meth c cc nL own G A ret nm) {lv : List (Nat × Value)} {x : Int32} {v : Int64} (hdg : decode cc pc = .ok (.i2l, 1)) (hv : x.toInt64 = v) (kz : Z p l e R s m args below meth c nL G A Q (pc + 1) lv (.long v :: rest) ws kc ks) : Z p l e R s m args below meth c nL G A Q pc lv (.int x :: rest) ws kc ks := fun H locs ls hP hD hS hl => lv_i2l X.1 X.2.1 hdg hv (kz H locs ls hP hD hS hl)
theorem z_l2i (X : ZC p s m args meth c cc nL own G A ret nm) {lv : List (Nat × Value)} {x : Int64} {v : Int32} (hdg : decode cc pc = .ok (.l2i, 1)) (hv : x.toInt32 = v) (kz : Z p l e R s m args below meth c nL G A Q (pc + 1) lv (.int v :: rest) ws kc ks) : Z p l e R s m args below meth c nL G A Q pc lv (.long x :: rest) ws kc ks := fun H locs ls hP hD hS hl => lv_l2i X.1 X.2.1 hdg hv (kz H locs ls hP hD hS hl)
theorem z_i2b (X : ZC p s m args meth c cc nL own G A ret nm) {lv : List (Nat × Value)} {x : Int32} {v : Int32} (hdg : decode cc pc = .ok (.i2b, 1)) (hv : x.toInt8.toInt32 = v) (kz : Z p l e R s m args below meth c nL G A Q (pc + 1) lv (.int v :: rest) ws kc ks) : Z p l e R s m args below meth c nL G A Q pc lv (.int x :: rest) ws kc ks := fun H locs ls hP hD hS hl => lv_i2b X.1 X.2.1 hdg hv (kz H locs ls hP hD hS hl)
theorem z_i2s (X : ZC p s m args meth c cc nL own G A ret nm) {lv : List (Nat × Value)} {x : Int32} {v : Int32} (hdg : decode cc pc = .ok (.i2s, 1)) (hv : x.toInt16.toInt32 = v) (kz : Z p l e R s m args below meth c nL G A Q (pc + 1) lv (.int v :: rest) ws kc ks) : Z p l e R s m args below meth c nL G A Q pc lv (.int x :: rest) ws kc ks := fun H locs ls hP hD hS hl => lv_i2s X.1 X.2.1 hdg hv (kz H locs ls hP hD hS hl)
theorem z_iushr (X : ZC p s m args meth c cc nL own G A ret nm) {lv : List (Nat × Value)} {x y v : Int32} (hdg : decode cc pc = .ok (.iushr, 1)) (hv : (x.toUInt32 >>> (y.toUInt32 &&& Int32.toUInt32 31)).toInt32 = v) (kz : Z p l e R s m args below meth c nL G A Q (pc + 1) lv (.int v :: rest) ws kc ks) : Z p l e R s m args below meth c nL G A Q pc lv (.int y :: .int x :: rest) ws kc ks := fun H locs ls hP hD hS hl => lv_iushr X.1 X.2.1 hdg hv (kz H locs ls hP hD hS hl)
theorem z_lushr (X : ZC p s m args meth c cc nL own G A ret nm) {lv : List (Nat × Value)} {x v : Int64} {y : Int32} (hdg : decode cc pc = .ok (.lushr, 1)) (hv : (x.toUInt64 >>> (y.toInt64.toUInt64 &&& Int64.toUInt64 63)).toInt64 = v) (kz : Z p l e R s m args below meth c nL G A Q (pc + 1) lv (.long v :: rest) ws kc ks) : Z p l e R s m args below meth c nL G A Q pc lv (.int y :: .long x :: rest) ws kc ks := fun H locs ls hP hD hS hl => lv_lushr X.1 X.2.1 hdg hv (kz H locs ls hP hD hS hl)
theorem z_lshl (X : ZC p s m args meth c cc nL own G A ret nm) {lv : List (Nat × Value)} {x v : Int64} {y : Int32} (hdg : decode cc pc = .ok (.lshl, 1)) (hv : x <<< (y.toInt64 &&& 63) = v) (kz : Z p l e R s m args below meth c nL G A Q (pc + 1) lv (.long v :: rest) ws kc ks) : Z p l e R s m args below meth c nL G A Q pc lv (.int y :: .long x :: rest) ws kc ks := fun H locs ls hP hD hS hl => lv_lshl X.1 X.2.1 hdg hv (kz H locs ls hP hD hS hl)
theorem z_dup (X : ZC p s m args meth c cc nL own G A ret nm) {lv : List (Nat × Value)} {va : Value} (hdg : decode cc pc = .ok (.dup, 1)) (hva : va.category = 1) (kz : Z p l e R s m args below meth c nL G A Q (pc + 1) lv (va :: va :: rest) ws kc ks) : Z p l e R s m args below meth c nL G A Q pc lv (va :: rest) ws kc ks := fun H locs ls hP hD hS hl => lv_dup X.1 X.2.1 hdg hva (kz H locs ls hP hD hS hl)
theorem z_pop (X : ZC p s m args meth c cc nL own G A ret nm) {lv : List (Nat × Value)} {va : Value} (hdg : decode cc pc = .ok (.pop, 1)) (hva : va.category = 1) (kz : Z p l e R s m args below meth c nL G A Q (pc + 1) lv (rest) ws kc ks) : Z p l e R s m args below meth c nL G A Q pc lv (va :: rest) ws kc ks := fun H locs ls hP hD hS hl => lv_pop X.1 X.2.1 hdg hva (kz H locs ls hP hD hS hl)
theorem z_dup2_11 (X : ZC p s m args meth c cc nL own G A ret nm) {lv : List (Nat × Value)} {va vb : Value} (hdg : decode cc pc = .ok (.dup2, 1)) (hva : va.category = 1) (hvb : vb.category = 1) (kz : Z p l e R s m args below meth c nL G A Q (pc + 1) lv (va :: vb :: va :: vb :: rest) ws kc ks) : Z p l e R s m args below meth c nL G A Q pc lv (va :: vb :: rest) ws kc ks := fun H locs ls hP hD hS hl => lv_dup2_11 X.1 X.2.1 hdg hva hvb (kz H locs ls hP hD hS hl)
theorem z_dup2_2 (X : ZC p s m args meth c cc nL own G A ret nm) {lv : List (Nat × Value)} {va : Value} (hdg : decode cc pc = .ok (.dup2, 1)) (hva : va.category = 2) (kz : Z p l e R s m args below meth c nL G A Q (pc + 1) lv (va :: va :: rest) ws kc ks) : Z p l e R s m args below meth c nL G A Q pc lv (va :: rest) ws kc ks := fun H locs ls hP hD hS hl => lv_dup2_2 X.1 X.2.1 hdg hva (kz H locs ls hP hD hS hl)
theorem z_if_eq (X : ZC p s m args meth c cc nL own G A ret nm) {lv : List (Nat × Value)} {x : Int32} {off : Int} {tgt : Nat} (hdg : decode cc pc = .ok (.ifCond .eq off, 3)) (ht : (pc : Int) + off = (tgt : Int)) (kt : x = 0 → Z p l e R s m args below meth c nL G A Q tgt lv rest ws kc ks) (kf : ¬ x = 0 → Z p l e R s m args below meth c nL G A Q (pc + 3) lv rest ws kc ks) : Z p l e R s m args below meth c nL G A Q pc lv (.int x :: rest) ws kc ks := fun H locs ls hP hD hS hl => lv_if_eq X.1 X.2.1 hdg ht (fun h => kt h H locs ls hP hD hS hl) (fun h => kf h H locs ls hP hD hS hl)
theorem z_icmp_eq (X : ZC p s m args meth c cc nL own G A ret nm) {lv : List (Nat × Value)} {x y : Int32} {off : Int} {tgt : Nat} (hdg : decode cc pc = .ok (.if_icmp .eq off, 3)) (ht : (pc : Int) + off = (tgt : Int)) (kt : x = y → Z p l e R s m args below meth c nL G A Q tgt lv rest ws kc ks) (kf : ¬ x = y → Z p l e R s m args below meth c nL G A Q (pc + 3) lv rest ws kc ks) : Z p l e R s m args below meth c nL G A Q pc lv (.int y :: .int x :: rest) ws kc ks := fun H locs ls hP hD hS hl => lv_icmp_eq X.1 X.2.1 hdg ht (fun h => kt h H locs ls hP hD hS hl) (fun h => kf h H locs ls hP hD hS hl)
theorem z_if_ne (X : ZC p s m args meth c cc nL own G A ret nm) {lv : List (Nat × Value)} {x : Int32} {off : Int} {tgt : Nat} (hdg : decode cc pc = .ok (.ifCond .ne off, 3)) (ht : (pc : Int) + off = (tgt : Int)) (kt : ¬ x = 0 → Z p l e R s m args below meth c nL G A Q tgt lv rest ws kc ks) (kf : x = 0 → Z p l e R s m args below meth c nL G A Q (pc + 3) lv rest ws kc ks) : Z p l e R s m args below meth c nL G A Q pc lv (.int x :: rest) ws kc ks := fun H locs ls hP hD hS hl => lv_if_ne X.1 X.2.1 hdg ht (fun h => kt h H locs ls hP hD hS hl) (fun h => kf h H locs ls hP hD hS hl)
theorem z_icmp_ne (X : ZC p s m args meth c cc nL own G A ret nm) {lv : List (Nat × Value)} {x y : Int32} {off : Int} {tgt : Nat} (hdg : decode cc pc = .ok (.if_icmp .ne off, 3)) (ht : (pc : Int) + off = (tgt : Int)) (kt : ¬ x = y → Z p l e R s m args below meth c nL G A Q tgt lv rest ws kc ks) (kf : x = y → Z p l e R s m args below meth c nL G A Q (pc + 3) lv rest ws kc ks) : Z p l e R s m args below meth c nL G A Q pc lv (.int y :: .int x :: rest) ws kc ks := fun H locs ls hP hD hS hl => lv_icmp_ne X.1 X.2.1 hdg ht (fun h => kt h H locs ls hP hD hS hl) (fun h => kf h H locs ls hP hD hS hl)
theorem z_if_lt (X : ZC p s m args meth c cc nL own G A ret nm) {lv : List (Nat × Value)} {x : Int32} {off : Int} {tgt : Nat} (hdg : decode cc pc = .ok (.ifCond .lt off, 3)) (ht : (pc : Int) + off = (tgt : Int)) (kt : x < 0 → Z p l e R s m args below meth c nL G A Q tgt lv rest ws kc ks) (kf : ¬ x < 0 → Z p l e R s m args below meth c nL G A Q (pc + 3) lv rest ws kc ks) : Z p l e R s m args below meth c nL G A Q pc lv (.int x :: rest) ws kc ks := fun H locs ls hP hD hS hl => lv_if_lt X.1 X.2.1 hdg ht (fun h => kt h H locs ls hP hD hS hl) (fun h => kf h H locs ls hP hD hS hl)
theorem z_icmp_lt (X : ZC p s m args meth c cc nL own G A ret nm) {lv : List (Nat × Value)} {x y : Int32} {off : Int} {tgt : Nat} (hdg : decode cc pc = .ok (.if_icmp .lt off, 3)) (ht : (pc : Int) + off = (tgt : Int)) (kt : x < y → Z p l e R s m args below meth c nL G A Q tgt lv rest ws kc ks) (kf : ¬ x < y → Z p l e R s m args below meth c nL G A Q (pc + 3) lv rest ws kc ks) : Z p l e R s m args below meth c nL G A Q pc lv (.int y :: .int x :: rest) ws kc ks := fun H locs ls hP hD hS hl => lv_icmp_lt X.1 X.2.1 hdg ht (fun h => kt h H locs ls hP hD hS hl) (fun h => kf h H locs ls hP hD hS hl)
theorem z_if_ge (X : ZC p s m args meth c cc nL own G A ret nm) {lv : List (Nat × Value)} {x : Int32} {off : Int} {tgt : Nat} (hdg : decode cc pc = .ok (.ifCond .ge off, 3)) (ht : (pc : Int) + off = (tgt : Int)) (kt : 0 ≤ x → Z p l e R s m args below meth c nL G A Q tgt lv rest ws kc ks) (kf : ¬ 0 ≤ x → Z p l e R s m args below meth c nL G A Q (pc + 3) lv rest ws kc ks) : Z p l e R s m args below meth c nL G A Q pc lv (.int x :: rest) ws kc ks := fun H locs ls hP hD hS hl => lv_if_ge X.1 X.2.1 hdg ht (fun h => kt h H locs ls hP hD hS hl) (fun h => kf h H locs ls hP hD hS hl)
theorem z_icmp_ge (X : ZC p s m args meth c cc nL own G A ret nm) {lv : List (Nat × Value)} {x y : Int32} {off : Int} {tgt : Nat} (hdg : decode cc pc = .ok (.if_icmp .ge off, 3)) (ht : (pc : Int) + off = (tgt : Int)) (kt : y ≤ x → Z p l e R s m args below meth c nL G A Q tgt lv rest ws kc ks) (kf : ¬ y ≤ x → Z p l e R s m args below meth c nL G A Q (pc + 3) lv rest ws kc ks) : Z p l e R s m args below meth c nL G A Q pc lv (.int y :: .int x :: rest) ws kc ks := fun H locs ls hP hD hS hl => lv_icmp_ge X.1 X.2.1 hdg ht (fun h => kt h H locs ls hP hD hS hl) (fun h => kf h H locs ls hP hD hS hl)
theorem z_if_gt (X : ZC p s m args meth c cc nL own G A ret nm) {lv : List (Nat × Value)} {x : Int32} {off : Int} {tgt : Nat} (hdg : decode cc pc = .ok (.ifCond .gt off, 3)) (ht : (pc : Int) + off = (tgt : Int)) (kt : 0 < x → Z p l e R s m args below meth c nL G A Q tgt lv rest ws kc ks) (kf : ¬ 0 < x → Z p l e R s m args below meth c nL G A Q (pc + 3) lv rest ws kc ks) : Z p l e R s m args below meth c nL G A Q pc lv (.int x :: rest) ws kc ks := fun H locs ls hP hD hS hl => lv_if_gt X.1 X.2.1 hdg ht (fun h => kt h H locs ls hP hD hS hl) (fun h => kf h H locs ls hP hD hS hl)
theorem z_icmp_gt (X : ZC p s m args meth c cc nL own G A ret nm) {lv : List (Nat × Value)} {x y : Int32} {off : Int} {tgt : Nat} (hdg : decode cc pc = .ok (.if_icmp .gt off, 3)) (ht : (pc : Int) + off = (tgt : Int)) (kt : y < x → Z p l e R s m args below meth c nL G A Q tgt lv rest ws kc ks) (kf : ¬ y < x → Z p l e R s m args below meth c nL G A Q (pc + 3) lv rest ws kc ks) : Z p l e R s m args below meth c nL G A Q pc lv (.int y :: .int x :: rest) ws kc ks := fun H locs ls hP hD hS hl => lv_icmp_gt X.1 X.2.1 hdg ht (fun h => kt h H locs ls hP hD hS hl) (fun h => kf h H locs ls hP hD hS hl)
theorem z_if_le (X : ZC p s m args meth c cc nL own G A ret nm) {lv : List (Nat × Value)} {x : Int32} {off : Int} {tgt : Nat} (hdg : decode cc pc = .ok (.ifCond .le off, 3)) (ht : (pc : Int) + off = (tgt : Int)) (kt : x ≤ 0 → Z p l e R s m args below meth c nL G A Q tgt lv rest ws kc ks) (kf : ¬ x ≤ 0 → Z p l e R s m args below meth c nL G A Q (pc + 3) lv rest ws kc ks) : Z p l e R s m args below meth c nL G A Q pc lv (.int x :: rest) ws kc ks := fun H locs ls hP hD hS hl => lv_if_le X.1 X.2.1 hdg ht (fun h => kt h H locs ls hP hD hS hl) (fun h => kf h H locs ls hP hD hS hl)
theorem z_icmp_le (X : ZC p s m args meth c cc nL own G A ret nm) {lv : List (Nat × Value)} {x y : Int32} {off : Int} {tgt : Nat} (hdg : decode cc pc = .ok (.if_icmp .le off, 3)) (ht : (pc : Int) + off = (tgt : Int)) (kt : x ≤ y → Z p l e R s m args below meth c nL G A Q tgt lv rest ws kc ks) (kf : ¬ x ≤ y → Z p l e R s m args below meth c nL G A Q (pc + 3) lv rest ws kc ks) : Z p l e R s m args below meth c nL G A Q pc lv (.int y :: .int x :: rest) ws kc ks := fun H locs ls hP hD hS hl => lv_icmp_le X.1 X.2.1 hdg ht (fun h => kt h H locs ls hP hD hS hl) (fun h => kf h H locs ls hP hD hS hl)
theorem z_goto (X : ZC p s m args meth c cc nL own G A ret nm) {lv : List (Nat × Value)} {off : Int} {tgt : Nat} (hdg : decode cc pc = .ok (.goto off, 3)) (ht : (pc : Int) + off = (tgt : Int)) (kz : Z p l e R s m args below meth c nL G A Q tgt lv rest ws kc ks) : Z p l e R s m args below meth c nL G A Q pc lv rest ws kc ks := fun H locs ls hP hD hS hl => lv_goto X.1 X.2.1 hdg ht (kz H locs ls hP hD hS hl)
theorem z_tableOut (X : ZC p s m args meth c cc nL own G A ret nm) {lv : List (Nat × Value)} {dflt lo hi : Int} {offs : Array Int} {len : Nat} {x : Int32} {tgt : Nat} (hdg : decode cc pc = .ok (.tableswitch dflt lo hi offs, len)) (h : x.toInt < lo ∨ hi < x.toInt) (ht : (pc : Int) + dflt = (tgt : Int)) (kz : Z p l e R s m args below meth c nL G A Q tgt lv rest ws kc ks) : Z p l e R s m args below meth c nL G A Q pc lv (.int x :: rest) ws kc ks := fun H locs ls hP hD hS hl => lv_tableOut X.1 X.2.1 hdg h ht (kz H locs ls hP hD hS hl)
theorem z_tableIn (X : ZC p s m args meth c cc nL own G A ret nm) {lv : List (Nat × Value)} {dflt lo hi : Int} {offs : Array Int} {len : Nat} {x : Int32} {off : Int} {tgt : Nat} (hdg : decode cc pc = .ok (.tableswitch dflt lo hi offs, len)) (h1 : ¬ x.toInt < lo) (h2 : ¬ hi < x.toInt) (ho : offs[(x.toInt - lo).toNat]? = some off) (ht : (pc : Int) + off = (tgt : Int)) (kz : Z p l e R s m args below meth c nL G A Q tgt lv rest ws kc ks) : Z p l e R s m args below meth c nL G A Q pc lv (.int x :: rest) ws kc ks := fun H locs ls hP hD hS hl => lv_tableIn X.1 X.2.1 hdg h1 h2 ho ht (kz H locs ls hP hD hS hl)
theorem z_lookup (X : ZC p s m args meth c cc nL own G A ret nm) {lv : List (Nat × Value)} {dflt : Int} {ps : Array (Int × Int)} {len : Nat} {x : Int32} {off : Int} {tgt : Nat} (hdg : decode cc pc = .ok (.lookupswitch dflt ps, len)) (hp : (ps.toList.zip (ps.toList.drop 1)).all (fun (a, next) => a.1 < next.1) = true) (ho : Op.lookupswitch.offset ps.toList dflt x.toInt = off) (ht : (pc : Int) + off = (tgt : Int)) (kz : Z p l e R s m args below meth c nL G A Q tgt lv rest ws kc ks) : Z p l e R s m args below meth c nL G A Q pc lv (.int x :: rest) ws kc ks := fun H locs ls hP hD hS hl => lv_lookup X.1 X.2.1 hdg hp ho ht (kz H locs ls hP hD hS hl)
theorem z_ifnonnull (X : ZC p s m args meth c cc nL own G A ret nm) {lv : List (Nat × Value)} {x : Nat} {off : Int} {tgt : Nat} (hdg : decode cc pc = .ok (.ifnonnull off, 3)) (ht : (pc : Int) + off = (tgt : Int)) (kz : Z p l e R s m args below meth c nL G A Q tgt lv rest ws kc ks) : Z p l e R s m args below meth c nL G A Q pc lv (.ref x :: rest) ws kc ks := fun H locs ls hP hD hS hl => lv_ifnonnull X.1 X.2.1 hdg ht (kz H locs ls hP hD hS hl)
theorem z_ifnull (X : ZC p s m args meth c cc nL own G A ret nm) {lv : List (Nat × Value)} {x : Nat} {off : Int} (hdg : decode cc pc = .ok (.ifnull off, 3)) (kz : Z p l e R s m args below meth c nL G A Q (pc + 3) lv rest ws kc ks) : Z p l e R s m args below meth c nL G A Q pc lv (.ref x :: rest) ws kc ks := fun H locs ls hP hD hS hl => lv_ifnull X.1 X.2.1 hdg (kz H locs ls hP hD hS hl)
theorem z_ifnullN (X : ZC p s m args meth c cc nL own G A ret nm) {lv : List (Nat × Value)} {off : Int} {tgt : Nat} (hdg : decode cc pc = .ok (.ifnull off, 3)) (ht : (pc : Int) + off = (tgt : Int)) (kz : Z p l e R s m args below meth c nL G A Q tgt lv rest ws kc ks) : Z p l e R s m args below meth c nL G A Q pc lv (.null :: rest) ws kc ks := fun H locs ls hP hD hS hl => lv_ifnullN X.1 X.2.1 hdg ht (kz H locs ls hP hD hS hl)
theorem z_ifnonnullN (X : ZC p s m args meth c cc nL own G A ret nm) {lv : List (Nat × Value)} {off : Int} (hdg : decode cc pc = .ok (.ifnonnull off, 3)) (kz : Z p l e R s m args below meth c nL G A Q (pc + 3) lv rest ws kc ks) : Z p l e R s m args below meth c nL G A Q pc lv (.null :: rest) ws kc ks := fun H locs ls hP hD hS hl => lv_ifnonnullN X.1 X.2.1 hdg (kz H locs ls hP hD hS hl)
theorem z_lcmp (X : ZC p s m args meth c cc nL own G A ret nm) {lv : List (Nat × Value)} {x y : Int64} (hdg : decode cc pc = .ok (.lcmp, 1)) (kz : Z p l e R s m args below meth c nL G A Q (pc + 1) lv (.int (lg_cmp x y) :: rest) ws kc ks) : Z p l e R s m args below meth c nL G A Q pc lv (.long y :: .long x :: rest) ws kc ks := fun H locs ls hP hD hS hl => W.lcmp X.1 X.2.1 hdg (kz H locs ls hP hD hS hl)
theorem z_ldc (X : ZC p s m args meth c cc nL own G A ret nm) {lv : List (Nat × Value)} {index : Nat} {v : Int32} (hdg : decode cc pc = .ok (.ldc index, 2)) (hc : Jvm.Cond.constant own index v ∈ BIG) (kz : Z p l e R s m args below meth c nL G A Q (pc + 2) lv (.int v :: rest) ws kc ks) : Z p l e R s m args below meth c nL G A Q pc lv rest ws kc ks := fun H locs ls hP hD hS hl => lv_ldc X.1 X.2.1 X.2.2.2.1 (X.2.2.2.2.1 _ hc) hdg (kz H locs ls hP hD hS hl)
theorem z_ldcw (X : ZC p s m args meth c cc nL own G A ret nm) {lv : List (Nat × Value)} {index : Nat} {v : Int32} (hdg : decode cc pc = .ok (.ldc_w index, 3)) (hc : Jvm.Cond.constant own index v ∈ BIG) (kz : Z p l e R s m args below meth c nL G A Q (pc + 3) lv (.int v :: rest) ws kc ks) : Z p l e R s m args below meth c nL G A Q pc lv rest ws kc ks := fun H locs ls hP hD hS hl => lv_ldcw X.1 X.2.1 X.2.2.2.1 (X.2.2.2.2.1 _ hc) hdg (kz H locs ls hP hD hS hl)
theorem z_ldc2 (X : ZC p s m args meth c cc nL own G A ret nm) {lv : List (Nat × Value)} {index : Nat} {v : Int64} (hdg : decode cc pc = .ok (.ldc2_w index, 3)) (hc : Jvm.Cond.constantLong own index v ∈ BIG) (kz : Z p l e R s m args below meth c nL G A Q (pc + 3) lv (.long v :: rest) ws kc ks) : Z p l e R s m args below meth c nL G A Q pc lv rest ws kc ks := fun H locs ls hP hD hS hl => lv_ldc2 X.1 X.2.1 X.2.2.2.1 (X.2.2.2.2.1 _ hc) hdg (kz H locs ls hP hD hS hl)
/-- the same state, told otherwise -/
theorem Z.cg {lv lv' : List (Nat × Value)} {st st' : List Value} {ws ws' : va_W} (h1 : lv = lv') (h2 : st = st') (h3 : ws = ws') (kz : Z p l e R s m args below meth c nL G A Q pc lv' st' ws' kc ks) : Z p l e R s m args below meth c nL G A Q pc lv st ws kc ks := by subst h1; subst h2; subst h3; exact kz
theorem Z.at {lv : List (Nat × Value)} {pc' : Nat} {st' : List Value} {ws' : va_W} {kc' ks' : Nat} (h0 : pc = pc') (h1 : st = st') (h2 : ws = ws') (h3 : kc = kc') (h4 : ks = ks') (kz : Z p l e R s m args below meth c nL G A Q pc' lv st' ws' kc' ks') : Z p l e R s m args below meth c nL G A Q pc lv st ws kc ks := by subst h0; subst h1; subst h2; subst h3; subst h4; exact kz
/-- fewer locals, fewer cells, in another order -/
theorem Z.sub {lv lv' : List (Nat × Value)} {ws ws' : va_W} (il : List Nat) (hl : lv_pick lv il = lv') (is : List Nat) (hw : is.map (fun i => ws[i]?) = ws'.map some) (hn : va_nd is = true) (kz : Z p l e R s m args below meth c nL G A Q pc lv' st ws' kc ks) : Z p l e R s m args below meth c nL G A Q pc lv st ws kc ks := by
  intro H locs ls hP hD hS hh
  refine kz H locs ls ?_ (hD.sub is hn hw) hS (lv_sub hh il hl)
  intro k q hk
  have h1 : (is.map (fun i => ws[i]?))[k]? = some (some q) := by rw [hw, List.getElem?_map, hk]; rfl
  rw [List.getElem?_map] at h1
  cases hi : is[k]? with
  | none => rw [hi] at h1; cases h1
  | some i => rw [hi] at h1; exact hP i q (Option.some.inj h1)
theorem Z.widen {lv : List (Nat × Value)} {k2 s2 : Nat} (h1 : kc ≤ k2) (h2 : ks ≤ s2) (kz : Z p l e R s m args below meth c nL G A Q pc lv st ws k2 s2) : Z p l e R s m args below meth c nL G A Q pc lv st ws kc ks := fun H locs ls hP hD hS hl => W.widen h1 h2 (kz H locs ls hP hD hS hl)
/-- a field of a class by its place in the constant pool -/
def FL (own : String) (idx ci k : Nat) : Prop := ∃ (C : String) (T : u_T) (N : Nat) (ty0 : Nat → FieldType), vwCl[ci]? = some (C, T, N) ∧ k < N ∧ (∀ w ∈ u_ws C T N, w ∈ BIG) ∧ Cond.fieldLink own idx (T k).1 (T k).2.1 (T k).2.2.1 ∈ BIG ∧ (∀ k, k < N → parseFieldDescriptor (T k).2.2.1 = some (ty0 k)) ∧ (∀ a, a < N → ∀ b, b < N → a ≠ b → (T a).2.1 ≠ (T b).2.1)
def FN (own : String) (idx ci k : Nat) : Prop := ∃ (C : String) (T : u_T) (N : Nat) (ty0 : Nat → FieldType) (host : String), vwCl[ci]? = some (C, T, N) ∧ k < N ∧ (∀ w ∈ u_ws C T N, w ∈ BIG) ∧ Cond.fieldLinkNest own idx (T k).1 (T k).2.1 (T k).2.2.1 host ∈ NW ∧ (∀ k, k < N → parseFieldDescriptor (T k).2.2.1 = some (ty0 k)) ∧ (∀ a, a < N → ∀ b, b < N → a ≠ b → (T a).2.1 ≠ (T b).2.1)
theorem z_get (X : ZC p s m args meth c cc nL own G A ret nm) {lv : List (Nat × Value)} {idx ci k : Nat} {a : Nat} (F : FL own idx ci k) (hdg : decode cc pc = .ok (.getfield idx, 3)) (q0 : Nat) {fs : List Value} (he : ws[q0]? = some (a, .inr (ci, fs))) {v : Value} (hv : fs[k]? = some v) (kz : Z p l e R s m args below meth c nL G A Q (pc + 3) lv (v :: rest) ws kc ks) : Z p l e R s m args below meth c nL G A Q pc lv (.ref a :: rest) ws kc ks := by
  obtain ⟨C, T, N, ty0, hc, hk, hin, hlk, -, -⟩ := F
  intro H locs ls hP hD hS hl
  exact va_get X.1 X.2.1 X.2.2.2.2.1 hin X.2.2.2.1 X.2.2.2.2.2.1.1 hP q0 he hc k hk (X.2.2.2.2.1 _ hlk) (fun _ h9 => h9) hv hdg (kz H locs ls hP hD hS hl)
theorem z_getN (X : ZC p s m args meth c cc nL own G A ret nm) {lv : List (Nat × Value)} {idx ci k : Nat} {a : Nat} (F : FN own idx ci k) (hdg : decode cc pc = .ok (.getfield idx, 3)) (q0 : Nat) {fs : List Value} (he : ws[q0]? = some (a, .inr (ci, fs))) {v : Value} (hv : fs[k]? = some v) (kz : Z p l e R s m args below meth c nL G A Q (pc + 3) lv (v :: rest) ws kc ks) : Z p l e R s m args below meth c nL G A Q pc lv (.ref a :: rest) ws kc ks := by
  obtain ⟨C, T, N, ty0, host, hc, hk, hin, hlk, -, -⟩ := F
  intro H locs ls hP hD hS hl
  exact va_getN X.1 X.2.1 X.2.2.2.2.1 hin X.2.2.2.1 X.2.2.2.2.2.1.1 hP q0 he hc k hk (X.2.2.2.2.2.1.2.use hlk) (fun _ h9 => h9) hv hdg (kz H locs ls hP hD hS hl)
theorem z_put (X : ZC p s m args meth c cc nL own G A ret nm) {lv : List (Nat × Value)} {idx ci k : Nat} {a : Nat} (F : FL own idx ci k) (hdg : decode cc pc = .ok (.putfield idx, 3)) (q0 : Nat) {fs : List Value} (he : ws[q0]? = some (a, .inr (ci, fs))) {ty : FieldType} {v : Value} {C : String} {T : u_T} {N : Nat} (hT : vwCl[ci]? = some (C, T, N)) (hf : (T k).2.2.2 = false ∨ ((T k).2.2.2 = true ∧ nm = "<init>" ∧ (T k).1 = own)) (hd : parseFieldDescriptor (T k).2.2.1 = some ty) (hn : narrow ty v = v) (hfit : fits ty v = true) (hl0 : k < fs.length) {ws' : va_W} (hw : ws.set q0 (a, .inr (ci, fs.set k v)) = ws') (kz : Z p l e R s m args below meth c nL G A Q (pc + 3) lv rest ws' kc ks) : Z p l e R s m args below meth c nL G A Q pc lv (v :: .ref a :: rest) ws kc ks := by
  obtain ⟨C', T', N', ty0, hc, hk, hin, hlk, hty, hnm⟩ := F
  rw [hT] at hc
  cases hc
  subst hw
  intro H locs ls hP hD hS hl
  rcases hf with hf | ⟨hf, hf2, hf3⟩
  · exact va_put X.1 X.2.1 X.2.2.2.2.1 hin ty0 hty hnm X.2.2.2.1 X.2.2.2.2.2.1.1 hP hD hS q0 he hT k hk (X.2.2.2.2.1 _ hlk) (fun _ h9 => h9) hf hd hn hfit hl0 hdg (fun H1 locs1 hP hD hS => kz H1 locs1 ls hP hD hS hl)
  · exact va_putF X.1 X.2.1 X.2.2.2.2.1 hin ty0 hty hnm X.2.2.2.1 X.2.2.2.2.2.1.1 hP hD hS q0 he hT k hk (X.2.2.2.2.1 _ hlk) (fun _ h9 => h9) hf (X.2.2.2.2.2.2.2.2.2.trans hf2) hf3 hd hn hfit hl0 hdg (fun H1 locs1 hP hD hS => kz H1 locs1 ls hP hD hS hl)
theorem z_putN (X : ZC p s m args meth c cc nL own G A ret nm) {lv : List (Nat × Value)} {idx ci k : Nat} {a : Nat} (F : FN own idx ci k) (hdg : decode cc pc = .ok (.putfield idx, 3)) (q0 : Nat) {fs : List Value} (he : ws[q0]? = some (a, .inr (ci, fs))) {ty : FieldType} {v : Value} {C : String} {T : u_T} {N : Nat} (hT : vwCl[ci]? = some (C, T, N)) (hf : (T k).2.2.2 = false) (hd : parseFieldDescriptor (T k).2.2.1 = some ty) (hn : narrow ty v = v) (hfit : fits ty v = true) (hl0 : k < fs.length) {ws' : va_W} (hw : ws.set q0 (a, .inr (ci, fs.set k v)) = ws') (kz : Z p l e R s m args below meth c nL G A Q (pc + 3) lv rest ws' kc ks) : Z p l e R s m args below meth c nL G A Q pc lv (v :: .ref a :: rest) ws kc ks := by
  obtain ⟨C', T', N', ty0, host, hc, hk, hin, hlk, hty, hnm⟩ := F
  rw [hT] at hc
  cases hc
  subst hw
  intro H locs ls hP hD hS hl
  exact va_putN X.1 X.2.1 X.2.2.2.2.1 hin ty0 hty hnm X.2.2.2.1 X.2.2.2.2.2.1.1 hP hD hS q0 he hT k hk (X.2.2.2.2.2.1.2.use hlk) (fun _ h9 => h9) hf hd hn hfit hl0 hdg (fun H1 locs1 hP hD hS => kz H1 locs1 ls hP hD hS hl)
theorem z_iald (X : ZC p s m args meth c cc nL own G A ret nm) {lv : List (Nat × Value)} {a n : Nat} (hdg : decode cc pc = .ok (.iaload, 1)) (q0 : Nat) {f : Nat → Int32} (ha : ws[q0]? = some (a, aI G n f)) {i : Int32} (hin : vp_in i n) {v : Int32} (hv : f i.toNatClampNeg = v) (kz : Z p l e R s m args below meth c nL G A Q (pc + 1) lv (.int v :: rest) ws kc ks) : Z p l e R s m args below meth c nL G A Q pc lv (.int i :: .ref a :: rest) ws kc ks := by
  subst hv
  exact fun H locs ls hP hD hS hl => va_iald X.1 X.2.1 X.2.2.2.2.2.1.1 hP q0 0 ha rfl hin hdg (kz H locs ls hP hD hS hl)
theorem z_lald (X : ZC p s m args meth c cc nL own G A ret nm) {lv : List (Nat × Value)} {a n : Nat} (hdg : decode cc pc = .ok (.laload, 1)) (q0 : Nat) {f : Nat → Int64} (ha : ws[q0]? = some (a, aJ G n f)) {i : Int32} (hin : vp_in i n) {v : Int64} (hv : f i.toNatClampNeg = v) (kz : Z p l e R s m args below meth c nL G A Q (pc + 1) lv (.long v :: rest) ws kc ks) : Z p l e R s m args below meth c nL G A Q pc lv (.int i :: .ref a :: rest) ws kc ks := by
  subst hv
  exact fun H locs ls hP hD hS hl => va_lald X.1 X.2.1 X.2.2.2.2.2.1.1 hP q0 1 ha rfl hin hdg (kz H locs ls hP hD hS hl)
theorem z_zald (X : ZC p s m args meth c cc nL own G A ret nm) {lv : List (Nat × Value)} {a n : Nat} (hdg : decode cc pc = .ok (.baload, 1)) (q0 : Nat) {f : Nat → Int32} (ha : ws[q0]? = some (a, aZ G n f)) {i : Int32} (hin : vp_in i n) {v : Int32} (hv : f i.toNatClampNeg = v) (kz : Z p l e R s m args below meth c nL G A Q (pc + 1) lv (.int v :: rest) ws kc ks) : Z p l e R s m args below meth c nL G A Q pc lv (.int i :: .ref a :: rest) ws kc ks := by
  subst hv
  exact fun H locs ls hP hD hS hl => va_zald X.1 X.2.1 X.2.2.2.2.2.1.1 hP q0 2 ha rfl hin hdg (kz H locs ls hP hD hS hl)
theorem z_oald (X : ZC p s m args meth c cc nL own G A ret nm) {lv : List (Nat × Value)} {a n : Nat} (hdg : decode cc pc = .ok (.aaload, 1)) (q0 : Nat) {f : Nat → Option Nat} (ha : ws[q0]? = some (a, aO G n f)) {i : Int32} (hin : vp_in i n) {v : Value} (hv : va_rf (f i.toNatClampNeg) = v) (kz : Z p l e R s m args below meth c nL G A Q (pc + 1) lv (v :: rest) ws kc ks) : Z p l e R s m args below meth c nL G A Q pc lv (.int i :: .ref a :: rest) ws kc ks := by
  subst hv
  exact fun H locs ls hP hD hS hl => va_aldq X.1 X.2.1 X.2.2.2.2.2.1.1 hP q0 3 ha rfl hin hdg (kz H locs ls hP hD hS hl)
theorem z_iast (X : ZC p s m args meth c cc nL own G A ret nm) {lv : List (Nat × Value)} {a n : Nat} (hdg : decode cc pc = .ok (.iastore, 1)) (q0 : Nat) {f : Nat → Int32} (ha : ws[q0]? = some (a, aI G n f)) {i x : Int32} (hin : vp_in i n) {ws' : va_W} (hw : ws.set q0 (a, aI G n (upd f i.toNatClampNeg x)) = ws') (kz : Z p l e R s m args below meth c nL G A Q (pc + 1) lv rest ws' kc ks) : Z p l e R s m args below meth c nL G A Q pc lv (.int x :: .int i :: .ref a :: rest) ws kc ks := by
  subst hw
  exact fun H locs ls hP hD hS hl => va_iast X.1 X.2.1 X.2.2.2.2.2.1.1 hP hD hS q0 0 ha rfl hin hdg (fun H1 locs1 hP hD hS => kz H1 locs1 ls hP hD hS hl)
theorem z_last (X : ZC p s m args meth c cc nL own G A ret nm) {lv : List (Nat × Value)} {a n : Nat} (hdg : decode cc pc = .ok (.lastore, 1)) (q0 : Nat) {f : Nat → Int64} (ha : ws[q0]? = some (a, aJ G n f)) {i : Int32} {x : Int64} (hin : vp_in i n) {ws' : va_W} (hw : ws.set q0 (a, aJ G n (vp_updL f i.toNatClampNeg x)) = ws') (kz : Z p l e R s m args below meth c nL G A Q (pc + 1) lv rest ws' kc ks) : Z p l e R s m args below meth c nL G A Q pc lv (.long x :: .int i :: .ref a :: rest) ws kc ks := by
  subst hw
  exact fun H locs ls hP hD hS hl => va_last X.1 X.2.1 X.2.2.2.2.2.1.1 hP hD hS q0 1 ha rfl hin hdg (fun H1 locs1 hP hD hS => kz H1 locs1 ls hP hD hS hl)
theorem z_zast (X : ZC p s m args meth c cc nL own G A ret nm) {lv : List (Nat × Value)} {a n : Nat} (hdg : decode cc pc = .ok (.bastore, 1)) (q0 : Nat) {f : Nat → Int32} (ha : ws[q0]? = some (a, aZ G n f)) {i x : Int32} (hin : vp_in i n) {ws' : va_W} (hw : ws.set q0 (a, aZ G n (upd f i.toNatClampNeg (vp_nar .boolean x))) = ws') (kz : Z p l e R s m args below meth c nL G A Q (pc + 1) lv rest ws' kc ks) : Z p l e R s m args below meth c nL G A Q pc lv (.int x :: .int i :: .ref a :: rest) ws kc ks := by
  subst hw
  exact fun H locs ls hP hD hS hl => va_zast X.1 X.2.1 X.2.2.2.2.2.1.1 hP hD hS q0 2 ha rfl hin hdg (fun H1 locs1 hP hD hS => kz H1 locs1 ls hP hD hS hl)
theorem z_oast (X : ZC p s m args meth c cc nL own G A ret nm) {lv : List (Nat × Value)} {a n v qk ci : Nat} (hdg : decode cc pc = .ok (.aastore, 1)) (q0 : Nat) {f : Nat → Option Nat} {vs : List Value} {r : vw_C} (ha : ws[q0]? = some (a, aO G n f)) (hr : r.1 = "StoneThatShakes$Kept") (hv : ws[qk]? = some (v, .inr (ci, vs))) (hc : vwCl[ci]? = some r) {i : Int32} (hin : vp_in i n) {ws' : va_W} (hw : ws.set q0 (a, aO G n (va_up f i.toNatClampNeg (some v))) = ws') (kz : Z p l e R s m args below meth c nL G A Q (pc + 1) lv rest ws' kc ks) : Z p l e R s m args below meth c nL G A Q pc lv (.ref v :: .int i :: .ref a :: rest) ws kc ks := by
  subst hw
  exact fun H locs ls hP hD hS hl => va_astq X.1 X.2.1 X.2.2.2.2.2.1.1 hP hD hS q0 3 qk ci ha (by rw [hr]; rfl) hv hc hin hdg (fun H1 locs1 hP hD hS => kz H1 locs1 ls hP hD hS hl)
theorem z_alen (X : ZC p s m args meth c cc nL own G A ret nm) {lv : List (Nat × Value)} {a : Nat} (hdg : decode cc pc = .ok (.arraylength, 1)) (q0 t0 : Nat) {cA : ClassId} {x : vp_A} (ha : ws[q0]? = some (a, .inl (cA, x))) {ty : FieldType} (ht : (TYS G)[t0]? = some (cA, ty)) {v : Int32} (hv : Int32.ofNat x.1 = v) (kz : Z p l e R s m args below meth c nL G A Q (pc + 1) lv (.int v :: rest) ws kc ks) : Z p l e R s m args below meth c nL G A Q pc lv (.ref a :: rest) ws kc ks :=
  fun H locs ls hP hD hS hl => va_alen X.1 X.2.1 X.2.2.2.2.2.1.1 hP q0 t0 ha ht hv hdg (kz H locs ls hP hD hS hl)
end ZROWS
section ZRET
variable {p : Program} {l : Launch} {e : Env} {R : Room} {s : State} {m : MethodId} {args : Array Value} {below : List Frame} {meth : Method} {c : Code} {nL : Nat} {G : KG} {A : Nat → Prop} {Q : State → Prop} {cc : ByteArray} {own : String} {ret : Option FieldType} {nm : String}
variable {pc : Nat} {rest st : List Value} {ws : va_W} {kc ks mc ms : Nat} {lv : List (Nat × Value)} {post : Option Value → va_W → Prop}
theorem z_iret (X : ZC p s m args meth c cc nL own G A ret nm) {v : Int32} (hr : ret = some .int) (hdg : decode cc pc = .ok (.ireturn, 1)) (hc : kc ≤ mc) (hs : ks ≤ ms) (hq : post (some (.int v)) ws) : Z p l e R s m args below meth c nL G A (MQ below (QQ G A post) args s mc ms A) pc lv [.int v] ws kc ks :=
  fun _ _ _ hP hD hS _ => W.widen hc hs (W.iret (v := v) X.1 X.2.1 (X.2.2.2.2.2.2.2.2.1.trans hr) (fun t ht _ => ⟨⟨_, ws, rfl, hq, by rw [ht]; exact hP, hD⟩, hS.F ht⟩) hS.2.2 hdg X.2.2.2.2.2.2.2.1)
theorem z_zret (X : ZC p s m args meth c cc nL own G A ret nm) {v : Int32} {ty : FieldType} (hr : ret = some ty) (hn : narrow ty (.int v) = .int v) (hdg : decode cc pc = .ok (.ireturn, 1)) (hc : kc ≤ mc) (hs : ks ≤ ms) (hq : post (some (.int v)) ws) : Z p l e R s m args below meth c nL G A (MQ below (QQ G A post) args s mc ms A) pc lv [.int v] ws kc ks :=
  fun _ _ _ hP hD hS _ => W.widen hc hs (W.zret (v := v) X.1 X.2.1 (X.2.2.2.2.2.2.2.2.1.trans hr) hn (fun t ht _ => ⟨⟨_, ws, rfl, hq, by rw [ht]; exact hP, hD⟩, hS.F ht⟩) hS.2.2 hdg X.2.2.2.2.2.2.2.1)
theorem z_lret (X : ZC p s m args meth c cc nL own G A ret nm) {v : Int64} (hr : ret = some .long) (hdg : decode cc pc = .ok (.lreturn, 1)) (hc : kc ≤ mc) (hs : ks ≤ ms) (hq : post (some (.long v)) ws) : Z p l e R s m args below meth c nL G A (MQ below (QQ G A post) args s mc ms A) pc lv [.long v] ws kc ks :=
  fun _ _ _ hP hD hS _ => W.widen hc hs (W.lret (v := v) X.1 X.2.1 (X.2.2.2.2.2.2.2.2.1.trans hr) (fun t ht _ => ⟨⟨_, ws, rfl, hq, by rw [ht]; exact hP, hD⟩, hS.F ht⟩) hS.2.2 hdg X.2.2.2.2.2.2.2.1)
theorem z_aret (X : ZC p s m args meth c cc nL own G A ret nm) {a : Nat} {rt : FieldType} (hr : ret = some rt) (hrt : (∃ n, rt = .object n) ∨ ∃ t, rt = .array t) (hdg : decode cc pc = .ok (.areturn, 1)) (hc : kc ≤ mc) (hs : ks ≤ ms) (hq : post (some (.ref a)) ws) : Z p l e R s m args below meth c nL G A (MQ below (QQ G A post) args s mc ms A) pc lv [.ref a] ws kc ks :=
  fun _ _ _ hP hD hS _ => W.widen hc hs (W.aret X.1 X.2.1 (X.2.2.2.2.2.2.2.2.1.trans hr) hrt (Or.inr ⟨a, rfl⟩) (fun t ht _ => ⟨⟨_, ws, rfl, hq, by rw [ht]; exact hP, hD⟩, hS.F ht⟩) hS.2.2 hdg X.2.2.2.2.2.2.2.1)
theorem z_vret (X : ZC p s m args meth c cc nL own G A ret nm) (hr : ret = none) (hdg : decode cc pc = .ok (.return_, 1)) (hc : kc ≤ mc) (hs : ks ≤ ms) (hq : post none ws) : Z p l e R s m args below meth c nL G A (MQ below (QQ G A post) args s mc ms A) pc lv [] ws kc ks :=
  fun _ _ _ hP hD hS _ => W.widen hc hs (W.vret X.1 X.2.1 (X.2.2.2.2.2.2.2.2.1.trans hr) (fun t ht _ => ⟨⟨_, ws, rfl, hq, by rw [ht]; exact hP, hD⟩, hS.F ht⟩) hS.2.2 hdg X.2.2.2.2.2.2.2.1)
/-- a nested world of the whole -/
theorem va_Ppick {D : va_G} {cl : List vw_C} {ws ws' : va_W} {H : Heap} (hP : va_P D cl ws H) (is : List Nat) (hw : is.map (fun i => ws[i]?) = ws'.map some) : va_P D cl ws' H := by
  intro k q hk
  have h1 : (is.map (fun i => ws[i]?))[k]? = some (some q) := by rw [hw, List.getElem?_map, hk]; rfl
  rw [List.getElem?_map] at h1
  cases hi : is[k]? with
  | none => rw [hi] at h1; cases h1
  | some i => rw [hi] at h1; exact hP i q (Option.some.inj h1)
set_option maxHeartbeats 1000000 in
theorem z_cont {H : Heap} {locs : List Loc} {ls : Array Slot} {w0 wr : va_W} {a : Array Value} (hr : va_Run p l e R s m args below meth c H locs kc ks mc ms (F0 m pc ls st) rest (Qcx G w0 H.size post a) (va_A w0 H.size)) (hA0 : ∀ q : Nat, s.heap.size ≤ q → A q) (hP : va_P G.1 vwCl ws H) (hD : va_D A ws) (hS : va_S A s.heap H locs) (hl : lv_has ls nL lv) (isC isR : List Nat) (hC : isC.map (fun i => ws[i]?) = w0.map some) (hR : isR.map (fun i => ws[i]?) = wr.map some) (hn : va_nd isR = true) (hdis : (isR.all fun i => decide (i ∉ isC)) = true)
    (kk : ∀ (r : Option Value) (w1 : va_W), post r w1 → Z p l e R s m args below meth c nL G A Q (pc + 3) lv (r.toList ++ rest) (wr ++ w1) (kc + mc) (ks + ms)) : W p l e R s m args below meth c H locs kc ks Q (F0 m pc ls st) := by
  have hF : ∀ q, va_A w0 H.size q → A q := va_free hD hS hA0 isC hC
  intro T hT X
  obtain ⟨v, st₀, t, T', L, h0, X', hL, e1, e2, ⟨⟨r, w1, hv, hp, hP1, hD1⟩, hz, hk⟩, stp⟩ := hr T hT X
  cases hv
  rw [h0] at hz hk
  have hk1 : ∀ q : Nat, q < H.size → ¬ va_A w0 H.size q → t.heap[q]? = H[q]? := hk
  obtain ⟨hP2, hD2⟩ := va_join hP hD isC isR hC hR hn (fun i hi => of_decide_eq_true (List.all_eq_true.mp hdis i hi)) hk1 hF hP1 hD1
  have hS2 : va_S A s.heap t.heap (locs ++ L) := ⟨Nat.le_trans hS.1 hz, fun q h1 h2 => (hk q (Nat.lt_of_lt_of_le h1 hS.1) (fun z => h2 (hF q z))).trans (hS.2.1 q h1 h2), fun q hq => by
      rcases List.mem_append.mp hq with h | h
      · exact hS.2.2 q h
      · exact hF _ (hL q h)⟩
  obtain ⟨t2, a1, b1⟩ := kk v w1 hp t.heap (locs ++ L) ls hP2 hD2 hS2 hl T' e1 X'
  exact ⟨t2, stp t2 a1, b1⟩
/-- a method by its place in the constant pool: by a virtual call, a static one, a constructor; of a nest mate -/
def LkV (own : String) (idx : Nat) (C : String) (y : MethodName) (cc : ByteArray) (maxL : Nat) (ret : Option FieldType) (n : Nat) : Prop := Cond.methodLink own idx y ∈ BIG ∧ Cond.instanceMethod y ∈ BIG ∧ Cond.selects C y y ∈ BIG ∧ Cond.initialized C ∈ BIG ∧ Cond.code y cc maxL ret ∈ BIG ∧ y.cls = C ∧ y.cls ≠ "java/lang/invoke/MethodHandle" ∧ y.cls ≠ "java/lang/invoke/VarHandle" ∧ (parseMethodDescriptor y.desc).map (fun d => d.parameters.length) = some n
def LkS (own : String) (idx : Nat) (y : MethodName) (cc : ByteArray) (maxL : Nat) (ret : Option FieldType) (n : Nat) : Prop := Cond.methodLink own idx y ∈ BIG ∧ Cond.static y ∈ BIG ∧ Cond.initialized y.cls ∈ BIG ∧ Cond.code y cc maxL ret ∈ BIG ∧ y.cls ≠ "java/lang/invoke/MethodHandle" ∧ y.cls ≠ "java/lang/invoke/VarHandle" ∧ (parseMethodDescriptor y.desc).map (fun d => d.parameters.length) = some n
def LkI (own : String) (idx : Nat) (y : MethodName) (cc : ByteArray) (maxL : Nat) (n : Nat) : Prop := Cond.methodLink own idx y ∈ BIG ∧ Cond.instanceMethod y ∈ BIG ∧ Cond.initialized y.cls ∈ BIG ∧ Cond.code y cc maxL none ∈ BIG ∧ y.name = "<init>" ∧ y.cls ≠ "java/lang/invoke/MethodHandle" ∧ y.cls ≠ "java/lang/invoke/VarHandle" ∧ (parseMethodDescriptor y.desc).map (fun d => d.parameters.length) = some n
def LnV (own : String) (idx : Nat) (C : String) (y : MethodName) (cc : ByteArray) (maxL : Nat) (ret : Option FieldType) (n : Nat) : Prop := (∃ host : String, Cond.methodLinkNest own idx y host ∈ NW) ∧ Cond.instanceMethod y ∈ BIG ∧ Cond.selects C y y ∈ BIG ∧ Cond.initialized y.cls ∈ BIG ∧ Cond.code y cc maxL ret ∈ BIG ∧ y.cls ≠ "java/lang/invoke/MethodHandle" ∧ y.cls ≠ "java/lang/invoke/VarHandle" ∧ (parseMethodDescriptor y.desc).map (fun d => d.parameters.length) = some n
def LnS (own : String) (idx : Nat) (y : MethodName) (cc : ByteArray) (maxL : Nat) (ret : Option FieldType) (n : Nat) : Prop := (∃ host : String, Cond.methodLinkNest own idx y host ∈ NW) ∧ Cond.static y ∈ BIG ∧ Cond.initialized y.cls ∈ BIG ∧ Cond.code y cc maxL ret ∈ BIG ∧ y.cls ≠ "java/lang/invoke/MethodHandle" ∧ y.cls ≠ "java/lang/invoke/VarHandle" ∧ (parseMethodDescriptor y.desc).map (fun d => d.parameters.length) = some n
def LnI (own : String) (idx : Nat) (y : MethodName) (cc : ByteArray) (maxL : Nat) (n : Nat) : Prop := (∃ host : String, Cond.methodLinkNest own idx y host ∈ NW) ∧ Cond.instanceMethod y ∈ BIG ∧ Cond.initialized y.cls ∈ BIG ∧ Cond.code y cc maxL none ∈ BIG ∧ y.name = "<init>" ∧ y.cls ≠ "java/lang/invoke/MethodHandle" ∧ y.cls ≠ "java/lang/invoke/VarHandle" ∧ (parseMethodDescriptor y.desc).map (fun d => d.parameters.length) = some n
variable {y : MethodName} {cy : ByteArray} {maxL n idx : Nat} {rt : Option FieldType} {rm : Room} {w0 wr : va_W} {b : Nat} {As : List Value}
theorem pre_v {H : Heap} {locs : List Loc} (X : ZC p s m args meth c cc nL own G A ret nm) (hP : va_P G.1 vwCl ws H) (hD : va_D A ws) (isC : List Nat) (hC : isC.map (fun i => ws[i]?) = w0.map some) (hnC : va_nd isC = true) (av : List Value) : ∀ U : State, U.heap = H → s.WarmedH U.vm → Pcx G av w0 H.size av.toArray U :=
  fun U hU hW => ⟨rfl, by rw [hU], by rw [hU]; exact va_Ppick hP isC hC, X.2.2.2.2.2.1.warm hW, (hD.sub isC hnC hC).weaken (fun _ _ _ _ => trivial)⟩
theorem recv_v {H : Heap} (X : ZC p s m args meth c cc nL own G A ret nm) (hP : va_P G.1 vwCl ws H) (q0 : Nat) {ci : Nat} {fs : List Value} (he : ws[q0]? = some (b, .inr (ci, fs))) {q : vw_C} (hc : vwCl[ci]? = some q) : ∃ cell : Cell, H[b]? = some cell ∧ cell.vm.isStatics = false ∧ s.vm.findClass q.1 = some cell.cls := va_recv X.2.2.2.2.2.1.1 hP hc he
theorem z_callV {C : String} (X : ZC p s m args meth c cc nL own G A ret nm) (K : LkV own idx C y cy maxL rt n) (hM : Ct l G y cy maxL rt rm (.ref b :: As) w0 post) (hdg : decode cc pc = .ok (.invokevirtual idx, 3)) (q0 : Nat) {ci : Nat} {fs : List Value} (he : ws[q0]? = some (b, .inr (ci, fs))) {q : vw_C} (hc : vwCl[ci]? = some q) (hqC : q.1 = C) (hR : rm.frames + 1 ≤ R.frames ∧ 8 + (maxL + 11) + rm.locals ≤ R.locals) (hf : kc + rm.cells ≤ R.cells ∧ ks + rm.slots ≤ R.slots) (hn : As.length = n) (hst : st = As.reverse ++ .ref b :: rest) (hcat : (rest.map fun v => v.category).sum ≤ 8) (isC isR : List Nat) (hC : isC.map (fun i => ws[i]?) = w0.map some) (hnC : va_nd isC = true) (hRw : isR.map (fun i => ws[i]?) = wr.map some) (hnR : va_nd isR = true) (hdis : (isR.all fun i => decide (i ∉ isC)) = true)
    (kk : ∀ (r : Option Value) (w1 : va_W), post r w1 → Z p l e R s m args below meth c nL G A Q (pc + 3) lv (r.toList ++ rest) (wr ++ w1) (kc + rm.cells) (ks + rm.slots)) : Z p l e R s m args below meth c nL G A Q pc lv st ws kc ks := by
  obtain ⟨k1, k2, k3, k4, k5, k6, k7, k8, k9⟩ := K
  subst hst
  intro H locs ls hP hD hS hl
  have hts := X.2.2.2.2.1
  obtain ⟨cell, c1, c2, c3⟩ := recv_v X hP q0 he hc
  rw [hqC] at c3
  have hGI : GoodIn BIG (wsV own idx C y (wsOf y cy maxL rt)) := by
    intro w hw
    rcases List.mem_append.mp hw with h | h
    · have : w ∈ BIG := by
        rcases List.mem_cons.mp h with e | h
        · rw [e]; exact k1
        rcases List.mem_cons.mp h with e | h
        · rw [e]; exact k2
        rcases List.mem_cons.mp h with e | h
        · rw [e]; exact k3
        rcases List.mem_cons.mp h with e | h
        · rw [e]; exact k4
        cases h
      exact ⟨this, big_good this⟩
    · exact goodIn_wsOf k5 w h
  exact z_cont (va_runV (As := As) (rest := rest) ⟨X.1, X.2.1, X.2.2.1, X.2.2.2.1, hts⟩ (hM H.size) (cwV n hts hGI rfl rfl rfl ⟨k6, k7, k8, k9⟩ hR) ⟨Pcx.blind, ⟨cell, c1, c2, c3⟩, pre_v (locs := locs) X hP hD isC hC hnC _⟩ rfl hn hl.1 rfl (lv_room hcat) hdg hf) X.2.2.2.2.2.2.1 hP hD hS hl isC isR hC hRw hnR hdis kk
theorem z_callVN {C : String} (X : ZC p s m args meth c cc nL own G A ret nm) (K : LnV own idx C y cy maxL rt n) (hM : Ct l G y cy maxL rt rm (.ref b :: As) w0 post) (hdg : decode cc pc = .ok (.invokevirtual idx, 3)) (q0 : Nat) {ci : Nat} {fs : List Value} (he : ws[q0]? = some (b, .inr (ci, fs))) {q : vw_C} (hc : vwCl[ci]? = some q) (hqC : q.1 = C) (hR : rm.frames + 1 ≤ R.frames ∧ 8 + (maxL + 11) + rm.locals ≤ R.locals) (hf : kc + rm.cells ≤ R.cells ∧ ks + rm.slots ≤ R.slots) (hn : As.length = n) (hst : st = As.reverse ++ .ref b :: rest) (hcat : (rest.map fun v => v.category).sum ≤ 8) (isC isR : List Nat) (hC : isC.map (fun i => ws[i]?) = w0.map some) (hnC : va_nd isC = true) (hRw : isR.map (fun i => ws[i]?) = wr.map some) (hnR : va_nd isR = true) (hdis : (isR.all fun i => decide (i ∉ isC)) = true)
    (kk : ∀ (r : Option Value) (w1 : va_W), post r w1 → Z p l e R s m args below meth c nL G A Q (pc + 3) lv (r.toList ++ rest) (wr ++ w1) (kc + rm.cells) (ks + rm.slots)) : Z p l e R s m args below meth c nL G A Q pc lv st ws kc ks := by
  obtain ⟨⟨host, k1⟩, k2, k3, k4, k5, k7, k8, k9⟩ := K
  subst hst
  intro H locs ls hP hD hS hl
  have hts := X.2.2.2.2.1
  obtain ⟨cell, c1, c2, c3⟩ := recv_v X hP q0 he hc
  rw [hqC] at c3
  exact z_cont (va_runVN (As := As) (rest := rest) (host := host) ⟨X.1, X.2.1, X.2.2.1, X.2.2.2.1, hts⟩ (hM H.size) ⟨va_cnB n hts (goodIn_wsOf k5) rfl rfl rfl (X.2.2.2.2.2.1.2.1 _ k1) (hts _ k4) ⟨k7, k8, k9⟩ hR, hts _ k2, hts _ k3⟩ ⟨Pcx.blind, ⟨cell, c1, c2, c3⟩, pre_v (locs := locs) X hP hD isC hC hnC _⟩ rfl hn hl.1 rfl (lv_room hcat) hdg hf) X.2.2.2.2.2.2.1 hP hD hS hl isC isR hC hRw hnR hdis kk
theorem z_callS (X : ZC p s m args meth c cc nL own G A ret nm) (K : LkS own idx y cy maxL rt n) (hM : Ct l G y cy maxL rt rm As w0 post) (hdg : decode cc pc = .ok (.invokestatic idx, 3)) (hR : rm.frames + 1 ≤ R.frames ∧ 8 + (maxL + 11) + rm.locals ≤ R.locals) (hf : kc + rm.cells ≤ R.cells ∧ ks + rm.slots ≤ R.slots) (hn : As.length = n) (hst : st = As.reverse ++ rest) (hcat : (rest.map fun v => v.category).sum ≤ 8) (isC isR : List Nat) (hC : isC.map (fun i => ws[i]?) = w0.map some) (hnC : va_nd isC = true) (hRw : isR.map (fun i => ws[i]?) = wr.map some) (hnR : va_nd isR = true) (hdis : (isR.all fun i => decide (i ∉ isC)) = true)
    (kk : ∀ (r : Option Value) (w1 : va_W), post r w1 → Z p l e R s m args below meth c nL G A Q (pc + 3) lv (r.toList ++ rest) (wr ++ w1) (kc + rm.cells) (ks + rm.slots)) : Z p l e R s m args below meth c nL G A Q pc lv st ws kc ks := by
  obtain ⟨k1, k2, k3, k5, k7, k8, k9⟩ := K
  subst hst
  intro H locs ls hP hD hS hl
  have hts := X.2.2.2.2.1
  exact z_cont (va_runS (As := As) (rest := rest) ⟨X.1, X.2.1, X.2.2.1, X.2.2.2.1, hts⟩ (hM H.size) ⟨callB_of n hts (goodIn_wsOf k5) rfl rfl rfl (hts _ k3) (hts _ k1) ⟨k7, k8, k9⟩ hR, hts _ k2⟩ ⟨Pcx.blind, pre_v (locs := locs) X hP hD isC hC hnC _⟩ rfl hn hl.1 rfl (lv_room hcat) hdg hf) X.2.2.2.2.2.2.1 hP hD hS hl isC isR hC hRw hnR hdis kk
theorem z_callSN (X : ZC p s m args meth c cc nL own G A ret nm) (K : LnS own idx y cy maxL rt n) (hM : Ct l G y cy maxL rt rm As w0 post) (hdg : decode cc pc = .ok (.invokestatic idx, 3)) (hR : rm.frames + 1 ≤ R.frames ∧ 8 + (maxL + 11) + rm.locals ≤ R.locals) (hf : kc + rm.cells ≤ R.cells ∧ ks + rm.slots ≤ R.slots) (hn : As.length = n) (hst : st = As.reverse ++ rest) (hcat : (rest.map fun v => v.category).sum ≤ 8) (isC isR : List Nat) (hC : isC.map (fun i => ws[i]?) = w0.map some) (hnC : va_nd isC = true) (hRw : isR.map (fun i => ws[i]?) = wr.map some) (hnR : va_nd isR = true) (hdis : (isR.all fun i => decide (i ∉ isC)) = true)
    (kk : ∀ (r : Option Value) (w1 : va_W), post r w1 → Z p l e R s m args below meth c nL G A Q (pc + 3) lv (r.toList ++ rest) (wr ++ w1) (kc + rm.cells) (ks + rm.slots)) : Z p l e R s m args below meth c nL G A Q pc lv st ws kc ks := by
  obtain ⟨⟨host, k1⟩, k2, k4, k5, k7, k8, k9⟩ := K
  subst hst
  intro H locs ls hP hD hS hl
  have hts := X.2.2.2.2.1
  exact z_cont (va_runSN (As := As) (rest := rest) (host := host) ⟨X.1, X.2.1, X.2.2.1, X.2.2.2.1, hts⟩ (hM H.size) ⟨va_cnB n hts (goodIn_wsOf k5) rfl rfl rfl (X.2.2.2.2.2.1.2.1 _ k1) (hts _ k4) ⟨k7, k8, k9⟩ hR, hts _ k2, trivial⟩ ⟨Pcx.blind, pre_v (locs := locs) X hP hD isC hC hnC _⟩ rfl hn hl.1 rfl (lv_room hcat) hdg hf) X.2.2.2.2.2.2.1 hP hD hS hl isC isR hC hRw hnR hdis kk
theorem z_callI (X : ZC p s m args meth c cc nL own G A ret nm) (K : LkI own idx y cy maxL n) (hM : Ct l G y cy maxL none rm (.ref b :: As) w0 post) (hdg : decode cc pc = .ok (.invokespecial idx, 3)) (hR : rm.frames + 1 ≤ R.frames ∧ 8 + (maxL + 11) + rm.locals ≤ R.locals) (hf : kc + rm.cells ≤ R.cells ∧ ks + rm.slots ≤ R.slots) (hn : As.length = n) (hst : st = As.reverse ++ .ref b :: rest) (hcat : (rest.map fun v => v.category).sum ≤ 8) (isC isR : List Nat) (hC : isC.map (fun i => ws[i]?) = w0.map some) (hnC : va_nd isC = true) (hRw : isR.map (fun i => ws[i]?) = wr.map some) (hnR : va_nd isR = true) (hdis : (isR.all fun i => decide (i ∉ isC)) = true)
    (kk : ∀ (r : Option Value) (w1 : va_W), post r w1 → Z p l e R s m args below meth c nL G A Q (pc + 3) lv (r.toList ++ rest) (wr ++ w1) (kc + rm.cells) (ks + rm.slots)) : Z p l e R s m args below meth c nL G A Q pc lv st ws kc ks := by
  obtain ⟨k1, k2, k4, k5, k6, k7, k8, k9⟩ := K
  subst hst
  intro H locs ls hP hD hS hl
  have hts := X.2.2.2.2.1
  exact z_cont (va_runI (As := As) (rest := rest) ⟨X.1, X.2.1, X.2.2.1, X.2.2.2.1, hts⟩ (hM H.size) (cwI n hts (goodIn_wsOf k5) rfl rfl rfl (hts _ k4) (hts _ k1) (hts _ k2) k6 ⟨k7, k8, k9⟩ hR) ⟨Pcx.blind, pre_v (locs := locs) X hP hD isC hC hnC _⟩ rfl hn hl.1 rfl (lv_room hcat) hdg hf) X.2.2.2.2.2.2.1 hP hD hS hl isC isR hC hRw hnR hdis kk
theorem z_callIN (X : ZC p s m args meth c cc nL own G A ret nm) (K : LnI own idx y cy maxL n) (hM : Ct l G y cy maxL none rm (.ref b :: As) w0 post) (hdg : decode cc pc = .ok (.invokespecial idx, 3)) (hR : rm.frames + 1 ≤ R.frames ∧ 8 + (maxL + 11) + rm.locals ≤ R.locals) (hf : kc + rm.cells ≤ R.cells ∧ ks + rm.slots ≤ R.slots) (hn : As.length = n) (hst : st = As.reverse ++ .ref b :: rest) (hcat : (rest.map fun v => v.category).sum ≤ 8) (isC isR : List Nat) (hC : isC.map (fun i => ws[i]?) = w0.map some) (hnC : va_nd isC = true) (hRw : isR.map (fun i => ws[i]?) = wr.map some) (hnR : va_nd isR = true) (hdis : (isR.all fun i => decide (i ∉ isC)) = true)
    (kk : ∀ (r : Option Value) (w1 : va_W), post r w1 → Z p l e R s m args below meth c nL G A Q (pc + 3) lv (r.toList ++ rest) (wr ++ w1) (kc + rm.cells) (ks + rm.slots)) : Z p l e R s m args below meth c nL G A Q pc lv st ws kc ks := by
  obtain ⟨⟨host, k1⟩, k2, k4, k5, k6, k7, k8, k9⟩ := K
  subst hst
  intro H locs ls hP hD hS hl
  have hts := X.2.2.2.2.1
  exact z_cont (va_runIN (As := As) (rest := rest) (host := host) ⟨X.1, X.2.1, X.2.2.1, X.2.2.2.1, hts⟩ (hM H.size) ⟨va_cnB n hts (goodIn_wsOf k5) rfl rfl rfl (X.2.2.2.2.2.1.2.1 _ k1) (hts _ k4) ⟨k7, k8, k9⟩ hR, k6, hts _ k2⟩ ⟨Pcx.blind, pre_v (locs := locs) X hP hD isC hC hnC _⟩ rfl hn hl.1 rfl (lv_room hcat) hdg hf) X.2.2.2.2.2.2.1 hP hD hS hl isC isR hC hRw hnR hdis kk
theorem z_objInit (X : ZC p s m args meth c cc nL own G A ret nm) {a : Nat} (h1 : Cond.methodLink own idx Lib.objectInit ∈ BIG) (h2 : Cond.instanceMethod Lib.objectInit ∈ BIG) (h3 : Cond.code Lib.objectInit ⟨#[0xb1]⟩ 1 none ∈ BIG) (hdg : decode cc pc = .ok (.invokespecial idx, 3)) (hR : 1 ≤ R.frames ∧ 20 ≤ R.locals) (hcat : (rest.map fun v => v.category).sum ≤ 8) (kz : Z p l e R s m args below meth c nL G A Q (pc + 3) lv rest ws kc ks) : Z p l e R s m args below meth c nL G A Q pc lv (.ref a :: rest) ws kc ks := by
  intro H locs ls hP hD hS hl
  have hts := X.2.2.2.2.1
  refine W.objInit X.1 X.2.1 X.2.2.2.1 (hts _ h1) (hts _ h2) (hts _ h3) rfl (by rw [X.2.2.1]; exact hl.1) rfl hdg hR.1 ?_ (kz H locs ls hP hD hS hl)
  have := lv_room (pc := pc) (ls := ls) (m := m) (rest := rest) hcat
  have e : (F0 m pc ls (.ref a :: rest)).monitorRoom = (F0 m pc ls rest).monitorRoom := rfl
  rw [e]
  have h20 := hR.2
  omega
theorem z_new {C : String} {T : u_T} {N ci : Nat} (X : ZC p s m args meth c cc nL own G A ret nm) (hc : vwCl[ci]? = some (C, T, N)) (hin : ∀ w ∈ u_ws C T N, w ∈ BIG) (ty : Nat → FieldType) (hty : ∀ k, k < N → parseFieldDescriptor (T k).2.2.1 = some (ty k)) (h1 : Cond.classLink own idx C ∈ BIG) (h2 : Cond.instantiable C N ∈ BIG) (h3 : Cond.initialized C ∈ BIG) {fs : List Value} (hfs : ∀ j, j < N → defaultValue (ty j) = vp_V fs j) (hcells : kc + 1 ≤ R.cells) (hslots : ks + N ≤ R.slots) (hdg : decode cc pc = .ok (.new idx, 3))
    (kz : ∀ q : Nat, Z p l e R s m args below meth c nL G A Q (pc + 3) lv (.ref q :: rest) (ws ++ [(q, .inr (ci, fs))]) (kc + 1) (ks + N)) : Z p l e R s m args below meth c nL G A Q pc lv rest ws kc ks := by
  intro H locs ls hP hD hS hl
  have hts := X.2.2.2.2.1
  exact va_new X.1 X.2.1 hts hin ty hty X.2.2.2.1 (hts _ h1) (hts _ h2) (hts _ h3) X.2.2.2.2.2.1.1 hP hD hS X.2.2.2.2.2.2.1 hc hfs hcells hslots hdg (fun q H1 hP hD hS => kz q H1 locs ls hP hD hS hl)
theorem cls_eq {cA : ClassId} {tys : List (ClassId × FieldType)} {ty : FieldType} (hty : ty = .int ∨ ty = .long ∨ ty = .boolean) {cB : ClassId} (h1 : va_RA s cA ty) (h2 : va_RA s cB ty) : cA = cB := by
  rcases hty with rfl | rfl | rfl <;> exact Option.some.inj (Eq.trans (Eq.symm h1) h2)
theorem z_newa {atype : ArrayType} {ty : FieldType} (X : ZC p s m args meth c cc nL own G A ret nm) (harr : Cond.arrayClass (newarray.typeOf atype) ∈ BIG) (hty : newarray.typeOf atype = ty) (hty3 : ty = .int ∨ ty = .long ∨ ty = .boolean) (t0 : Nat) {cB : ClassId} (ht : (TYS G)[t0]? = some (cB, ty)) {n : Int32} {N' : Nat} {a0 : vp_A} (ha : ∀ cA : ClassId, vp_cell cA a0 = arrV cA N' (fun _ => defaultValue ty)) (hn : ¬ n < 0) (hN : n.toNatClampNeg = N') (hbytes : N' * componentBytes ty ≤ 536870912) (hcells : kc + 1 ≤ R.cells) (hslots : ks + N' ≤ R.slots) (hdg : decode cc pc = .ok (.newarray atype, 2))
    (kz : ∀ q : Nat, Z p l e R s m args below meth c nL G A Q (pc + 2) lv (.ref q :: rest) (ws ++ [(q, .inl (cB, a0))]) (kc + 1) (ks + N')) : Z p l e R s m args below meth c nL G A Q pc lv (.int n :: rest) ws kc ks := by
  intro H locs ls hP hD hS hl
  have hts := X.2.2.2.2.1
  refine va_newa X.1 X.2.1 (hts _ harr) hty X.2.2.2.2.2.1.1 hP hD hS X.2.2.2.2.2.2.1 ha hn hN hbytes hcells hslots hdg (fun q cA H1 hK hP hD hS => ?_)
  have e : cA = cB := cls_eq (tys := TYS G) hty3 (hK.2 _ _ (show (TYS G ++ [(cA, ty)])[4]? = some (cA, ty) from rfl)).2 (X.2.2.2.2.2.1.1.2 _ _ ht).2
  subst e
  exact kz q H1 locs ls hP hD hS hl
theorem z_newq {C : String} (X : ZC p s m args meth c cc nL own G A ret nm) (h1 : Cond.classLink own idx C ∈ BIG) (h2 : C = "StoneThatShakes$Kept") (t0 : Nat) {cB : ClassId} (ht : (TYS G)[t0]? = some (cB, .object C)) {n : Int32} {N' : Nat} (hn : ¬ n < 0) (hN : n.toNatClampNeg = N') (hbytes : N' * 4 ≤ 536870912) (hcells : kc + 1 ≤ R.cells) (hslots : ks + N' ≤ R.slots) (hdg : decode cc pc = .ok (.anewarray idx, 3))
    (kz : ∀ q : Nat, Z p l e R s m args below meth c nL G A Q (pc + 3) lv (.ref q :: rest) (ws ++ [(q, .inl (cB, N', .inr (.inr (.inr (.inr (fun _ => none))))))]) (kc + 1) (ks + N')) : Z p l e R s m args below meth c nL G A Q pc lv (.int n :: rest) ws kc ks := by
  intro H locs ls hP hD hS hl
  have hts := X.2.2.2.2.1
  refine va_newq X.1 X.2.1 X.2.2.2.1 (hts _ h1) (h2 ▸ X.2.2.2.2.2.1.2.2) X.2.2.2.2.2.1.1 hP hD hS X.2.2.2.2.2.2.1 hn hN hbytes hcells hslots hdg (fun q cA H1 hK hP hD hS => ?_)
  have e1 := (hK.2 _ _ (show (TYS G ++ [(cA, .object C)])[4]? = some (cA, .object C) from rfl)).2
  have e2 := (X.2.2.2.2.2.1.1.2 _ _ ht).2
  obtain ⟨kA, comp, a1, a2, a3, a4⟩ := e1
  obtain ⟨kB, comp2, b1, b2, b3, b4⟩ := e2
  have e : cA = cB := Option.some.inj (a4.symm.trans b4)
  subst e
  exact kz q H1 locs ls hP hD hS hl
end ZRET
/-! the runner of straight blocks -/
def zl : List (Nat × Value) → Nat → Option Value
  | [], _ => none
  | q :: lv, i => if q.1 = i then some q.2 else zl lv i
theorem zl_mem : ∀ (lv : List (Nat × Value)) (i : Nat) (v : Value), zl lv i = some v → (i, v) ∈ lv
  | [], i, v, h => by cases h
  | q :: lv, i, v, h => by
    unfold zl at h
    by_cases e : q.1 = i
    · rw [if_pos e] at h
      cases h
      subst e
      exact List.mem_cons_self
    · rw [if_neg e] at h
      exact List.mem_cons_of_mem _ (zl_mem lv i v h)
def zs1 (i : Nat) (v : Value) (lv : List (Nat × Value)) : List (Nat × Value) := (i, v) :: lv.filter (fun q => !(q.1 == i) && !(q.1 + 1 == i && q.2.category == 2))
def zs2 (i : Nat) (v : Value) (lv : List (Nat × Value)) : List (Nat × Value) := (i, v) :: lv.filter (fun q => !(q.1 == i) && (!(q.1 == i + 1) && !(q.1 + 1 == i && q.2.category == 2)))
/-- one plain instruction; cv: the constant that it puts -/
def zst (nL : Nat) (i : Instr) (cv : Value) (lv : List (Nat × Value)) (st : List Value) : Option (List (Nat × Value) × List Value) := match i with
  | .iconst _ => some (lv, cv :: st)
  | .bipush _ => some (lv, cv :: st)
  | .sipush _ => some (lv, cv :: st)
  | .lconst _ => some (lv, cv :: st)
  | .iload k => match zl lv k with
    | some (.int x) => some (lv, .int x :: st)
    | _ => none
  | .iload_n k => match zl lv k with
    | some (.int x) => some (lv, .int x :: st)
    | _ => none
  | .lload k => match zl lv k with
    | some (.long x) => some (lv, .long x :: st)
    | _ => none
  | .lload_n k => match zl lv k with
    | some (.long x) => some (lv, .long x :: st)
    | _ => none
  | .aload k => match zl lv k with
    | some (.ref x) => some (lv, .ref x :: st)
    | _ => none
  | .aload_n k => match zl lv k with
    | some (.ref x) => some (lv, .ref x :: st)
    | _ => none
  | .istore k => match st with
    | .int x :: st => if k < nL then some (zs1 k (.int x) lv, st) else none
    | _ => none
  | .istore_n k => match st with
    | .int x :: st => if (k : Nat) < nL then some (zs1 k (.int x) lv, st) else none
    | _ => none
  | .astore k => match st with
    | .ref x :: st => if k < nL then some (zs1 k (.ref x) lv, st) else none
    | _ => none
  | .astore_n k => match st with
    | .ref x :: st => if (k : Nat) < nL then some (zs1 k (.ref x) lv, st) else none
    | _ => none
  | .lstore k => match st with
    | .long x :: st => if k + 1 < nL then some (zs2 k (.long x) lv, st) else none
    | _ => none
  | .lstore_n k => match st with
    | .long x :: st => if (k : Nat) + 1 < nL then some (zs2 k (.long x) lv, st) else none
    | _ => none
  | .iadd => match st with
    | .int y :: .int x :: st => some (lv, .int (x + y) :: st)
    | _ => none
  | .isub => match st with
    | .int y :: .int x :: st => some (lv, .int (x - y) :: st)
    | _ => none
  | .imul => match st with
    | .int y :: .int x :: st => some (lv, .int (x * y) :: st)
    | _ => none
  | .iand => match st with
    | .int y :: .int x :: st => some (lv, .int (x &&& y) :: st)
    | _ => none
  | .ior => match st with
    | .int y :: .int x :: st => some (lv, .int (x ||| y) :: st)
    | _ => none
  | .ixor => match st with
    | .int y :: .int x :: st => some (lv, .int (x ^^^ y) :: st)
    | _ => none
  | .ineg => match st with
    | .int x :: st => some (lv, .int (-x) :: st)
    | _ => none
  | .ishl => match st with
    | .int y :: .int x :: st => some (lv, .int (x <<< (y &&& 31)) :: st)
    | _ => none
  | .ishr => match st with
    | .int y :: .int x :: st => some (lv, .int (x >>> (y &&& 31)) :: st)
    | _ => none
  | .ladd => match st with
    | .long y :: .long x :: st => some (lv, .long (x + y) :: st)
    | _ => none
  | .lsub => match st with
    | .long y :: .long x :: st => some (lv, .long (x - y) :: st)
    | _ => none
  | .lmul => match st with
    | .long y :: .long x :: st => some (lv, .long (x * y) :: st)
    | _ => none
  | .land => match st with
    | .long y :: .long x :: st => some (lv, .long (x &&& y) :: st)
    | _ => none
  | .lor => match st with
    | .long y :: .long x :: st => some (lv, .long (x ||| y) :: st)
    | _ => none
  | .lneg => match st with
    | .long x :: st => some (lv, .long (-x) :: st)
    | _ => none
  | .i2l => match st with
    | .int x :: st => some (lv, .long x.toInt64 :: st)
    | _ => none
  | .l2i => match st with
    | .long x :: st => some (lv, .int x.toInt32 :: st)
    | _ => none
  | .i2b => match st with
    | .int x :: st => some (lv, .int x.toInt8.toInt32 :: st)
    | _ => none
  | .i2s => match st with
    | .int x :: st => some (lv, .int x.toInt16.toInt32 :: st)
    | _ => none
  | .lshl => match st with
    | .int y :: .long x :: st => some (lv, .long (x <<< (y.toInt64 &&& 63)) :: st)
    | _ => none
  | .lcmp => match st with
    | .long y :: .long x :: st => some (lv, .int (lg_cmp x y) :: st)
    | _ => none
  | .iinc k _ => match cv, zl lv k with
    | .int d, some (.int x) => if k < nL then some (zs1 k (.int (x + d)) lv, st) else none
    | _, _ => none
  | .dup => match st with
    | .int x :: st => some (lv, .int x :: .int x :: st)
    | .ref x :: st => some (lv, .ref x :: .ref x :: st)
    | _ => none
  | .dup2 => match st with
    | .int x :: .ref y :: st => some (lv, .int x :: .ref y :: .int x :: .ref y :: st)
    | .int x :: .int y :: st => some (lv, .int x :: .int y :: .int x :: .int y :: st)
    | .long x :: st => some (lv, .long x :: .long x :: st)
    | _ => none
  | .pop => match st with
    | .int _ :: st => some (lv, st)
    | .ref _ :: st => some (lv, st)
    | _ => none
  | _ => none
/-- the constant that an instruction puts -/
def zcv : Instr → Value → Bool
  | .iconst n, .int v => decide (Int32.ofInt n = v)
  | .bipush n, .int v => decide ((Int8.ofInt n).toInt32 = v)
  | .sipush n, .int v => decide ((Int16.ofInt n).toInt32 = v)
  | .lconst n, .long v => decide (Int64.ofNat (n : Nat) = v)
  | .iinc _ n, .int v => decide (Int32.ofInt n = v)
  | .iinc _ _, _ => false
  | .iconst _, _ => false
  | .bipush _, _ => false
  | .sipush _, _ => false
  | .lconst _, _ => false
  | _, _ => true
def zlen : Instr → Nat
  | .iload _ => 2
  | .lload _ => 2
  | .aload _ => 2
  | .istore _ => 2
  | .astore _ => 2
  | .lstore _ => 2
  | .bipush _ => 2
  | .sipush _ => 3
  | .iinc _ _ => 3
  | _ => 1
abbrev ZB : Type := List (Instr × Value)
def zchk (cc : ByteArray) : ZB → Nat → Bool
  | [], _ => true
  | x :: b, pc => decide (decode cc pc = .ok (x.1, zlen x.1)) && (zcv x.1 x.2 && zchk cc b (pc + zlen x.1))
def zpc : ZB → Nat → Nat
  | [], pc => pc
  | x :: b, pc => zpc b (pc + zlen x.1)
def zrun (nL : Nat) : ZB → List (Nat × Value) → List Value → Option (List (Nat × Value) × List Value)
  | [], lv, st => some (lv, st)
  | x :: b, lv, st => match zst nL x.1 x.2 lv st with
    | some q => zrun nL b q.1 q.2
    | none => none
section ZRUN
variable {p : Program} {l : Launch} {e : Env} {R : Room} {s : State} {m : MethodId} {args : Array Value} {below : List Frame} {meth : Method} {c : Code} {nL : Nat} {G : KG} {A : Nat → Prop} {Q : State → Prop} {cc : ByteArray} {own : String} {ret : Option FieldType} {nm : String}
variable {ws : va_W} {kc ks : Nat}
set_option maxHeartbeats 4000000 in
theorem zst_ok {pc : Nat} (X : ZC p s m args meth c cc nL own G A ret nm) {i : Instr} {cv : Value} {lv lv' : List (Nat × Value)} {st st' : List Value} (hdg : decode cc pc = .ok (i, zlen i)) (hcv : zcv i cv = true) (h : zst nL i cv lv st = some (lv', st')) (kz : Z p l e R s m args below meth c nL G A Q (pc + zlen i) lv' st' ws kc ks) : Z p l e R s m args below meth c nL G A Q pc lv st ws kc ks := by
  cases i with
  | iconst n =>
    cases cv with
    | int v =>
      cases h
      exact z_iconst X hdg (of_decide_eq_true hcv) kz
    | _ => cases hcv
  | bipush n =>
    cases cv with
    | int v =>
      cases h
      exact z_bipush X hdg (of_decide_eq_true hcv) kz
    | _ => cases hcv
  | sipush n =>
    cases cv with
    | int v =>
      cases h
      exact z_sipush X hdg (of_decide_eq_true hcv) kz
    | _ => cases hcv
  | lconst n =>
    cases cv with
    | long v =>
      cases h
      exact z_lconst X hdg (of_decide_eq_true hcv) kz
    | _ => cases hcv
  | iload k =>
    dsimp only [zst] at h
    cases hz : zl lv k with
    | none =>
      rw [hz] at h
      cases h
    | some v =>
      rw [hz] at h
      cases v with
      | int x =>
        cases h
        obtain ⟨q, hq⟩ := List.getElem?_of_mem (zl_mem _ _ _ hz)
        exact z_iload X hdg q hq kz
      | _ => cases h
  | iload_n k =>
    dsimp only [zst] at h
    cases hz : zl lv (k : Nat) with
    | none =>
      rw [hz] at h
      cases h
    | some v =>
      rw [hz] at h
      cases v with
      | int x =>
        cases h
        obtain ⟨q, hq⟩ := List.getElem?_of_mem (zl_mem _ _ _ hz)
        exact z_iload_n X hdg rfl q hq kz
      | _ => cases h
  | lload k =>
    dsimp only [zst] at h
    cases hz : zl lv k with
    | none =>
      rw [hz] at h
      cases h
    | some v =>
      rw [hz] at h
      cases v with
      | long x =>
        cases h
        obtain ⟨q, hq⟩ := List.getElem?_of_mem (zl_mem _ _ _ hz)
        exact z_lload X hdg q hq kz
      | _ => cases h
  | lload_n k =>
    dsimp only [zst] at h
    cases hz : zl lv (k : Nat) with
    | none =>
      rw [hz] at h
      cases h
    | some v =>
      rw [hz] at h
      cases v with
      | long x =>
        cases h
        obtain ⟨q, hq⟩ := List.getElem?_of_mem (zl_mem _ _ _ hz)
        exact z_lload_n X hdg rfl q hq kz
      | _ => cases h
  | aload k =>
    dsimp only [zst] at h
    cases hz : zl lv k with
    | none =>
      rw [hz] at h
      cases h
    | some v =>
      rw [hz] at h
      cases v with
      | ref x =>
        cases h
        obtain ⟨q, hq⟩ := List.getElem?_of_mem (zl_mem _ _ _ hz)
        exact z_aload X hdg q hq kz
      | _ => cases h
  | aload_n k =>
    dsimp only [zst] at h
    cases hz : zl lv (k : Nat) with
    | none =>
      rw [hz] at h
      cases h
    | some v =>
      rw [hz] at h
      cases v with
      | ref x =>
        cases h
        obtain ⟨q, hq⟩ := List.getElem?_of_mem (zl_mem _ _ _ hz)
        exact z_aload_n X hdg rfl q hq kz
      | _ => cases h
  | istore k =>
    dsimp only [zst] at h
    cases st with
    | nil => cases h
    | cons a st =>
      cases a with
      | int x =>
        by_cases hk : k < nL
        · simp only [if_pos hk] at h
          cases h
          exact z_istore X hdg hk rfl kz
        · simp only [if_neg hk] at h
          cases h
      | _ => cases h
  | istore_n k =>
    dsimp only [zst] at h
    cases st with
    | nil => cases h
    | cons a st =>
      cases a with
      | int x =>
        by_cases hk : (k : Nat) < nL
        · simp only [if_pos hk] at h
          cases h
          exact z_istore_n X hdg rfl hk rfl kz
        · simp only [if_neg hk] at h
          cases h
      | _ => cases h
  | astore k =>
    dsimp only [zst] at h
    cases st with
    | nil => cases h
    | cons a st =>
      cases a with
      | ref x =>
        by_cases hk : k < nL
        · simp only [if_pos hk] at h
          cases h
          exact z_astore X hdg hk rfl kz
        · simp only [if_neg hk] at h
          cases h
      | _ => cases h
  | astore_n k =>
    dsimp only [zst] at h
    cases st with
    | nil => cases h
    | cons a st =>
      cases a with
      | ref x =>
        by_cases hk : (k : Nat) < nL
        · simp only [if_pos hk] at h
          cases h
          exact z_astore_n X hdg rfl hk rfl kz
        · simp only [if_neg hk] at h
          cases h
      | _ => cases h
  | lstore k =>
    dsimp only [zst] at h
    cases st with
    | nil => cases h
    | cons a st =>
      cases a with
      | long x =>
        by_cases hk : k + 1 < nL
        · simp only [if_pos hk] at h
          cases h
          exact z_lstore X hdg hk rfl kz
        · simp only [if_neg hk] at h
          cases h
      | _ => cases h
  | lstore_n k =>
    dsimp only [zst] at h
    cases st with
    | nil => cases h
    | cons a st =>
      cases a with
      | long x =>
        by_cases hk : (k : Nat) + 1 < nL
        · simp only [if_pos hk] at h
          cases h
          exact z_lstore_n X hdg rfl hk rfl kz
        · simp only [if_neg hk] at h
          cases h
      | _ => cases h
  | iadd =>
    dsimp only [zst] at h
    cases st with
    | nil => cases h
    | cons a st =>
      cases a with
      | int y =>
        cases st with
        | nil => cases h
        | cons a st =>
          cases a with
          | int x =>
            cases h
            exact z_iadd X hdg kz
          | _ => cases h
      | _ => cases h
  | isub =>
    dsimp only [zst] at h
    cases st with
    | nil => cases h
    | cons a st =>
      cases a with
      | int y =>
        cases st with
        | nil => cases h
        | cons a st =>
          cases a with
          | int x =>
            cases h
            exact z_isub X hdg kz
          | _ => cases h
      | _ => cases h
  | imul =>
    dsimp only [zst] at h
    cases st with
    | nil => cases h
    | cons a st =>
      cases a with
      | int y =>
        cases st with
        | nil => cases h
        | cons a st =>
          cases a with
          | int x =>
            cases h
            exact z_imul X hdg kz
          | _ => cases h
      | _ => cases h
  | iand =>
    dsimp only [zst] at h
    cases st with
    | nil => cases h
    | cons a st =>
      cases a with
      | int y =>
        cases st with
        | nil => cases h
        | cons a st =>
          cases a with
          | int x =>
            cases h
            exact z_iand X hdg kz
          | _ => cases h
      | _ => cases h
  | ior =>
    dsimp only [zst] at h
    cases st with
    | nil => cases h
    | cons a st =>
      cases a with
      | int y =>
        cases st with
        | nil => cases h
        | cons a st =>
          cases a with
          | int x =>
            cases h
            exact z_ior X hdg kz
          | _ => cases h
      | _ => cases h
  | ixor =>
    dsimp only [zst] at h
    cases st with
    | nil => cases h
    | cons a st =>
      cases a with
      | int y =>
        cases st with
        | nil => cases h
        | cons a st =>
          cases a with
          | int x =>
            cases h
            exact z_ixor X hdg kz
          | _ => cases h
      | _ => cases h
  | ishl =>
    dsimp only [zst] at h
    cases st with
    | nil => cases h
    | cons a st =>
      cases a with
      | int y =>
        cases st with
        | nil => cases h
        | cons a st =>
          cases a with
          | int x =>
            cases h
            exact z_ishl X hdg kz
          | _ => cases h
      | _ => cases h
  | ishr =>
    dsimp only [zst] at h
    cases st with
    | nil => cases h
    | cons a st =>
      cases a with
      | int y =>
        cases st with
        | nil => cases h
        | cons a st =>
          cases a with
          | int x =>
            cases h
            exact z_ishr X hdg kz
          | _ => cases h
      | _ => cases h
  | ladd =>
    dsimp only [zst] at h
    cases st with
    | nil => cases h
    | cons a st =>
      cases a with
      | long y =>
        cases st with
        | nil => cases h
        | cons a st =>
          cases a with
          | long x =>
            cases h
            exact z_ladd X hdg kz
          | _ => cases h
      | _ => cases h
  | lsub =>
    dsimp only [zst] at h
    cases st with
    | nil => cases h
    | cons a st =>
      cases a with
      | long y =>
        cases st with
        | nil => cases h
        | cons a st =>
          cases a with
          | long x =>
            cases h
            exact z_lsub X hdg kz
          | _ => cases h
      | _ => cases h
  | lmul =>
    dsimp only [zst] at h
    cases st with
    | nil => cases h
    | cons a st =>
      cases a with
      | long y =>
        cases st with
        | nil => cases h
        | cons a st =>
          cases a with
          | long x =>
            cases h
            exact z_lmul X hdg kz
          | _ => cases h
      | _ => cases h
  | land =>
    dsimp only [zst] at h
    cases st with
    | nil => cases h
    | cons a st =>
      cases a with
      | long y =>
        cases st with
        | nil => cases h
        | cons a st =>
          cases a with
          | long x =>
            cases h
            exact z_land X hdg kz
          | _ => cases h
      | _ => cases h
  | lor =>
    dsimp only [zst] at h
    cases st with
    | nil => cases h
    | cons a st =>
      cases a with
      | long y =>
        cases st with
        | nil => cases h
        | cons a st =>
          cases a with
          | long x =>
            cases h
            exact z_lor X hdg kz
          | _ => cases h
      | _ => cases h
  | lcmp =>
    dsimp only [zst] at h
    cases st with
    | nil => cases h
    | cons a st =>
      cases a with
      | long y =>
        cases st with
        | nil => cases h
        | cons a st =>
          cases a with
          | long x =>
            cases h
            exact z_lcmp X hdg kz
          | _ => cases h
      | _ => cases h
  | ineg =>
    dsimp only [zst] at h
    cases st with
    | nil => cases h
    | cons a st =>
      cases a with
      | int x =>
        cases h
        exact z_ineg X hdg kz
      | _ => cases h
  | lneg =>
    dsimp only [zst] at h
    cases st with
    | nil => cases h
    | cons a st =>
      cases a with
      | long x =>
        cases h
        exact z_lneg X hdg kz
      | _ => cases h
  | i2l =>
    dsimp only [zst] at h
    cases st with
    | nil => cases h
    | cons a st =>
      cases a with
      | int x =>
        cases h
        exact z_i2l X hdg rfl kz
      | _ => cases h
  | l2i =>
    dsimp only [zst] at h
    cases st with
    | nil => cases h
    | cons a st =>
      cases a with
      | long x =>
        cases h
        exact z_l2i X hdg rfl kz
      | _ => cases h
  | i2b =>
    dsimp only [zst] at h
    cases st with
    | nil => cases h
    | cons a st =>
      cases a with
      | int x =>
        cases h
        exact z_i2b X hdg rfl kz
      | _ => cases h
  | i2s =>
    dsimp only [zst] at h
    cases st with
    | nil => cases h
    | cons a st =>
      cases a with
      | int x =>
        cases h
        exact z_i2s X hdg rfl kz
      | _ => cases h
  | lshl =>
    dsimp only [zst] at h
    cases st with
    | nil => cases h
    | cons a st =>
      cases a with
      | int y =>
        cases st with
        | nil => cases h
        | cons a st =>
          cases a with
          | long x =>
            cases h
            exact z_lshl X hdg rfl kz
          | _ => cases h
      | _ => cases h
  | iinc k n =>
    dsimp only [zst] at h
    cases cv with
    | int d =>
      cases hz : zl lv k with
      | none =>
        rw [hz] at h
        cases h
      | some v =>
        rw [hz] at h
        cases v with
        | int x =>
          by_cases hk : k < nL
          · simp only [if_pos hk] at h
            cases h
            obtain ⟨q, hq⟩ := List.getElem?_of_mem (zl_mem _ _ _ hz)
            have hd : Int32.ofInt n = d := of_decide_eq_true hcv
            exact z_iinc X hdg hq (by rw [hd]) hk rfl kz
          · simp only [if_neg hk] at h
            cases h
        | _ => cases h
    | _ => cases hcv
  | dup =>
    dsimp only [zst] at h
    cases st with
    | nil => cases h
    | cons a st =>
      cases a with
      | int x =>
        cases h
        exact z_dup X hdg rfl kz
      | ref x =>
        cases h
        exact z_dup X hdg rfl kz
      | _ => cases h
  | dup2 =>
    dsimp only [zst] at h
    cases st with
    | nil => cases h
    | cons a st =>
      cases a with
      | int x =>
        cases st with
        | nil => cases h
        | cons b st =>
          cases b with
          | int y =>
            cases h
            exact z_dup2_11 X hdg rfl rfl kz
          | ref y =>
            cases h
            exact z_dup2_11 X hdg rfl rfl kz
          | _ => cases h
      | long x =>
        cases h
        exact z_dup2_2 X hdg rfl kz
      | _ => cases h
  | pop =>
    dsimp only [zst] at h
    cases st with
    | nil => cases h
    | cons a st =>
      cases a with
      | int x =>
        cases h
        exact z_pop X hdg rfl kz
      | ref x =>
        cases h
        exact z_pop X hdg rfl kz
      | _ => cases h
  | _ => exact absurd h (by simp [zst])
theorem zrun_ok (X : ZC p s m args meth c cc nL own G A ret nm) : ∀ (b : ZB) {pc : Nat} {lv lv' : List (Nat × Value)} {st st' : List Value}, zchk cc b pc = true → zrun nL b lv st = some (lv', st') → Z p l e R s m args below meth c nL G A Q (zpc b pc) lv' st' ws kc ks → Z p l e R s m args below meth c nL G A Q pc lv st ws kc ks
  | [], pc, lv, lv', st, st', _, h, kz => by
    cases h
    exact kz
  | x :: b, pc, lv, lv', st, st', hc, h, kz => by
    unfold zchk at hc
    unfold zrun at h
    simp only [Bool.and_eq_true, decide_eq_true_eq] at hc
    cases hz : zst nL x.1 x.2 lv st with
    | none =>
      rw [hz] at h
      cases h
    | some q =>
      rw [hz] at h
      exact zst_ok X hc.1 hc.2.1 hz (zrun_ok X b hc.2.2 h kz)
/-- a straight block b from pc to pc2 -/
theorem z_run (X : ZC p s m args meth c cc nL own G A ret nm) (b : ZB) {pc pc2 : Nat} {lv lv' : List (Nat × Value)} {st st' : List Value} (hc : zchk cc b pc = true ∧ zpc b pc = pc2) (h : zrun nL b lv st = some (lv', st')) (kz : Z p l e R s m args below meth c nL G A Q pc2 lv' st' ws kc ks) : Z p l e R s m args below meth c nL G A Q pc lv st ws kc ks := zrun_ok X b hc.1 h (by rw [hc.2]; exact kz)
end ZRUN
end
