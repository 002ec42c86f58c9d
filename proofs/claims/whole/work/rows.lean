section
-- ===== PART A: goes FIRST, ahead of the names: the tables' words, and 'selects' of the private methods out of them =====
/-- a private method of a class that the tables say can be made, by its rows of tables_1 -/
def lw_okq (q : MethodName × Nat) : Prop := (q.1.cls ≠ "java/lang/invoke/MethodHandle" ∧ q.1.cls ≠ "java/lang/invoke/VarHandle") ∧ Cond.instantiable q.1.cls q.2 ∈ tables_1 ∧ Cond.privateMethod q.1 ∈ tables_1 ∧ Cond.instanceMethod q.1 ∈ tables_1
theorem lw_p0 : lw_okq (⟨"Swapyard", "placesAgree", "()Z"⟩, 11) := ⟨⟨by decide +kernel, by decide +kernel⟩, List.mem_of_getElem? (i := 31) (by decide +kernel), List.mem_of_getElem? (i := 234) (by decide +kernel), List.mem_of_getElem? (i := 235) (by decide +kernel)⟩
theorem lw_p1 : lw_okq (⟨"Swapyard", "framesAreSingle", "()Z"⟩, 11) := ⟨⟨by decide +kernel, by decide +kernel⟩, List.mem_of_getElem? (i := 31) (by decide +kernel), List.mem_of_getElem? (i := 246) (by decide +kernel), List.mem_of_getElem? (i := 247) (by decide +kernel)⟩
theorem lw_p2 : lw_okq (⟨"java/lang/Throwable", "fillInStackTrace", "(I)Ljava/lang/Throwable;"⟩, 6) := ⟨⟨by decide +kernel, by decide +kernel⟩, List.mem_of_getElem? (i := 307) (by decide +kernel), List.mem_of_getElem? (i := 305) (by decide +kernel), List.mem_of_getElem? (i := 306) (by decide +kernel)⟩
theorem lw_p3 : lw_okq (⟨"java/util/ArrayList", "add", "(Ljava/lang/Object;[Ljava/lang/Object;I)V"⟩, 3) := ⟨⟨by decide +kernel, by decide +kernel⟩, List.mem_of_getElem? (i := 83) (by decide +kernel), List.mem_of_getElem? (i := 432) (by decide +kernel), List.mem_of_getElem? (i := 433) (by decide +kernel)⟩
theorem lw_p4 : lw_okq (⟨"java/util/ArrayList", "grow", "()[Ljava/lang/Object;"⟩, 3) := ⟨⟨by decide +kernel, by decide +kernel⟩, List.mem_of_getElem? (i := 83) (by decide +kernel), List.mem_of_getElem? (i := 436) (by decide +kernel), List.mem_of_getElem? (i := 437) (by decide +kernel)⟩
theorem lw_p5 : lw_okq (⟨"java/util/ArrayList", "grow", "(I)[Ljava/lang/Object;"⟩, 3) := ⟨⟨by decide +kernel, by decide +kernel⟩, List.mem_of_getElem? (i := 83) (by decide +kernel), List.mem_of_getElem? (i := 440) (by decide +kernel), List.mem_of_getElem? (i := 441) (by decide +kernel)⟩
theorem lw_p6 : lw_okq (⟨"Swapyard", "serviceAt", "(I)LSwapyard$Service;"⟩, 11) := ⟨⟨by decide +kernel, by decide +kernel⟩, List.mem_of_getElem? (i := 31) (by decide +kernel), List.mem_of_getElem? (i := 523) (by decide +kernel), List.mem_of_getElem? (i := 524) (by decide +kernel)⟩
theorem lw_p7 : lw_okq (⟨"Swapyard", "requireService", "(I)V"⟩, 11) := ⟨⟨by decide +kernel, by decide +kernel⟩, List.mem_of_getElem? (i := 31) (by decide +kernel), List.mem_of_getElem? (i := 527) (by decide +kernel), List.mem_of_getElem? (i := 528) (by decide +kernel)⟩
theorem lw_p8 : lw_okq (⟨"Swapyard", "allNeedsOf", "(I)I"⟩, 11) := ⟨⟨by decide +kernel, by decide +kernel⟩, List.mem_of_getElem? (i := 31) (by decide +kernel), List.mem_of_getElem? (i := 545) (by decide +kernel), List.mem_of_getElem? (i := 546) (by decide +kernel)⟩
theorem lw_p9 : lw_okq (⟨"Swapyard", "pageAt", "(II)LSwapyard$Page;"⟩, 11) := ⟨⟨by decide +kernel, by decide +kernel⟩, List.mem_of_getElem? (i := 31) (by decide +kernel), List.mem_of_getElem? (i := 578) (by decide +kernel), List.mem_of_getElem? (i := 579) (by decide +kernel)⟩
theorem lw_p10 : lw_okq (⟨"java/util/ArrayList", "fastRemove", "([Ljava/lang/Object;I)V"⟩, 3) := ⟨⟨by decide +kernel, by decide +kernel⟩, List.mem_of_getElem? (i := 83) (by decide +kernel), List.mem_of_getElem? (i := 616) (by decide +kernel), List.mem_of_getElem? (i := 617) (by decide +kernel)⟩
theorem lw_p11 : lw_okq (⟨"Swapyard", "isRunning", "(I)Z"⟩, 11) := ⟨⟨by decide +kernel, by decide +kernel⟩, List.mem_of_getElem? (i := 31) (by decide +kernel), List.mem_of_getElem? (i := 648) (by decide +kernel), List.mem_of_getElem? (i := 649) (by decide +kernel)⟩
theorem lw_p12 : lw_okq (⟨"Swapyard", "bringIntoFrame", "(LSwapyard$Page;)I"⟩, 11) := ⟨⟨by decide +kernel, by decide +kernel⟩, List.mem_of_getElem? (i := 31) (by decide +kernel), List.mem_of_getElem? (i := 653) (by decide +kernel), List.mem_of_getElem? (i := 654) (by decide +kernel)⟩
theorem lw_p13 : lw_okq (⟨"Swapyard", "detach", "(LSwapyard$Page;)V"⟩, 11) := ⟨⟨by decide +kernel, by decide +kernel⟩, List.mem_of_getElem? (i := 31) (by decide +kernel), List.mem_of_getElem? (i := 660) (by decide +kernel), List.mem_of_getElem? (i := 661) (by decide +kernel)⟩
theorem lw_p14 : lw_okq (⟨"Swapyard", "clearFrame", "()I"⟩, 11) := ⟨⟨by decide +kernel, by decide +kernel⟩, List.mem_of_getElem? (i := 31) (by decide +kernel), List.mem_of_getElem? (i := 672) (by decide +kernel), List.mem_of_getElem? (i := 673) (by decide +kernel)⟩
theorem lw_p15 : lw_okq (⟨"Swapyard$Frames", "takeReference", "(I)Z"⟩, 3) := ⟨⟨by decide +kernel, by decide +kernel⟩, List.mem_of_getElem? (i := 57) (by decide +kernel), List.mem_of_getElem? (i := 680) (by decide +kernel), List.mem_of_getElem? (i := 681) (by decide +kernel)⟩
def lw_privs_1 : List (MethodName × Nat) := [(⟨"Swapyard", "placesAgree", "()Z"⟩, 11), (⟨"Swapyard", "framesAreSingle", "()Z"⟩, 11), (⟨"java/lang/Throwable", "fillInStackTrace", "(I)Ljava/lang/Throwable;"⟩, 6), (⟨"java/util/ArrayList", "add", "(Ljava/lang/Object;[Ljava/lang/Object;I)V"⟩, 3), (⟨"java/util/ArrayList", "grow", "()[Ljava/lang/Object;"⟩, 3), (⟨"java/util/ArrayList", "grow", "(I)[Ljava/lang/Object;"⟩, 3), (⟨"Swapyard", "serviceAt", "(I)LSwapyard$Service;"⟩, 11), (⟨"Swapyard", "requireService", "(I)V"⟩, 11), (⟨"Swapyard", "allNeedsOf", "(I)I"⟩, 11), (⟨"Swapyard", "pageAt", "(II)LSwapyard$Page;"⟩, 11), (⟨"java/util/ArrayList", "fastRemove", "([Ljava/lang/Object;I)V"⟩, 3), (⟨"Swapyard", "isRunning", "(I)Z"⟩, 11), (⟨"Swapyard", "bringIntoFrame", "(LSwapyard$Page;)I"⟩, 11), (⟨"Swapyard", "detach", "(LSwapyard$Page;)V"⟩, 11), (⟨"Swapyard", "clearFrame", "()I"⟩, 11), (⟨"Swapyard$Frames", "takeReference", "(I)Z"⟩, 3)]
theorem lw_r1 : ∀ q ∈ lw_privs_1, lw_okq q := List.forall_mem_cons.mpr ⟨lw_p0, List.forall_mem_cons.mpr ⟨lw_p1, List.forall_mem_cons.mpr ⟨lw_p2, List.forall_mem_cons.mpr ⟨lw_p3, List.forall_mem_cons.mpr ⟨lw_p4, List.forall_mem_cons.mpr ⟨lw_p5, List.forall_mem_cons.mpr ⟨lw_p6, List.forall_mem_cons.mpr ⟨lw_p7, List.forall_mem_cons.mpr ⟨lw_p8, List.forall_mem_cons.mpr ⟨lw_p9, List.forall_mem_cons.mpr ⟨lw_p10, List.forall_mem_cons.mpr ⟨lw_p11, List.forall_mem_cons.mpr ⟨lw_p12, List.forall_mem_cons.mpr ⟨lw_p13, List.forall_mem_cons.mpr ⟨lw_p14, List.forall_mem_cons.mpr ⟨lw_p15, fun _ h => absurd h List.not_mem_nil⟩⟩⟩⟩⟩⟩⟩⟩⟩⟩⟩⟩⟩⟩⟩⟩
theorem lw_p16 : lw_okq (⟨"Swapyard", "countTouch", "(LSwapyard$Service;I)V"⟩, 11) := ⟨⟨by decide +kernel, by decide +kernel⟩, List.mem_of_getElem? (i := 31) (by decide +kernel), List.mem_of_getElem? (i := 694) (by decide +kernel), List.mem_of_getElem? (i := 695) (by decide +kernel)⟩
theorem lw_p17 : lw_okq (⟨"Swapyard", "passOneTick", "()V"⟩, 11) := ⟨⟨by decide +kernel, by decide +kernel⟩, List.mem_of_getElem? (i := 31) (by decide +kernel), List.mem_of_getElem? (i := 709) (by decide +kernel), List.mem_of_getElem? (i := 710) (by decide +kernel)⟩
theorem lw_p18 : lw_okq (⟨"Swapyard", "killNextVictim", "()V"⟩, 11) := ⟨⟨by decide +kernel, by decide +kernel⟩, List.mem_of_getElem? (i := 31) (by decide +kernel), List.mem_of_getElem? (i := 713) (by decide +kernel), List.mem_of_getElem? (i := 714) (by decide +kernel)⟩
theorem lw_p19 : lw_okq (⟨"Swapyard", "nextVictim", "()LSwapyard$Service;"⟩, 11) := ⟨⟨by decide +kernel, by decide +kernel⟩, List.mem_of_getElem? (i := 31) (by decide +kernel), List.mem_of_getElem? (i := 717) (by decide +kernel), List.mem_of_getElem? (i := 718) (by decide +kernel)⟩
theorem lw_p20 : lw_okq (⟨"Swapyard", "startDeadServices", "()V"⟩, 11) := ⟨⟨by decide +kernel, by decide +kernel⟩, List.mem_of_getElem? (i := 31) (by decide +kernel), List.mem_of_getElem? (i := 735) (by decide +kernel), List.mem_of_getElem? (i := 736) (by decide +kernel)⟩
theorem lw_p21 : lw_okq (⟨"Swapyard", "isNeededByLiving", "(I)Z"⟩, 11) := ⟨⟨by decide +kernel, by decide +kernel⟩, List.mem_of_getElem? (i := 31) (by decide +kernel), List.mem_of_getElem? (i := 743) (by decide +kernel), List.mem_of_getElem? (i := 744) (by decide +kernel)⟩
theorem lw_p22 : lw_okq (⟨"SwapyardModel", "fails", "(I)Z"⟩, 27) := ⟨⟨by decide +kernel, by decide +kernel⟩, List.mem_of_getElem? (i := 900) (by decide +kernel), List.mem_of_getElem? (i := 1001) (by decide +kernel), List.mem_of_getElem? (i := 1002) (by decide +kernel)⟩
theorem lw_p23 : lw_okq (⟨"SwapyardModel", "isNone", "(I)Z"⟩, 27) := ⟨⟨by decide +kernel, by decide +kernel⟩, List.mem_of_getElem? (i := 900) (by decide +kernel), List.mem_of_getElem? (i := 1009) (by decide +kernel), List.mem_of_getElem? (i := 1010) (by decide +kernel)⟩
theorem lw_p24 : lw_okq (⟨"SwapyardModel", "needsAtLast", "(II)Z"⟩, 27) := ⟨⟨by decide +kernel, by decide +kernel⟩, List.mem_of_getElem? (i := 900) (by decide +kernel), List.mem_of_getElem? (i := 1013) (by decide +kernel), List.mem_of_getElem? (i := 1014) (by decide +kernel)⟩
theorem lw_p25 : lw_okq (⟨"SwapyardModel", "needs", "(II)Z"⟩, 27) := ⟨⟨by decide +kernel, by decide +kernel⟩, List.mem_of_getElem? (i := 900) (by decide +kernel), List.mem_of_getElem? (i := 1017) (by decide +kernel), List.mem_of_getElem? (i := 1018) (by decide +kernel)⟩
theorem lw_p26 : lw_okq (⟨"SwapyardModel", "isNoPage", "(II)Z"⟩, 27) := ⟨⟨by decide +kernel, by decide +kernel⟩, List.mem_of_getElem? (i := 900) (by decide +kernel), List.mem_of_getElem? (i := 1025) (by decide +kernel), List.mem_of_getElem? (i := 1026) (by decide +kernel)⟩
theorem lw_p27 : lw_okq (⟨"SwapyardModel", "takesOut", "(I)V"⟩, 27) := ⟨⟨by decide +kernel, by decide +kernel⟩, List.mem_of_getElem? (i := 900) (by decide +kernel), List.mem_of_getElem? (i := 1033) (by decide +kernel), List.mem_of_getElem? (i := 1034) (by decide +kernel)⟩
theorem lw_p28 : lw_okq (⟨"SwapyardModel", "makesRoom", "(I)V"⟩, 27) := ⟨⟨by decide +kernel, by decide +kernel⟩, List.mem_of_getElem? (i := 900) (by decide +kernel), List.mem_of_getElem? (i := 1037) (by decide +kernel), List.mem_of_getElem? (i := 1038) (by decide +kernel)⟩
theorem lw_p29 : lw_okq (⟨"SwapyardModel", "taken", "()I"⟩, 27) := ⟨⟨by decide +kernel, by decide +kernel⟩, List.mem_of_getElem? (i := 900) (by decide +kernel), List.mem_of_getElem? (i := 1041) (by decide +kernel), List.mem_of_getElem? (i := 1042) (by decide +kernel)⟩
theorem lw_p30 : lw_okq (⟨"SwapyardModel", "unstores", "(I)V"⟩, 27) := ⟨⟨by decide +kernel, by decide +kernel⟩, List.mem_of_getElem? (i := 900) (by decide +kernel), List.mem_of_getElem? (i := 1045) (by decide +kernel), List.mem_of_getElem? (i := 1046) (by decide +kernel)⟩
theorem lw_p31 : lw_okq (⟨"SwapyardModel", "runs", "(I)Z"⟩, 27) := ⟨⟨by decide +kernel, by decide +kernel⟩, List.mem_of_getElem? (i := 900) (by decide +kernel), List.mem_of_getElem? (i := 1061) (by decide +kernel), List.mem_of_getElem? (i := 1062) (by decide +kernel)⟩
def lw_privs_2 : List (MethodName × Nat) := [(⟨"Swapyard", "countTouch", "(LSwapyard$Service;I)V"⟩, 11), (⟨"Swapyard", "passOneTick", "()V"⟩, 11), (⟨"Swapyard", "killNextVictim", "()V"⟩, 11), (⟨"Swapyard", "nextVictim", "()LSwapyard$Service;"⟩, 11), (⟨"Swapyard", "startDeadServices", "()V"⟩, 11), (⟨"Swapyard", "isNeededByLiving", "(I)Z"⟩, 11), (⟨"SwapyardModel", "fails", "(I)Z"⟩, 27), (⟨"SwapyardModel", "isNone", "(I)Z"⟩, 27), (⟨"SwapyardModel", "needsAtLast", "(II)Z"⟩, 27), (⟨"SwapyardModel", "needs", "(II)Z"⟩, 27), (⟨"SwapyardModel", "isNoPage", "(II)Z"⟩, 27), (⟨"SwapyardModel", "takesOut", "(I)V"⟩, 27), (⟨"SwapyardModel", "makesRoom", "(I)V"⟩, 27), (⟨"SwapyardModel", "taken", "()I"⟩, 27), (⟨"SwapyardModel", "unstores", "(I)V"⟩, 27), (⟨"SwapyardModel", "runs", "(I)Z"⟩, 27)]
theorem lw_r2 : ∀ q ∈ lw_privs_2, lw_okq q := List.forall_mem_cons.mpr ⟨lw_p16, List.forall_mem_cons.mpr ⟨lw_p17, List.forall_mem_cons.mpr ⟨lw_p18, List.forall_mem_cons.mpr ⟨lw_p19, List.forall_mem_cons.mpr ⟨lw_p20, List.forall_mem_cons.mpr ⟨lw_p21, List.forall_mem_cons.mpr ⟨lw_p22, List.forall_mem_cons.mpr ⟨lw_p23, List.forall_mem_cons.mpr ⟨lw_p24, List.forall_mem_cons.mpr ⟨lw_p25, List.forall_mem_cons.mpr ⟨lw_p26, List.forall_mem_cons.mpr ⟨lw_p27, List.forall_mem_cons.mpr ⟨lw_p28, List.forall_mem_cons.mpr ⟨lw_p29, List.forall_mem_cons.mpr ⟨lw_p30, List.forall_mem_cons.mpr ⟨lw_p31, fun _ h => absurd h List.not_mem_nil⟩⟩⟩⟩⟩⟩⟩⟩⟩⟩⟩⟩⟩⟩⟩⟩
theorem lw_p32 : lw_okq (⟨"SwapyardModel", "frameWith", "(I)I"⟩, 27) := ⟨⟨by decide +kernel, by decide +kernel⟩, List.mem_of_getElem? (i := 900) (by decide +kernel), List.mem_of_getElem? (i := 1065) (by decide +kernel), List.mem_of_getElem? (i := 1066) (by decide +kernel)⟩
theorem lw_p33 : lw_okq (⟨"SwapyardModel", "comes", "(I)V"⟩, 27) := ⟨⟨by decide +kernel, by decide +kernel⟩, List.mem_of_getElem? (i := 900) (by decide +kernel), List.mem_of_getElem? (i := 1069) (by decide +kernel), List.mem_of_getElem? (i := 1070) (by decide +kernel)⟩
theorem lw_p34 : lw_okq (⟨"SwapyardModel", "leaves", "(I)V"⟩, 27) := ⟨⟨by decide +kernel, by decide +kernel⟩, List.mem_of_getElem? (i := 900) (by decide +kernel), List.mem_of_getElem? (i := 1073) (by decide +kernel), List.mem_of_getElem? (i := 1074) (by decide +kernel)⟩
theorem lw_p35 : lw_okq (⟨"SwapyardModel", "freeFrame", "()I"⟩, 27) := ⟨⟨by decide +kernel, by decide +kernel⟩, List.mem_of_getElem? (i := 900) (by decide +kernel), List.mem_of_getElem? (i := 1077) (by decide +kernel), List.mem_of_getElem? (i := 1078) (by decide +kernel)⟩
theorem lw_p36 : lw_okq (⟨"SwapyardModel", "clears", "()V"⟩, 27) := ⟨⟨by decide +kernel, by decide +kernel⟩, List.mem_of_getElem? (i := 900) (by decide +kernel), List.mem_of_getElem? (i := 1081) (by decide +kernel), List.mem_of_getElem? (i := 1082) (by decide +kernel)⟩
theorem lw_p37 : lw_okq (⟨"SwapyardModel", "ticks", "()I"⟩, 27) := ⟨⟨by decide +kernel, by decide +kernel⟩, List.mem_of_getElem? (i := 900) (by decide +kernel), List.mem_of_getElem? (i := 1089) (by decide +kernel), List.mem_of_getElem? (i := 1090) (by decide +kernel)⟩
theorem lw_p38 : lw_okq (⟨"SwapyardModel", "pressing", "()I"⟩, 27) := ⟨⟨by decide +kernel, by decide +kernel⟩, List.mem_of_getElem? (i := 900) (by decide +kernel), List.mem_of_getElem? (i := 1093) (by decide +kernel), List.mem_of_getElem? (i := 1094) (by decide +kernel)⟩
theorem lw_p39 : lw_okq (⟨"SwapyardModel", "worst", "()I"⟩, 27) := ⟨⟨by decide +kernel, by decide +kernel⟩, List.mem_of_getElem? (i := 900) (by decide +kernel), List.mem_of_getElem? (i := 1097) (by decide +kernel), List.mem_of_getElem? (i := 1098) (by decide +kernel)⟩
theorem lw_p40 : lw_okq (⟨"SwapyardModel", "scoreOf", "(I)I"⟩, 27) := ⟨⟨by decide +kernel, by decide +kernel⟩, List.mem_of_getElem? (i := 900) (by decide +kernel), List.mem_of_getElem? (i := 1101) (by decide +kernel), List.mem_of_getElem? (i := 1102) (by decide +kernel)⟩
theorem lw_p41 : lw_okq (⟨"SwapyardModel", "inPlace", "(II)I"⟩, 27) := ⟨⟨by decide +kernel, by decide +kernel⟩, List.mem_of_getElem? (i := 900) (by decide +kernel), List.mem_of_getElem? (i := 1105) (by decide +kernel), List.mem_of_getElem? (i := 1106) (by decide +kernel)⟩
theorem lw_p42 : lw_okq (⟨"SwapyardModel", "kills", "(I)V"⟩, 27) := ⟨⟨by decide +kernel, by decide +kernel⟩, List.mem_of_getElem? (i := 900) (by decide +kernel), List.mem_of_getElem? (i := 1109) (by decide +kernel), List.mem_of_getElem? (i := 1110) (by decide +kernel)⟩
theorem lw_p43 : lw_okq (⟨"SwapyardModel", "isWanted", "(I)Z"⟩, 27) := ⟨⟨by decide +kernel, by decide +kernel⟩, List.mem_of_getElem? (i := 900) (by decide +kernel), List.mem_of_getElem? (i := 1113) (by decide +kernel), List.mem_of_getElem? (i := 1114) (by decide +kernel)⟩
theorem lw_p44 : lw_okq (⟨"SwapyardModel", "tells", "(I)I"⟩, 27) := ⟨⟨by decide +kernel, by decide +kernel⟩, List.mem_of_getElem? (i := 900) (by decide +kernel), List.mem_of_getElem? (i := 1121) (by decide +kernel), List.mem_of_getElem? (i := 1122) (by decide +kernel)⟩
theorem lw_p45 : lw_okq (⟨"SwapyardModel", "placed", "(II)C"⟩, 27) := ⟨⟨by decide +kernel, by decide +kernel⟩, List.mem_of_getElem? (i := 900) (by decide +kernel), List.mem_of_getElem? (i := 1129) (by decide +kernel), List.mem_of_getElem? (i := 1130) (by decide +kernel)⟩
theorem lw_p46 : lw_okq (⟨"SwapyardModel", "isNobody", "(I)Z"⟩, 27) := ⟨⟨by decide +kernel, by decide +kernel⟩, List.mem_of_getElem? (i := 900) (by decide +kernel), List.mem_of_getElem? (i := 1177) (by decide +kernel), List.mem_of_getElem? (i := 1178) (by decide +kernel)⟩
def lw_privs_3 : List (MethodName × Nat) := [(⟨"SwapyardModel", "frameWith", "(I)I"⟩, 27), (⟨"SwapyardModel", "comes", "(I)V"⟩, 27), (⟨"SwapyardModel", "leaves", "(I)V"⟩, 27), (⟨"SwapyardModel", "freeFrame", "()I"⟩, 27), (⟨"SwapyardModel", "clears", "()V"⟩, 27), (⟨"SwapyardModel", "ticks", "()I"⟩, 27), (⟨"SwapyardModel", "pressing", "()I"⟩, 27), (⟨"SwapyardModel", "worst", "()I"⟩, 27), (⟨"SwapyardModel", "scoreOf", "(I)I"⟩, 27), (⟨"SwapyardModel", "inPlace", "(II)I"⟩, 27), (⟨"SwapyardModel", "kills", "(I)V"⟩, 27), (⟨"SwapyardModel", "isWanted", "(I)Z"⟩, 27), (⟨"SwapyardModel", "tells", "(I)I"⟩, 27), (⟨"SwapyardModel", "placed", "(II)C"⟩, 27), (⟨"SwapyardModel", "isNobody", "(I)Z"⟩, 27)]
theorem lw_r3 : ∀ q ∈ lw_privs_3, lw_okq q := List.forall_mem_cons.mpr ⟨lw_p32, List.forall_mem_cons.mpr ⟨lw_p33, List.forall_mem_cons.mpr ⟨lw_p34, List.forall_mem_cons.mpr ⟨lw_p35, List.forall_mem_cons.mpr ⟨lw_p36, List.forall_mem_cons.mpr ⟨lw_p37, List.forall_mem_cons.mpr ⟨lw_p38, List.forall_mem_cons.mpr ⟨lw_p39, List.forall_mem_cons.mpr ⟨lw_p40, List.forall_mem_cons.mpr ⟨lw_p41, List.forall_mem_cons.mpr ⟨lw_p42, List.forall_mem_cons.mpr ⟨lw_p43, List.forall_mem_cons.mpr ⟨lw_p44, List.forall_mem_cons.mpr ⟨lw_p45, List.forall_mem_cons.mpr ⟨lw_p46, fun _ h => absurd h List.not_mem_nil⟩⟩⟩⟩⟩⟩⟩⟩⟩⟩⟩⟩⟩⟩⟩
def lw_privs : List (MethodName × Nat) := lw_privs_1 ++ (lw_privs_2 ++ (lw_privs_3))
def lw_tbl : List Cond := k2_sels lw_privs ++ tables_1
theorem lw_privs_ok : ∀ q ∈ lw_privs, lw_okq q := by
  show ∀ q ∈ lw_privs_1 ++ (lw_privs_2 ++ (lw_privs_3)), lw_okq q
  exact List.forall_mem_append.mpr ⟨lw_r1, List.forall_mem_append.mpr ⟨lw_r2, lw_r3⟩⟩
/-- the streams that the claim lets the run draw from -/
abbrev lw_cs : List Choice := [Jvm.Choice.named "NaN.bits"]
theorem lw_bits : nanBits ∈ lw_cs := by first | decide | exact List.mem_cons_self | simp [lw_cs, nanBits]
end
section
/-! ===== BEGIN words of one list among another's, by their places ===== -/
theorem goodIn_r {big : List Cond} (ws : List Cond) (ps : List Nat) (hp : ws = ps.filterMap (fun i => big[i]?)) (h : ws.all goodWord = true) : GoodIn big ws := by
  intro w hw
  have h1 := List.all_eq_true.mp h w hw
  rw [hp] at hw
  obtain ⟨i, -, hi⟩ := List.mem_filterMap.mp hw
  have hm : w ∈ big := by first | exact List.mem_of_getElem? hi | exact List.getElem?_mem hi
  exact ⟨hm, good_of_word h1⟩
theorem goodIn_app {big a b : List Cond} (ha : GoodIn big a) (hb : GoodIn big b) : GoodIn big (a ++ b) := fun w h => (List.mem_append.mp h).elim (ha w) (hb w)
theorem goodIn_ca {big a b : List Cond} {c : Cond} (ha : GoodIn big (c :: a)) (hb : GoodIn big b) : GoodIn big (c :: (a ++ b)) := fun w h => (List.mem_cons.mp h).elim (fun e => ha w (List.mem_cons.mpr (Or.inl e))) (fun h => (List.mem_append.mp h).elim (fun h => ha w (List.mem_cons.mpr (Or.inr h))) (hb w))
theorem goodIn_sub {big ws : List Cond} (hm : ∀ w ∈ ws, w ∈ big) (h : ws.all goodWord = true) : GoodIn big ws := fun w hw => ⟨hm w hw, good_of_word (List.all_eq_true.mp h w hw)⟩
/-! ===== END ===== -/

/-! ===== BEGIN exceptions that leave a method, and their catching by the caller (launches without stack traces) ===== -/
section VXA
/-! The laws vx_back, vx_callV, vx_callS, vx_callSW, vx_throw0, vx_throwS follow proofs of the library, with one case more: JvmDerived/Free/Laws.lean (Back.of_free), Shelf42/LK1.lean (callV, callS), Shelf/KitTraced.lean (throwNew0V, throwNewS). -/
/-- where a method has thrown q: the class by its name, the cell, what was written, the world -/
def vx_T (XC : String → State → State → Prop) (st : State) (q : Addr) (t : State) (mc ms : Nat) (free : Addr → Prop) : Prop :=
  ∃ (E : String) (ce : Cell) (L : List Loc), XC E st t ∧ t.heap[q]? = some ce ∧ ce.vm = .none ∧ st.vm.findClass E = some ce.cls ∧ st.WarmedH t.vm ∧ st.sameButNew ({ t with vm := st.vm } : State) L mc ms ∧ ∀ z ∈ L, free z.base
def vx_Q (Qc : Array Value → State → Outcome → State → Prop) (XC : String → State → State → Prop) (mc ms : Nat) (free : Addr → Prop) : Array Value → State → Outcome → State → Prop := fun a st o t =>
  (Qc a st o t ∧ ∃ L, FrameEnd st o t L mc ms ∧ ∀ q ∈ L, free q.base) ∨ ∃ q, o = .threw q ∧ vx_T XC st q t mc ms free
/-- a callee that returns or throws -/
def vx_Met (l : Launch) (y : MethodName) (ws : List Cond) (rm : Room) (Pc : Array Value → State → Prop) (Qc : Array Value → State → Outcome → State → Prop) (XC : String → State → State → Prop) (mc ms : Nat) (free : Addr → Prop) : Prop :=
  MetFree l y (headSpec ws rm) Pc (fun _ _ _ _ _ => True) (vx_Q Qc XC mc ms free)
def vx_Post (XC : String → State → State → Prop) (mc ms : Nat) (free : Addr → Prop) : Pt → Array Value → Addr → Pt → Prop := fun A a q B =>
  ∃ (g : JFrame) (mk : MethodId) (t : State) (L : List Loc) (E : String) (ce : Cell), B.U.heap = t.heap ∧ B.U.vm = t.vm ∧ XC E (A.U.calling g mk a) t ∧ t.heap[q]? = some ce ∧ ce.vm = .none ∧ A.U.vm.findClass E = some ce.cls ∧ B.locs = A.locs ++ L ∧ (∀ z ∈ L, free z.base) ∧ B.cells = A.cells + mc ∧ B.slots = A.slots + ms
def vx_Back (l : Launch) (R : Room) (p : Program) (e : Env) (below : List Frame) (s : State) (sargs : Array Value) (y : MethodName) (len W9 : Nat)
    (Pre : Pt → Array Value → Prop) (Post : Pt → Array Value → Option Value → Pt → Prop) (PostX : Pt → Array Value → Addr → Pt → Prop) : Prop :=
  ∀ (m : MethodId) (meth : Method) (c : Code) (A : Pt) (g : JFrame) (ig : Instr) (mk : MethodId) (a : Array Value),
    Stand p l e R s m sargs below meth c A.U A.locs A.cells A.slots → g.method = m → g.locals.size = c.maxLocals → decode c.code g.pc = .ok (ig, len) →
    2 * g.monitorRoom + (g.stack.map fun v => v.category).sum ≤ W9 → A.U.methodNamed? y = some mk → Pre A a →
    (∃ (v : Option Value) (B : Pt), Stand p l e R s m sargs below meth c B.U B.locs B.cells B.slots ∧ Post A a v B ∧
      Steps p.tables e below (doInvoke e (A.U.setTop g) [] mk a).1 (B.U.setTop { g with pc := g.pc + len, stack := v.toList ++ g.stack })) ∨
    (∃ (q : Addr) (B : Pt), Stand p l e R s m sargs below meth c B.U B.locs B.cells B.slots ∧ PostX A a q B ∧
      Steps p.tables e below (doInvoke e (A.U.setTop g) [] mk a).1 ((B.U.setTop g).pushFrame (.throwing q)))
section Payer
variable {l : Launch} {R : Room} {p : Program} {e : Env} {below : List Frame} {s : State} {sargs : Array Value} {y : MethodName} {len W9 : Nat}
theorem vx_back {ws : List Cond} {rm : Room} {Pc : Array Value → State → Prop} {Qc : Array Value → State → Outcome → State → Prop} {XC : String → State → State → Prop} {mc ms : Nat} {free : Addr → Prop} {bytes : ByteArray} {maxL : Nat} {ret : Option FieldType}
    (hM : vx_Met l y ws rm Pc Qc XC mc ms free) (hblind : FrameBlind Pc) (hrc : rm.cells = mc) (hrs : rm.slots = ms)
    (hframes : rm.frames + 1 ≤ R.frames) (hlocals : W9 + (maxL + 11) + rm.locals ≤ R.locals)
    (hws : ∀ w ∈ ws, ∀ a' U, s.WarmedH U.vm → w.before a' U = true) (hcode : Cond.code y bytes maxL ret ∈ ws) (hinit : ∀ a' U, s.WarmedH U.vm → (Cond.initialized y.cls).before a' U = true) :
    vx_Back l R p e below s sargs y len W9 (PreOf R mc ms Pc) (PostOf Qc mc ms free) (vx_Post XC mc ms free) := by
  intro m meth c A g ig mk a X hg hsize hdg hW hn hp
  have h1 : (headSpec ws rm).pre.before a A.U = true := atoms_intro fun w hw => hws w hw _ _ X.warmed
  have h2 : (Cond.code y bytes maxL ret).before a A.U = true := hws _ hcode _ _ X.warmed
  have h3 : (Cond.initialized y.cls).before a A.U = true := hinit _ _ X.warmed
  have h4 : A.cells + (headSpec ws rm).room.cells ≤ R.cells := by rw [show (headSpec ws rm).room.cells = mc from hrc]; exact hp.1
  have h5 : A.slots + (headSpec ws rm).room.slots ≤ R.slots := by rw [show (headSpec ws rm).room.slots = ms from hrs]; exact hp.2.1
  have hPc : Pc a (A.U.calling g mk a) := hblind _ _ _ _ hp.2.2
  obtain ⟨U, Ls, c0, s0⟩ := A
  dsimp only [Pt.U, Pt.locs, Pt.cells, Pt.slots] at h1 h2 h3 h4 h5 X hn hPc ⊢
  obtain ⟨methY, cY, hmY, hcY, -, hlY, -, -, -, -⟩ := Cond.code_spec hn h2
  obtain ⟨kY, hkY, -⟩ := className_of_methodNamed hn
  have hinitY : kY.init = .initialized := Cond.initialized_spec (findClass_of_methodNamed hn) hkY h3
  have h : At U g.method c below := by rw [hg]; exact X.here
  have hlocals9 : W9 + (maxL + 11) + (headSpec ws rm).room.locals ≤ R.locals := hlocals
  have happ : (headSpec ws rm).appliesLoose y e.platform (U.calling g mk a) = true :=
    Spec.appliesLoose_calling (g := g) h hdg hn hkY hinitY
      (X.room_calling (g := g) (R' := (headSpec ws rm).room) hsize hmY hcY hframes (by rw [hlY]; omega) h4 h5) h1
  obtain ⟨mid, hmid⟩ := h.above
  have hfr : (U.setTop g).frames = (.java g :: mid) ++ below := by rw [State.frames_setTop' g h.top, hmid]; rfl
  obtain ⟨o, s₂, hsteps, -, hend, hq⟩ := Steps.callFree hM p X.admits X.cas X.clock (acts := []) hfr happ hPc trivial
  have hq' : vx_Q Qc XC mc ms free a (U.calling g mk a) o s₂ := hq
  rw [State.frames_setTop' g h.top] at hend
  obtain ⟨g₀, hg0⟩ := Option.isSome_iff_exists.mp h.top
  obtain ⟨r, hr⟩ := State.topJava?_eq_some.mp hg0
  have hr' : (({ U with heap := s₂.heap, slotsUsed := s₂.slotsUsed } : State).setVm s₂.vm).frames = .java g₀ :: r := hr
  rcases hq' with ⟨hqc, L, hfe, hL⟩ | ⟨q, rfl, E, ce, L, hx, hce, hcv, hcl, hW₂, hsm, hL⟩
  · obtain ⟨⟨v, rfl⟩, hW₂, e2, q2, q3, q4, q5, q6⟩ := id hfe
    have e3 : s₂ = ({ (U.calling g mk a).setFrames s₂.frames with heap := s₂.heap, slotsUsed := s₂.slotsUsed } : State).setVm s₂.vm := by
      have : s₂ = ({ s₂ with vm := (U.calling g mk a).vm } : State).setVm s₂.vm := rfl
      rw [e2] at this
      exact this
    obtain ⟨c₂, i₂, len₂, hc₂, hd₂, hf₂⟩ := hend
    have hW' : U.WarmedH s₂.vm := hW₂
    have hcc : c₂ = c := by
      have h1 : s₂.code? g.method = U.code? g.method := by
        rw [State.code?_eq, State.code?_eq, hW'.alike.method?]
      exact Option.some.inj (hc₂.symm.trans (h1.trans h.code))
    subst hcc
    have hlen : len₂ = len := by rw [hdg] at hd₂; cases hd₂; rfl
    subst hlen
    have hs₂ : s₂ = (({ U with heap := s₂.heap, slotsUsed := s₂.slotsUsed } : State).setVm s₂.vm).setTop { g with pc := g.pc + len₂, stack := v.toList ++ g.stack } := by
      refine e3.trans ?_
      rw [hf₂, State.calling_eq h.top, State.setFrames_setFrames, State.setTop_of_frames _ hr', hr]
      rfl
    have hsame : U.sameButNew ({ U with heap := s₂.heap, slotsUsed := s₂.slotsUsed } : State) L mc ms := by
      refine ⟨?_, q2, q3, q4, q5, q6⟩
      obtain ⟨t, ht, -⟩ := State.frames_cons hr
      show ({ U with heap := s₂.heap, slotsUsed := s₂.slotsUsed } : State) = { U.setFrames U.frames with heap := s₂.heap, slotsUsed := s₂.slotsUsed }
      rw [State.setFrames_self ht]
    subst hg
    refine Or.inl ⟨v, ⟨(({ U with heap := s₂.heap, slotsUsed := s₂.slotsUsed } : State).setVm s₂.vm), Ls ++ L, c0 + mc, s0 + ms⟩,
      ⟨X.admits, X.cas, X.clock, X.frames, X.room, X.hears, X.method, X.code, (X.here.setHeapUsed s₂.heap s₂.slotsUsed).setVm hW'.alike, X.tail, State.WarmedH.trans X.warmed hW', X.limits, X.bytes, X.same.trans (hsame.setVm s.vm)⟩,
      ⟨g, mk, s₂, L, rfl, rfl, hqc, rfl, hL, rfl, rfl⟩, ?_⟩
    show Steps p.tables e below _ ((({ U with heap := s₂.heap, slotsUsed := s₂.slotsUsed } : State).setVm s₂.vm).setTop { g with pc := g.pc + len₂, stack := v.toList ++ g.stack })
    rw [← hs₂]
    exact hsteps
  · obtain ⟨e2, q2, q3, q4, q5, q6⟩ := id hsm
    have e3 : s₂ = ({ (U.calling g mk a).setFrames s₂.frames with heap := s₂.heap, slotsUsed := s₂.slotsUsed } : State).setVm s₂.vm := by
      have : s₂ = ({ s₂ with vm := (U.calling g mk a).vm } : State).setVm s₂.vm := rfl
      rw [e2] at this
      exact this
    have hf₂ : s₂.frames = .throwing q :: .java g :: U.frames.tail := hend
    have hW' : U.WarmedH s₂.vm := hW₂
    have hs₂ : s₂ = ((({ U with heap := s₂.heap, slotsUsed := s₂.slotsUsed } : State).setVm s₂.vm).setTop g).pushFrame (.throwing q) := by
      refine e3.trans ?_
      rw [hf₂, State.calling_eq h.top, State.setFrames_setFrames, State.pushFrame, State.frames_setTop _ hr', State.setTop_of_frames _ hr', State.setFrames_setFrames, hr]
      rfl
    have hsame : U.sameButNew ({ U with heap := s₂.heap, slotsUsed := s₂.slotsUsed } : State) L mc ms := by
      refine ⟨?_, q2, q3, q4, q5, q6⟩
      obtain ⟨t, ht, -⟩ := State.frames_cons hr
      show ({ U with heap := s₂.heap, slotsUsed := s₂.slotsUsed } : State) = { U.setFrames U.frames with heap := s₂.heap, slotsUsed := s₂.slotsUsed }
      rw [State.setFrames_self ht]
    subst hg
    refine Or.inr ⟨q, ⟨(({ U with heap := s₂.heap, slotsUsed := s₂.slotsUsed } : State).setVm s₂.vm), Ls ++ L, c0 + mc, s0 + ms⟩,
      ⟨X.admits, X.cas, X.clock, X.frames, X.room, X.hears, X.method, X.code, (X.here.setHeapUsed s₂.heap s₂.slotsUsed).setVm hW'.alike, X.tail, State.WarmedH.trans X.warmed hW', X.limits, X.bytes, X.same.trans (hsame.setVm s.vm)⟩,
      ⟨g, mk, s₂, L, E, ce, rfl, rfl, hx, hce, hcv, hcl, rfl, hL, rfl, rfl⟩, ?_⟩
    show Steps p.tables e below _ (((({ U with heap := s₂.heap, slotsUsed := s₂.slotsUsed } : State).setVm s₂.vm).setTop g).pushFrame (.throwing q))
    rw [← hs₂]
    exact hsteps
end Payer
section Calls
variable {p : Program} {l : Launch} {e : Env} {R : Room} {s : State} {m : MethodId} {args : Array Value} {below : List Frame} {meth : Method} {c : Code} {T : State} {locs : List Loc} {cells slots : Nat}
theorem vx_callV (X : Stand p l e R s m args below meth c T locs cells slots) (hexec : p.tables.exec = Jvm.exec) {own C : String} {index : Nat} {y : MethodName} {bytes : ByteArray} {maxL : Nat} {ret : Option FieldType}
    (hown : s.vm.findClass own = some m.cls) (hlink : (Cond.methodLink own index y).before args s = true) (hinst : (Cond.instanceMethod y).before args s = true) (hsel : (Cond.selects C y y).before args s = true)
    (hcode : (Cond.code y bytes maxL ret).before args s = true) (hy : y.cls ≠ "java/lang/invoke/MethodHandle" ∧ y.cls ≠ "java/lang/invoke/VarHandle")
    {W9 : Nat} {Pre : Pt → Array Value → Prop} {Post : Pt → Array Value → Option Value → Pt → Prop} {PostX : Pt → Array Value → Addr → Pt → Prop} (hK : vx_Back l R p e below s args y 3 W9 Pre Post PostX)
    {b : Addr} {cellB : Cell} (hcell : T.heap[b]? = some cellB) (hobj : cellB.vm.isStatics = false) (hcls : s.vm.findClass C = some cellB.cls)
    {g : JFrame} (hg : g.method = m) (hsize : g.locals.size = c.maxLocals) {argsL rest : List Value} (hlen : ∀ sig, parseMethodDescriptor y.desc = some sig → argsL.length = sig.parameters.length)
    (hstack : g.stack = argsL.reverse ++ .ref b :: rest) (hW : 2 * g.monitorRoom + (rest.map fun v => v.category).sum ≤ W9) (hdg : decode c.code g.pc = .ok (.invokevirtual index, 3))
    (hpre : ∀ vm₁, s.WarmedH vm₁ → Pre ⟨T.setVm vm₁, locs, cells, slots⟩ (Value.ref b :: argsL).toArray) :
    (∃ (v : Option Value) (vm₁ : Vm) (B : Pt), s.WarmedH vm₁ ∧ Stand p l e R s m args below meth c B.U B.locs B.cells B.slots ∧ Post ⟨T.setVm vm₁, locs, cells, slots⟩ (Value.ref b :: argsL).toArray v B ∧
      ∀ target, Steps p.tables e below (B.U.setTop { g with pc := g.pc + 3, stack := v.toList ++ rest }) target → Steps p.tables e below (T.setTop g) target) ∨
    (∃ (q : Addr) (vm₁ : Vm) (B : Pt), s.WarmedH vm₁ ∧ Stand p l e R s m args below meth c B.U B.locs B.cells B.slots ∧ PostX ⟨T.setVm vm₁, locs, cells, slots⟩ (Value.ref b :: argsL).toArray q B ∧
      Steps p.tables e below (T.setTop g) ((B.U.setTop { g with stack := rest }).pushFrame (.throwing q))) := by
  obtain ⟨mk, methM, hnamed, hmethM, hstM, habM⟩ := Cond.instanceMethod_spec hinst
  obtain ⟨methM', cM, hmethM', -, -, -, -, -, -, hsigM⟩ := Cond.code_spec hnamed hcode
  cases hmethM.symm.trans hmethM'
  obtain ⟨c2, r2, m2, q1, q2, q3, q4, kP, hkP, hkPi⟩ := Cond.selects_spec hsel
  cases hcls.symm.trans q1
  cases (State.methodFound?_of_named hnamed hy).symm.trans q2
  cases hnamed.symm.trans q3
  have hselP : selectMethod e.platform s.vm cellB.cls mk = .method mk := by rw [Launch.admits_selectMethod X.admits]; exact q4
  obtain ⟨vm₁, X₁, hstep₁⟩ := X.invokevirtual hexec hown hlink hnamed hmethM hstM hkP hkPi hy (a := b) (cell := cellB) hcell
    (fun z h => by rw [h] at hobj; cases hobj) hselP hmethM habM hkP hkPi (g := g) hg (argsL := argsL) (rest := rest) (hlen _ hsigM) hstack hdg
  rcases hK m meth c ⟨T.setVm vm₁, locs, cells, slots⟩ { g with stack := rest } (.invokevirtual index) mk (Value.ref b :: argsL).toArray X₁ hg hsize hdg hW (X₁.named hnamed) (hpre vm₁ X₁.warmed) with ⟨v, B, X', hpost, hsteps⟩ | ⟨q, B, X', hpost, hsteps⟩
  · exact Or.inl ⟨v, vm₁, B, X₁.warmed, X', hpost, fun target h => hstep₁ _ fun acts => by rw [doInvoke_state]; exact hsteps.trans h⟩
  · exact Or.inr ⟨q, vm₁, B, X₁.warmed, X', hpost, hstep₁ _ fun acts => by rw [doInvoke_state]; exact hsteps⟩
theorem vx_callS (X : Stand p l e R s m args below meth c T locs cells slots) (hexec : p.tables.exec = Jvm.exec) {own : String} {index : Nat} {y : MethodName} {bytes : ByteArray} {maxL : Nat} {ret : Option FieldType}
    (hown : s.vm.findClass own = some m.cls) (hlink : (Cond.methodLink own index y).before args s = true) (hstat : (Cond.static y).before args s = true) (hinit : (Cond.initialized y.cls).before args s = true)
    (hcode : (Cond.code y bytes maxL ret).before args s = true) (hy : y.cls ≠ "java/lang/invoke/MethodHandle" ∧ y.cls ≠ "java/lang/invoke/VarHandle")
    {W9 : Nat} {Pre : Pt → Array Value → Prop} {Post : Pt → Array Value → Option Value → Pt → Prop} {PostX : Pt → Array Value → Addr → Pt → Prop} (hK : vx_Back l R p e below s args y 3 W9 Pre Post PostX)
    {g : JFrame} (hg : g.method = m) (hsize : g.locals.size = c.maxLocals) {argsL rest : List Value} (hlen : ∀ sig, parseMethodDescriptor y.desc = some sig → argsL.length = sig.parameters.length)
    (hstack : g.stack = argsL.reverse ++ rest) (hW : 2 * g.monitorRoom + (rest.map fun v => v.category).sum ≤ W9) (hdg : decode c.code g.pc = .ok (.invokestatic index, 3))
    (hpre : ∀ vm₁, s.WarmedH vm₁ → Pre ⟨T.setVm vm₁, locs, cells, slots⟩ argsL.toArray) :
    (∃ (v : Option Value) (vm₁ : Vm) (B : Pt), s.WarmedH vm₁ ∧ Stand p l e R s m args below meth c B.U B.locs B.cells B.slots ∧ Post ⟨T.setVm vm₁, locs, cells, slots⟩ argsL.toArray v B ∧
      ∀ target, Steps p.tables e below (B.U.setTop { g with pc := g.pc + 3, stack := v.toList ++ rest }) target → Steps p.tables e below (T.setTop g) target) ∨
    (∃ (q : Addr) (vm₁ : Vm) (B : Pt), s.WarmedH vm₁ ∧ Stand p l e R s m args below meth c B.U B.locs B.cells B.slots ∧ PostX ⟨T.setVm vm₁, locs, cells, slots⟩ argsL.toArray q B ∧
      Steps p.tables e below (T.setTop g) ((B.U.setTop { g with stack := rest }).pushFrame (.throwing q))) := by
  obtain ⟨mk, hnamed⟩ := Cond.code_named hcode
  obtain ⟨methM, cM, hmethM, -, -, -, -, -, -, hsigM⟩ := Cond.code_spec hnamed hcode
  have hstatic : methM.isStatic = true := Cond.static_spec hnamed hmethM hstat
  obtain ⟨kP, hkP, -⟩ := className_of_methodNamed hnamed
  have hinitP : kP.init = .initialized := Cond.initialized_spec (findClass_of_methodNamed hnamed) hkP hinit
  obtain ⟨vm₁, X₁, hstep₁⟩ := X.invokestatic hexec hown hlink hnamed hmethM hstatic hkP hinitP hy (g := g) hg (argsL := argsL) (rest := rest) (hlen _ hsigM) hstack hdg
  rcases hK m meth c ⟨T.setVm vm₁, locs, cells, slots⟩ { g with stack := rest } (.invokestatic index) mk argsL.toArray X₁ hg hsize hdg hW (X₁.named hnamed) (hpre vm₁ X₁.warmed) with ⟨v, B, X', hpost, hsteps⟩ | ⟨q, B, X', hpost, hsteps⟩
  · exact Or.inl ⟨v, vm₁, B, X₁.warmed, X', hpost, fun target h => hstep₁ _ fun acts => by rw [doInvoke_state]; exact hsteps.trans h⟩
  · exact Or.inr ⟨q, vm₁, B, X₁.warmed, X', hpost, hstep₁ _ fun acts => by rw [doInvoke_state]; exact hsteps⟩
end Calls
theorem vx_cls {s : State} {T : State} {vm₁ : Vm} {E : String} {k : ClassId} (hW : s.WarmedH vm₁) (h : (T.setVm vm₁).vm.findClass E = some k) : s.vm.findClass E = some k := by
  have h1 : vm₁.findClass E = some k := h
  rw [hW.alike.findClass] at h1
  exact h1
/-- the method's frame g, with q thrown over it -/
def vx_W (p : Program) (l : Launch) (e : Env) (R : Room) (s : State) (m : MethodId) (args : Array Value) (below : List Frame) (meth : Method) (c : Code) (H : Heap) (locs : List Loc) (cells slots : Nat) (Q : State → Prop) (g : JFrame) (q : Addr) : Prop :=
  ∀ T : State, T.heap = H → Stand p l e R s m args below meth c T locs cells slots → ∃ t, Steps p.tables e below ((T.setTop g).pushFrame (.throwing q)) t ∧ Q t
def vx_Run (p : Program) (l : Launch) (e : Env) (R : Room) (s : State) (m : MethodId) (args : Array Value) (below : List Frame) (meth : Method) (c : Code) (H : Heap) (locs : List Loc) (cells slots mc ms : Nat) (g : JFrame) (rest : List Value) (Qa : State → Outcome → State → Prop) (XC : String → State → State → Prop) (free : Addr → Prop) : Prop :=
  ∀ T : State, T.heap = H → Stand p l e R s m args below meth c T locs cells slots →
    (∃ (v : Option Value) (st₀ t T' : State) (L : List Loc), st₀.heap = H ∧ Stand p l e R s m args below meth c T' (locs ++ L) (cells + mc) (slots + ms) ∧ (∀ q ∈ L, free q.base) ∧ T'.heap = t.heap ∧ T'.vm = t.vm ∧ Qa st₀ (.returned v) t ∧
      Goes p e below T g T' { g with pc := g.pc + 3, stack := v.toList ++ rest }) ∨
    (∃ (q : Addr) (st₀ t T' : State) (L : List Loc) (E : String) (ce : Cell), st₀.heap = H ∧ Stand p l e R s m args below meth c T' (locs ++ L) (cells + mc) (slots + ms) ∧ (∀ z ∈ L, free z.base) ∧ T'.heap = t.heap ∧ T'.vm = t.vm ∧ XC E st₀ t ∧ t.heap[q]? = some ce ∧ ce.vm = .none ∧ s.vm.findClass E = some ce.cls ∧
      Steps p.tables e below (T.setTop g) ((T'.setTop { g with stack := rest }).pushFrame (.throwing q)))
def vx_X {S : Type} (px : S → Prop) (B : String → S → State → Prop) (A : Nat → Prop) : String → State → State → Prop := fun E st t => ∃ u : S, px u ∧ B E u t ∧ va_F A st t
section Runs
variable {p : Program} {l : Launch} {e : Env} {R : Room} {s : State} {m : MethodId} {args : Array Value} {below : List Frame} {meth : Method} {c : Code} {H : Heap} {locs : List Loc} {cells slots : Nat}
variable {y : MethodName} {bytes cc : ByteArray} {maxL nL mc ms n index : Nat} {ret : Option FieldType} {ws : List Cond} {rm : Room} {Pc : Array Value → State → Prop} {Qc : Array Value → State → Outcome → State → Prop} {XC : String → State → State → Prop} {free : Addr → Prop} {Ts : List Cond} {own C : String} {b : Addr} {As rest : List Value} {g : JFrame}
theorem vx_callBack (cb : CallB R s args own index y bytes maxL ret ws rm mc ms n) (hM : vx_Met l y ws rm Pc Qc XC mc ms free) (hbl : FrameBlind Pc) : vx_Back l R p e below s args y 3 8 (PreOf R mc ms Pc) (PostOf Qc mc ms free) (vx_Post XC mc ms free) := by
  obtain ⟨hrc, hrs, hfr, hlo, hws, hcw, -, hini, -⟩ := cb
  exact vx_back (bytes := bytes) (maxL := maxL) (ret := ret) hM hbl hrc hrs hfr hlo hws hcw (fun a' U hW => word_at hW (Or.inl (by first | rfl | simp [Cond.onTables, Cond.keeps, Cond.steady])) hini)
theorem vx_runV (S : CallFix p m c cc nL s args Ts own) (hM : vx_Met l y ws rm Pc Qc XC mc ms free) (cw : CallW R s args own C index y bytes maxL ret ws rm mc ms n) (hp : PreV s H C b Pc As)
    (hg : g.method = m) (hn : As.length = n) (hsize : g.locals.size = nL) (hstack : g.stack = As.reverse ++ .ref b :: rest) (hW : 2 * g.monitorRoom + (rest.map fun v => v.category).sum ≤ 8) (hdg : decode cc g.pc = .ok (.invokevirtual index, 3)) (hf : cells + mc ≤ R.cells ∧ slots + ms ≤ R.slots) :
    vx_Run p l e R s m args below meth c H locs cells slots mc ms g rest (Qc (Value.ref b :: As).toArray) XC free := by
  have hK : vx_Back l R p e below s args y 3 8 (PreOf R mc ms Pc) (PostOf Qc mc ms free) (vx_Post XC mc ms free) := vx_callBack cw.1 hM hp.1
  obtain ⟨⟨-, -, -, -, -, -, hcode, -, hy, hlen, hl⟩, hin, hse⟩ := cw
  obtain ⟨hx, hb, hml, ho, -⟩ := S
  obtain ⟨-, ⟨cellB, hcB, hoB, hclB⟩, hPc⟩ := hp
  intro T hT X
  rcases vx_callV X hx (C := C) (bytes := bytes) (maxL := maxL) (ret := ret) ho hl hin hse hcode hy hK (by rw [hT]; exact hcB) hoB hclB hg (hsize.trans hml.symm) (argsL := As) (rest := rest) (fun sig h => hn.trans (hlen sig h)) hstack hW (by rw [hb]; exact hdg)
    (fun vm₁ hW₁ => ⟨hf.1, hf.2, hPc (T.setVm vm₁) hT hW₁⟩) with ⟨v, vm₁, ⟨U', l2, c2, s2⟩, hW₁, X', ⟨g', mk, t, L, e1, e2, hq, h1, hL, h2, h3⟩, st⟩ | ⟨q, vm₁, ⟨U', l2, c2, s2⟩, hW₁, X', ⟨g', mk, t, L, E, ce, e1, e2, hq, hce, hcv, hcl, h1, hL, h2, h3⟩, st⟩
  · dsimp only [Pt.U, Pt.locs, Pt.cells, Pt.slots] at X' e1 e2 h1 h2 h3 st
    subst h1; subst h2; subst h3
    exact Or.inl ⟨v, (T.setVm vm₁).calling g' mk (Value.ref b :: As).toArray, t, U', L, hT, X', hL, e1, e2, hq, st⟩
  · dsimp only [Pt.U, Pt.locs, Pt.cells, Pt.slots] at X' e1 e2 h1 h2 h3 st hcl
    subst h1; subst h2; subst h3
    exact Or.inr ⟨q, (T.setVm vm₁).calling g' mk (Value.ref b :: As).toArray, t, U', L, E, ce, hT, X', hL, e1, e2, hq, hce, hcv, vx_cls hW₁ hcl, st⟩
theorem vx_runS (S : CallFix p m c cc nL s args Ts own) (hM : vx_Met l y ws rm Pc Qc XC mc ms free) (cw : CallB R s args own index y bytes maxL ret ws rm mc ms n ∧ (Cond.static y).before args s = true) (hp : PreS s H Pc As)
    (hg : g.method = m) (hn : As.length = n) (hsize : g.locals.size = nL) (hstack : g.stack = As.reverse ++ rest) (hW : 2 * g.monitorRoom + (rest.map fun v => v.category).sum ≤ 8) (hdg : decode cc g.pc = .ok (.invokestatic index, 3)) (hf : cells + mc ≤ R.cells ∧ slots + ms ≤ R.slots) :
    vx_Run p l e R s m args below meth c H locs cells slots mc ms g rest (Qc As.toArray) XC free := by
  have hK : vx_Back l R p e below s args y 3 8 (PreOf R mc ms Pc) (PostOf Qc mc ms free) (vx_Post XC mc ms free) := vx_callBack cw.1 hM hp.1
  obtain ⟨⟨-, -, -, -, -, -, hcode, hini, hy, hlen, hl⟩, hstt⟩ := cw
  obtain ⟨hx, hb, hml, ho, -⟩ := S
  intro T hT X
  rcases vx_callS X hx (bytes := bytes) (maxL := maxL) (ret := ret) ho hl hstt hini hcode hy hK hg (hsize.trans hml.symm) (argsL := As) (rest := rest) (fun sig h => hn.trans (hlen sig h)) hstack hW (by rw [hb]; exact hdg)
    (fun vm₁ hW₁ => ⟨hf.1, hf.2, hp.2 (T.setVm vm₁) hT hW₁⟩) with ⟨v, vm₁, ⟨U', l2, c2, s2⟩, hW₁, X', ⟨g', mk, t, L, e1, e2, hq, h1, hL, h2, h3⟩, st⟩ | ⟨q, vm₁, ⟨U', l2, c2, s2⟩, hW₁, X', ⟨g', mk, t, L, E, ce, e1, e2, hq, hce, hcv, hcl, h1, hL, h2, h3⟩, st⟩
  · dsimp only [Pt.U, Pt.locs, Pt.cells, Pt.slots] at X' e1 e2 h1 h2 h3 st
    subst h1; subst h2; subst h3
    exact Or.inl ⟨v, (T.setVm vm₁).calling g' mk As.toArray, t, U', L, hT, X', hL, e1, e2, hq, st⟩
  · dsimp only [Pt.U, Pt.locs, Pt.cells, Pt.slots] at X' e1 e2 h1 h2 h3 st hcl
    subst h1; subst h2; subst h3
    exact Or.inr ⟨q, (T.setVm vm₁).calling g' mk As.toArray, t, U', L, E, ce, hT, X', hL, e1, e2, hq, hce, hcv, vx_cls hW₁ hcl, st⟩
end Runs
section Rows
variable {p : Program} {l : Launch} {e : Env} {R : Room} {s : State} {m : MethodId} {args : Array Value} {below : List Frame} {meth : Method} {c : Code} {H : Heap} {locs : List Loc} {cells slots : Nat} {Q : State → Prop}
variable {mc ms : Nat} {free : Addr → Prop} {A0 A1 : Nat → Prop} {H0 : Heap} {a : Array Value} {pc : Nat} {ls : Array Slot} {st0 rest : List Value}
theorem vx_keep {st₀ t T' : State} {L : List Loc} (h0 : st₀.heap = H) (e1 : T'.heap = t.heap) (hS : va_S A0 H0 H locs) (hA : ∀ q, q < H.size → A1 q → A0 q) (hf : ∀ q, free q → A0 q) (hL : ∀ q ∈ L, free q.base) (hF : va_F A1 st₀ t) :
    H.size ≤ T'.heap.size ∧ (∀ q : Nat, q < H.size → ¬ A1 q → T'.heap[q]? = H[q]?) ∧ va_S A0 H0 T'.heap (locs ++ L) := by
  obtain ⟨hz, hk⟩ := hF
  rw [h0] at hz hk
  exact ⟨by rw [e1]; exact hz, fun q h1 h2 => by rw [e1]; exact hk q h1 h2,
    ⟨Nat.le_trans hS.1 (by rw [e1]; exact hz), fun q h1 h2 => by rw [e1, hk q (Nat.lt_of_lt_of_le h1 hS.1) (fun z => h2 (hA q (Nat.lt_of_lt_of_le h1 hS.1) z))]; exact hS.2.1 q h1 h2, fun q hq => by
      rcases List.mem_append.mp hq with h | h
      · exact hS.2.2 q h
      · exact hf _ (hL q h)⟩⟩
theorem vx_calli {S SX : Type} {post : Int32 → S → Prop} {px : SX → Prop} {B : S → State → Prop} {BX : String → SX → State → Prop} {AX : Nat → Prop} (hr : vx_Run p l e R s m args below meth c H locs cells slots mc ms (F0 m pc ls st0) rest (va_Qi post B A1 a) (vx_X px BX AX) free) (hS : va_S A0 H0 H locs) (hA : ∀ q, q < H.size → A1 q → A0 q) (hf : ∀ q, free q → A0 q) (hAX : ∀ q, q < H.size → AX q → A0 q)
    (kx : ∀ (E : String) (ce : Cell) (q9 : Addr) (u : SX) (t : State) (H1 : Heap) (locs1 : List Loc), t.heap = H1 → s.vm.Alike t.vm → px u → BX E u t → H.size ≤ H1.size → (∀ q : Nat, q < H.size → ¬ AX q → H1[q]? = H[q]?) → va_S A0 H0 H1 locs1 → H1[q9]? = some ce → ce.vm = .none → s.vm.findClass E = some ce.cls → vx_W p l e R s m args below meth c H1 locs1 (cells + mc) (slots + ms) Q (F0 m pc ls rest) q9)
    (kk : ∀ (r : Int32) (u : S) (t : State) (H1 : Heap) (locs1 : List Loc), t.heap = H1 → s.vm.Alike t.vm → post r u → B u t → H.size ≤ H1.size → (∀ q : Nat, q < H.size → ¬ A1 q → H1[q]? = H[q]?) → va_S A0 H0 H1 locs1 → W p l e R s m args below meth c H1 locs1 (cells + mc) (slots + ms) Q (F0 m (pc + 3) ls (.int r :: rest))) : W p l e R s m args below meth c H locs cells slots Q (F0 m pc ls st0) := by
  intro T hT X
  rcases hr T hT X with ⟨v, st₀, t, T', L, h0, X', hL, e1, e2, ⟨⟨r, u, hv, hp, hb⟩, hF⟩, st⟩ | ⟨q, st₀, t, T', L, E, ce, h0, X', hL, e1, e2, ⟨u, hp, hb, hF⟩, hce, hcv, hcl, st⟩
  · cases hv
    obtain ⟨k1, k2, k3⟩ := vx_keep h0 e1 hS hA hf hL hF
    obtain ⟨t2, a1, b1⟩ := kk r u t T'.heap (locs ++ L) e1.symm (by rw [← e2]; exact X'.warmed.alike) hp hb k1 k2 k3 T' rfl X'
    exact ⟨t2, st t2 a1, b1⟩
  · obtain ⟨k1, k2, k3⟩ := vx_keep h0 e1 hS hAX hf hL hF
    obtain ⟨t2, a1, b1⟩ := kx E ce q u t T'.heap (locs ++ L) e1.symm (by rw [← e2]; exact X'.warmed.alike) hp hb k1 k2 k3 (by rw [e1]; exact hce) hcv hcl T' rfl X'
    exact ⟨t2, st.trans a1, b1⟩
theorem vx_calll {S SX : Type} {post : Int64 → S → Prop} {px : SX → Prop} {B : S → State → Prop} {BX : String → SX → State → Prop} {AX : Nat → Prop} (hr : vx_Run p l e R s m args below meth c H locs cells slots mc ms (F0 m pc ls st0) rest (va_Ql post B A1 a) (vx_X px BX AX) free) (hS : va_S A0 H0 H locs) (hA : ∀ q, q < H.size → A1 q → A0 q) (hf : ∀ q, free q → A0 q) (hAX : ∀ q, q < H.size → AX q → A0 q)
    (kx : ∀ (E : String) (ce : Cell) (q9 : Addr) (u : SX) (t : State) (H1 : Heap) (locs1 : List Loc), t.heap = H1 → s.vm.Alike t.vm → px u → BX E u t → H.size ≤ H1.size → (∀ q : Nat, q < H.size → ¬ AX q → H1[q]? = H[q]?) → va_S A0 H0 H1 locs1 → H1[q9]? = some ce → ce.vm = .none → s.vm.findClass E = some ce.cls → vx_W p l e R s m args below meth c H1 locs1 (cells + mc) (slots + ms) Q (F0 m pc ls rest) q9)
    (kk : ∀ (r : Int64) (u : S) (t : State) (H1 : Heap) (locs1 : List Loc), t.heap = H1 → s.vm.Alike t.vm → post r u → B u t → H.size ≤ H1.size → (∀ q : Nat, q < H.size → ¬ A1 q → H1[q]? = H[q]?) → va_S A0 H0 H1 locs1 → W p l e R s m args below meth c H1 locs1 (cells + mc) (slots + ms) Q (F0 m (pc + 3) ls (.long r :: rest))) : W p l e R s m args below meth c H locs cells slots Q (F0 m pc ls st0) := by
  intro T hT X
  rcases hr T hT X with ⟨v, st₀, t, T', L, h0, X', hL, e1, e2, ⟨⟨r, u, hv, hp, hb⟩, hF⟩, st⟩ | ⟨q, st₀, t, T', L, E, ce, h0, X', hL, e1, e2, ⟨u, hp, hb, hF⟩, hce, hcv, hcl, st⟩
  · cases hv
    obtain ⟨k1, k2, k3⟩ := vx_keep h0 e1 hS hA hf hL hF
    obtain ⟨t2, a1, b1⟩ := kk r u t T'.heap (locs ++ L) e1.symm (by rw [← e2]; exact X'.warmed.alike) hp hb k1 k2 k3 T' rfl X'
    exact ⟨t2, st t2 a1, b1⟩
  · obtain ⟨k1, k2, k3⟩ := vx_keep h0 e1 hS hAX hf hL hF
    obtain ⟨t2, a1, b1⟩ := kx E ce q u t T'.heap (locs ++ L) e1.symm (by rw [← e2]; exact X'.warmed.alike) hp hb k1 k2 k3 (by rw [e1]; exact hce) hcv hcl T' rfl X'
    exact ⟨t2, st.trans a1, b1⟩
theorem vx_callf {S SX : Type} {post : UInt32 → S → Prop} {px : SX → Prop} {B : S → State → Prop} {BX : String → SX → State → Prop} {AX : Nat → Prop} (hr : vx_Run p l e R s m args below meth c H locs cells slots mc ms (F0 m pc ls st0) rest (va_Qf post B A1 a) (vx_X px BX AX) free) (hS : va_S A0 H0 H locs) (hA : ∀ q, q < H.size → A1 q → A0 q) (hf : ∀ q, free q → A0 q) (hAX : ∀ q, q < H.size → AX q → A0 q)
    (kx : ∀ (E : String) (ce : Cell) (q9 : Addr) (u : SX) (t : State) (H1 : Heap) (locs1 : List Loc), t.heap = H1 → s.vm.Alike t.vm → px u → BX E u t → H.size ≤ H1.size → (∀ q : Nat, q < H.size → ¬ AX q → H1[q]? = H[q]?) → va_S A0 H0 H1 locs1 → H1[q9]? = some ce → ce.vm = .none → s.vm.findClass E = some ce.cls → vx_W p l e R s m args below meth c H1 locs1 (cells + mc) (slots + ms) Q (F0 m pc ls rest) q9)
    (kk : ∀ (r : UInt32) (u : S) (t : State) (H1 : Heap) (locs1 : List Loc), t.heap = H1 → s.vm.Alike t.vm → post r u → B u t → H.size ≤ H1.size → (∀ q : Nat, q < H.size → ¬ A1 q → H1[q]? = H[q]?) → va_S A0 H0 H1 locs1 → W p l e R s m args below meth c H1 locs1 (cells + mc) (slots + ms) Q (F0 m (pc + 3) ls (.float r :: rest))) : W p l e R s m args below meth c H locs cells slots Q (F0 m pc ls st0) := by
  intro T hT X
  rcases hr T hT X with ⟨v, st₀, t, T', L, h0, X', hL, e1, e2, ⟨⟨r, u, hv, hp, hb⟩, hF⟩, st⟩ | ⟨q, st₀, t, T', L, E, ce, h0, X', hL, e1, e2, ⟨u, hp, hb, hF⟩, hce, hcv, hcl, st⟩
  · cases hv
    obtain ⟨k1, k2, k3⟩ := vx_keep h0 e1 hS hA hf hL hF
    obtain ⟨t2, a1, b1⟩ := kk r u t T'.heap (locs ++ L) e1.symm (by rw [← e2]; exact X'.warmed.alike) hp hb k1 k2 k3 T' rfl X'
    exact ⟨t2, st t2 a1, b1⟩
  · obtain ⟨k1, k2, k3⟩ := vx_keep h0 e1 hS hAX hf hL hF
    obtain ⟨t2, a1, b1⟩ := kx E ce q u t T'.heap (locs ++ L) e1.symm (by rw [← e2]; exact X'.warmed.alike) hp hb k1 k2 k3 (by rw [e1]; exact hce) hcv hcl T' rfl X'
    exact ⟨t2, st.trans a1, b1⟩
theorem vx_calld {S SX : Type} {post : UInt64 → S → Prop} {px : SX → Prop} {B : S → State → Prop} {BX : String → SX → State → Prop} {AX : Nat → Prop} (hr : vx_Run p l e R s m args below meth c H locs cells slots mc ms (F0 m pc ls st0) rest (va_Qd post B A1 a) (vx_X px BX AX) free) (hS : va_S A0 H0 H locs) (hA : ∀ q, q < H.size → A1 q → A0 q) (hf : ∀ q, free q → A0 q) (hAX : ∀ q, q < H.size → AX q → A0 q)
    (kx : ∀ (E : String) (ce : Cell) (q9 : Addr) (u : SX) (t : State) (H1 : Heap) (locs1 : List Loc), t.heap = H1 → s.vm.Alike t.vm → px u → BX E u t → H.size ≤ H1.size → (∀ q : Nat, q < H.size → ¬ AX q → H1[q]? = H[q]?) → va_S A0 H0 H1 locs1 → H1[q9]? = some ce → ce.vm = .none → s.vm.findClass E = some ce.cls → vx_W p l e R s m args below meth c H1 locs1 (cells + mc) (slots + ms) Q (F0 m pc ls rest) q9)
    (kk : ∀ (r : UInt64) (u : S) (t : State) (H1 : Heap) (locs1 : List Loc), t.heap = H1 → s.vm.Alike t.vm → post r u → B u t → H.size ≤ H1.size → (∀ q : Nat, q < H.size → ¬ A1 q → H1[q]? = H[q]?) → va_S A0 H0 H1 locs1 → W p l e R s m args below meth c H1 locs1 (cells + mc) (slots + ms) Q (F0 m (pc + 3) ls (.double r :: rest))) : W p l e R s m args below meth c H locs cells slots Q (F0 m pc ls st0) := by
  intro T hT X
  rcases hr T hT X with ⟨v, st₀, t, T', L, h0, X', hL, e1, e2, ⟨⟨r, u, hv, hp, hb⟩, hF⟩, st⟩ | ⟨q, st₀, t, T', L, E, ce, h0, X', hL, e1, e2, ⟨u, hp, hb, hF⟩, hce, hcv, hcl, st⟩
  · cases hv
    obtain ⟨k1, k2, k3⟩ := vx_keep h0 e1 hS hA hf hL hF
    obtain ⟨t2, a1, b1⟩ := kk r u t T'.heap (locs ++ L) e1.symm (by rw [← e2]; exact X'.warmed.alike) hp hb k1 k2 k3 T' rfl X'
    exact ⟨t2, st t2 a1, b1⟩
  · obtain ⟨k1, k2, k3⟩ := vx_keep h0 e1 hS hAX hf hL hF
    obtain ⟨t2, a1, b1⟩ := kx E ce q u t T'.heap (locs ++ L) e1.symm (by rw [← e2]; exact X'.warmed.alike) hp hb k1 k2 k3 (by rw [e1]; exact hce) hcv hcl T' rfl X'
    exact ⟨t2, st.trans a1, b1⟩
theorem vx_callv {S SX : Type} {post : S → Prop} {px : SX → Prop} {B : S → State → Prop} {BX : String → SX → State → Prop} {AX : Nat → Prop} (hr : vx_Run p l e R s m args below meth c H locs cells slots mc ms (F0 m pc ls st0) rest (va_Qv post B A1 a) (vx_X px BX AX) free) (hS : va_S A0 H0 H locs) (hA : ∀ q, q < H.size → A1 q → A0 q) (hf : ∀ q, free q → A0 q) (hAX : ∀ q, q < H.size → AX q → A0 q)
    (kx : ∀ (E : String) (ce : Cell) (q9 : Addr) (u : SX) (t : State) (H1 : Heap) (locs1 : List Loc), t.heap = H1 → s.vm.Alike t.vm → px u → BX E u t → H.size ≤ H1.size → (∀ q : Nat, q < H.size → ¬ AX q → H1[q]? = H[q]?) → va_S A0 H0 H1 locs1 → H1[q9]? = some ce → ce.vm = .none → s.vm.findClass E = some ce.cls → vx_W p l e R s m args below meth c H1 locs1 (cells + mc) (slots + ms) Q (F0 m pc ls rest) q9)
    (kk : ∀ (u : S) (t : State) (H1 : Heap) (locs1 : List Loc), t.heap = H1 → s.vm.Alike t.vm → post u → B u t → H.size ≤ H1.size → (∀ q : Nat, q < H.size → ¬ A1 q → H1[q]? = H[q]?) → va_S A0 H0 H1 locs1 → W p l e R s m args below meth c H1 locs1 (cells + mc) (slots + ms) Q (F0 m (pc + 3) ls (rest))) : W p l e R s m args below meth c H locs cells slots Q (F0 m pc ls st0) := by
  intro T hT X
  rcases hr T hT X with ⟨v, st₀, t, T', L, h0, X', hL, e1, e2, ⟨⟨u, hv, hp, hb⟩, hF⟩, st⟩ | ⟨q, st₀, t, T', L, E, ce, h0, X', hL, e1, e2, ⟨u, hp, hb, hF⟩, hce, hcv, hcl, st⟩
  · cases hv
    obtain ⟨k1, k2, k3⟩ := vx_keep h0 e1 hS hA hf hL hF
    obtain ⟨t2, a1, b1⟩ := kk u t T'.heap (locs ++ L) e1.symm (by rw [← e2]; exact X'.warmed.alike) hp hb k1 k2 k3 T' rfl X'
    exact ⟨t2, st t2 a1, b1⟩
  · obtain ⟨k1, k2, k3⟩ := vx_keep h0 e1 hS hAX hf hL hF
    obtain ⟨t2, a1, b1⟩ := kx E ce q u t T'.heap (locs ++ L) e1.symm (by rw [← e2]; exact X'.warmed.alike) hp hb k1 k2 k3 (by rw [e1]; exact hce) hcv hcl T' rfl X'
    exact ⟨t2, st.trans a1, b1⟩
/-- caught by the row x of this method's table; the rows ahead don't take it -/
theorem vx_catch {own name : String} {E : String} {ce : Cell} {q : Addr} (hown : s.vm.findClass own = some m.cls) (pre : List ExceptionTableEntry) (x : ExceptionTableEntry) (suf : List ExceptionTableEntry) (hsplit : c.exceptionTable.toList = pre ++ x :: suf)
    (hpass : ∀ z ∈ pre, covers z pc = false ∨ (z.catchType ≠ 0 ∧ ∃ nm : String, (Cond.classLink own z.catchType nm).before args s = true ∧ va_Nc E nm s)) (hx : covers x pc = true) (h0 : x.catchType ≠ 0)
    (hlink : (Cond.classLink own x.catchType name).before args s = true) (hcast : (Cond.castable E name).before args s = true) (hcell : H[q]? = some ce) (hv : ce.vm = .none) (hcl : s.vm.findClass E = some ce.cls)
    (kk : W p l e R s m args below meth c H locs cells slots Q (F0 m x.handlerPc ls [.ref q])) : vx_W p l e R s m args below meth c H locs cells slots Q (F0 m pc ls rest) q := by
  intro T hT X
  have hpl : e.platform.magicAccessors = ({} : Platform).magicAccessors := by rw [X.admits.platform]
  obtain ⟨c3, c4, hc3, hc4, hasg⟩ := Cond.castable_spec hcast
  cases Option.some.inj (hc3.symm.trans hcl)
  obtain ⟨c5, hc5, hcl5⟩ := Cond.classLink_spec hown hlink e.platform hpl
  cases Option.some.inj (hc4.symm.trans hc5)
  obtain ⟨vm', X', st⟩ := X.thenCaughtThrough q (g := F0 m pc ls rest) rfl (Steps.refl _) (by rw [hT]; exact hcell) (by rw [hv]; rfl) (by obtain ⟨k9, h9, -⟩ := Vm.findClass_spec hcl; exact ⟨k9, h9⟩) pre x suf hsplit
    (fun z hz => by
      rcases hpass z hz with h | ⟨hz0, nm, hl1, hn1⟩
      · exact Or.inl h
      · obtain ⟨c6, hc6, hcl6⟩ := Cond.classLink_spec hown hl1 e.platform hpl
        obtain ⟨a8, b8, h1, h2, h3⟩ := hn1
        cases Option.some.inj (h1.symm.trans hcl)
        cases Option.some.inj (h2.symm.trans hc6)
        exact Or.inr ⟨hz0, _, hcl6, h3⟩) hx (Or.inr ⟨h0, c4, hcl5, hasg⟩)
  obtain ⟨t, a1, b1⟩ := kk (T.setVm vm') hT X'
  exact ⟨t, st.trans a1, b1⟩
end Rows
section Ends
variable {p : Program} {l : Launch} {e : Env} {R : Room} {s : State} {m : MethodId} {args : Array Value} {below : List Frame} {meth : Method} {c : Code} {H : Heap} {locs : List Loc} {cells slots : Nat} {Q : State → Prop}
variable {mc ms : Nat} {free : Addr → Prop} {A0 A1 : Nat → Prop} {H0 : Heap} {a : Array Value} {ls : Array Slot} {st0 rest : List Value}
variable {Qc : Array Value → State → Outcome → State → Prop} {XC : String → State → State → Prop}
/-- what a body that may throw owes at its end -/
def vx_MQ (below : List Frame) (Qc : Array Value → State → Outcome → State → Prop) (XC : String → State → State → Prop) (a : Array Value) (s : State) (mc ms : Nat) (free : Addr → Prop) : State → Prop := fun t =>
  ∃ o, t.status = .running ∧ Ended t below o ∧ vx_Q Qc XC mc ms free a s o t
theorem vx_ret {g : JFrame} {mc ms : Nat} (k : W p l e R s m args below meth c H locs cells slots (MQ below Qc args s mc ms free) g) : W p l e R s m args below meth c H locs cells slots (vx_MQ below Qc XC args s mc ms free) g := by
  intro T hT X
  obtain ⟨t, a1, o, b1, b2, b3, b4⟩ := k T hT X
  exact ⟨t, a1, o, b1, b2, Or.inl ⟨b3, b4⟩⟩
/-- not caught here: it goes on to the caller -/
theorem vx_widen {g : JFrame} {q : Addr} {k n : Nat} (h1 : cells ≤ k) (h2 : slots ≤ n) (kk : vx_W p l e R s m args below meth c H locs k n Q g q) : vx_W p l e R s m args below meth c H locs cells slots Q g q := fun T hT X => kk T hT (stand_widen X h1 h2)
theorem vx_out {pc : Nat} {E : String} {ce : Cell} {q : Addr} {mc ms : Nat} (hout : ∀ x ∈ c.exceptionTable.toList, covers x pc = false) (hlocks : meth.locks = false) (hcell : H[q]? = some ce) (hv : ce.vm = .none) (hcl : s.vm.findClass E = some ce.cls)
    (hx : ∀ t : State, t.heap = H → s.vm.Alike t.vm → XC E s t) (hf : ∀ z ∈ locs, free z.base) (hc : cells ≤ mc) (hs : slots ≤ ms) :
    vx_W p l e R s m args below meth c H locs cells slots (vx_MQ below Qc XC args s mc ms free) (F0 m pc ls rest) q := by
  intro T hT X
  obtain ⟨st1, hrun, hend, hW, hsm⟩ := X.leaveThrown q (g := F0 m pc ls rest) rfl rfl rfl hout hlocks
  have hcell9 : (T.setFrames (.throwing q :: below)).heap[q]? = some ce := by
    show T.heap[q]? = some ce
    rw [hT]; exact hcell
  exact ⟨_, st1, .threw q, hrun, hend, Or.inr ⟨q, rfl, E, ce, locs, hx _ hT hW.alike, hcell9, hv, hcl, hW, hsm.mono hc hs, hf⟩⟩
theorem vx_frame {U : State} {k n : Nat} (h : s.sameButNew ({ U with vm := s.vm } : State) locs k n) : s.heap.size ≤ U.heap.size ∧ ∀ q : Nat, q < s.heap.size → (∀ z ∈ locs, z.base ≠ q) → U.heap[q]? = s.heap[q]? := by
  obtain ⟨-, h2, -, -, -, h6⟩ := h
  refine ⟨h2, fun q hq hz => ?_⟩
  obtain ⟨c9, e1, e2, e3, e4⟩ := h6 q _ (Array.getElem?_eq_getElem hq)
  have hs : c9.slots = (s.heap[q]).slots := Array.ext_getElem? fun i => e4 i fun hm => hz _ hm rfl
  have h9 : c9 = s.heap[q] := by
    rw [hs] at e2
    exact e2
  have e5 : U.heap[q]? = some c9 := e1
  rw [e5, h9, Array.getElem?_eq_getElem hq]
/-- the words of a throw but the four that speak of the heap -/
def vx_no (w : Cond) : Bool := decide (w ≠ .isRef (.static Bundle.tN "UNASSIGNED_STACK" Bundle.steD)) && decide (w ≠ .isRef (.static Bundle.tN "SUPPRESSED_SENTINEL" Bundle.listD)) && decide (w ≠ .laysStatic Bundle.tN "UNASSIGNED_STACK" Bundle.steD) && decide (w ≠ .laysStatic Bundle.tN "SUPPRESSED_SENTINEL" Bundle.listD)
def vx_at0 (own : String) (ic : Nat) (X : String) (names : List String) : List Cond := (Bundle.ownAtoms0 own ic X names).filter vx_no
def vx_atS (own : String) (ic : Nat) (X : String) (names : List String) : List Cond := (Bundle.ownAtoms own ic X names).filter vx_no
/-- a word that the tables alone decide, or a good one -/
def vx_ot (w : Cond) : Bool := w.onTables || goodWord w
theorem vx_ot_at {args a' : Array Value} {s U : State} {w : Cond} (hW : s.WarmedH U.vm) (hvm : s.vm = U.vm) (hg : vx_ot w = true) (h : w.before args s = true) : w.before a' U = true := by
  simp only [vx_ot, Bool.or_eq_true] at hg
  rcases hg with hg | hg
  · exact va_tabs hg hvm h
  · exact word_at hW (good_of_word hg) h
/-- a list's words: the good ones out of the method's own list, the others by premises of their own -/
theorem vx_hat {args : Array Value} {s : State} {L B : List Cond} (h1 : ∀ w ∈ L.filter goodWord, w.before args s = true) (h2 : ∀ w ∈ L.filter (fun w => !goodWord w), w ∈ B) (h3 : ∀ w ∈ B, w.before args s = true) : ∀ w ∈ L, w.before args s = true := by
  intro w hw
  by_cases g : goodWord w = true
  · exact h1 w (List.mem_filter.mpr ⟨hw, g⟩)
  · refine h3 w (h2 w (List.mem_filter.mpr ⟨hw, ?_⟩))
    show (!goodWord w) = true
    cases hgw : goodWord w
    · rfl
    · exact absurd hgw g
theorem vx_c {args : Array Value} {s : State} {w : Cond} {B : List Cond} (h : w.before args s = true) (t : ∀ w ∈ B, w.before args s = true) : ∀ w' ∈ w :: B, w'.before args s = true := fun w' h' => (List.mem_cons.mp h').elim (fun e => by rw [e]; exact h) (t w')
theorem vx_n {args : Array Value} {s : State} : ∀ w ∈ ([] : List Cond), w.before args s = true := fun _ h => nomatch h
theorem vx_own {args : Array Value} {s : State} {L : List Cond} (h1 : ∀ w ∈ L.filter vx_no, w.before args s = true)
    (hU : (Cond.isRef (.static Bundle.tN "UNASSIGNED_STACK" Bundle.steD)).before args s = true) (hN : (Cond.isRef (.static Bundle.tN "SUPPRESSED_SENTINEL" Bundle.listD)).before args s = true)
    (lU : (Cond.laysStatic Bundle.tN "UNASSIGNED_STACK" Bundle.steD).before args s = true) (lN : (Cond.laysStatic Bundle.tN "SUPPRESSED_SENTINEL" Bundle.listD).before args s = true) : ∀ w ∈ L, w.before args s = true := by
  intro w hw
  by_cases e1 : w = .isRef (.static Bundle.tN "UNASSIGNED_STACK" Bundle.steD)
  · rw [e1]; exact hU
  · by_cases e2 : w = .isRef (.static Bundle.tN "SUPPRESSED_SENTINEL" Bundle.listD)
    · rw [e2]; exact hN
    · by_cases e3 : w = .laysStatic Bundle.tN "UNASSIGNED_STACK" Bundle.steD
      · rw [e3]; exact lU
      · by_cases e4 : w = .laysStatic Bundle.tN "SUPPRESSED_SENTINEL" Bundle.listD
        · rw [e4]; exact lN
        · exact h1 w (List.mem_filter.mpr ⟨hw, by unfold vx_no; rw [decide_eq_true e1, decide_eq_true e2, decide_eq_true e3, decide_eq_true e4]; rfl⟩)
/-- where a static field lies, its class's statics cell in H -/
def vx_L (C n d : String) (A : Nat → Prop) (U : State) (H : Heap) : Prop := ∃ (c : ClassId) (k : Class) (i : Nat) (f : Field) (a : Nat) (cell : Cell), U.vm.findClass C = some c ∧ U.fieldFound? C n d = some (c, k, i, f) ∧ f.isStatic = true ∧ k.statics = some a ∧ H[a]? = some cell ∧ cell.vm.isStatics = true ∧ cell.cls = c ∧ f.slot < cell.slots.size ∧ k.staticTypes[f.slot]? = some f.type ∧ ¬ A a
theorem vx_L.moved {C n d : String} {A : Nat → Prop} {u U : State} {H : Heap} (hvm : u.vm.Alike U.vm) (h : vx_L C n d A u H) : vx_L C n d A U H := by
  obtain ⟨c, k, i, f, a, cell, h1, h2, h3, h4, h5, h6, h7, h8, h9, h10⟩ := h
  obtain ⟨k', hi', he⟩ := State.fieldFound?_setVm hvm h2
  exact ⟨c, k', i, f, a, cell, by rw [hvm.findClass]; exact h1, hi', h3, by rw [he]; exact h4, h5, h6, h7, h8, by rw [he]; exact h9, h10⟩
theorem vx_L.kept {C n d : String} {A : Nat → Prop} {U : State} {H H1 : Heap} (h : vx_L C n d A U H) (hq : ∀ a : Nat, a < H.size → ¬ A a → H1[a]? = H[a]?) : vx_L C n d A U H1 := by
  obtain ⟨c, k, i, f, a, cell, h1, h2, h3, h4, h5, h6, h7, h8, h9, h10⟩ := h
  exact ⟨c, k, i, f, a, cell, h1, h2, h3, h4, by rw [hq a (Array.getElem?_eq_some_iff.mp h5).1 h10]; exact h5, h6, h7, h8, h9, h10⟩
theorem vx_L.narrow {C n d : String} {A B : Nat → Prop} {U : State} {H : Heap} (h : vx_L C n d A U H) (hAB : ∀ q, B q → A q) : vx_L C n d B U H := by
  obtain ⟨c, k, i, f, a, cell, h1, h2, h3, h4, h5, h6, h7, h8, h9, h10⟩ := h
  exact ⟨c, k, i, f, a, cell, h1, h2, h3, h4, h5, h6, h7, h8, h9, fun z => h10 (hAB _ z)⟩
theorem vx_L.word {C n d : String} {A : Nat → Prop} {s : State} {args : Array Value} (h : vx_L C n d A s s.heap) : (Cond.laysStatic C n d).before args s = true := by
  obtain ⟨c, k, i, f, a, cell, h1, h2, h3, h4, h5, h6, h7, h8, h9, -⟩ := h
  show (Cond.laysStatic C n d).holds args s none s [] = true
  exact Cond.laysStatic_of h1 h2 h3 h4 h5 h6 h7 h8 h9
/-- .. and what it holds: null or some reference -/
def vx_Zq (C n d : String) (A : Nat → Prop) (U : State) (H : Heap) : Prop := va_Zq C n d A U H ∧ vx_L C n d A U H
theorem vx_Zq.moved {C n d : String} {A : Nat → Prop} {u U : State} {H : Heap} (hvm : u.vm.Alike U.vm) (h : vx_Zq C n d A u H) : vx_Zq C n d A U H := ⟨va_Zq.moved hvm h.1, vx_L.moved hvm h.2⟩
theorem vx_Zq.kept {C n d : String} {A : Nat → Prop} {U : State} {H H1 : Heap} (h : vx_Zq C n d A U H) (hq : ∀ a : Nat, a < H.size → ¬ A a → H1[a]? = H[a]?) : vx_Zq C n d A U H1 := ⟨va_Zq.kept h.1 hq, vx_L.kept h.2 hq⟩
theorem vx_Zq.narrow {C n d : String} {A B : Nat → Prop} {U : State} {H : Heap} (h : vx_Zq C n d A U H) (hAB : ∀ q, B q → A q) : vx_Zq C n d B U H := ⟨va_Zq.narrow h.1 hAB, vx_L.narrow h.2 hAB⟩
theorem vx_Zqof {args : Array Value} {s : State} {C n d : String} {A : Nat → Prop} (hl : (Cond.laysStatic C n d).before args s = true) (hini : (Cond.initialized C).before args s = true) (h : (Cond.isRef (.static C n d)).before args s = true) (hA : ∀ a : Nat, a < s.heap.size → ¬ A a) : vx_Zq C n d A s s.heap := by
  refine ⟨va_Zqof hl hini h hA, ?_⟩
  obtain ⟨c, k, i, f, a, cell, h1, h2, h3, h4, h5, h6, h7, h8, h9⟩ := Cond.laysStatic_spec hl
  exact ⟨c, k, i, f, a, cell, h1, h2, h3, h4, h5, h6, h7, h8, h9, hA a (Array.getElem?_eq_some_iff.mp h5).1⟩
theorem vx_isRef {C n d : String} {v : Value} {A : Nat → Prop} {s : State} {args : Array Value} (h : va_Z C n d v A s s.heap) (hv : v.isRef = true) : (Cond.isRef (.static C n d)).before args s = true := by
  obtain ⟨cf, kf, fi, f, a, cell, h1, h2, h3, h4, h5, h6, h7, -⟩ := h
  have he : (Term.static C n d).eval args s none [] s = some v := by
    simp [Term.eval, State.fieldNamed?, h1, h2, h4, h5, h6, h7]
  simp only [Cond.before, Cond.holds, Cond.value, he]
  cases v <;> simp_all [Value.isRef]
theorem vx_isRefq {C n d : String} {A : Nat → Prop} {s : State} {args : Array Value} (h : va_Zq C n d A s s.heap) : (Cond.isRef (.static C n d)).before args s = true := by
  rcases h with h | ⟨t, h⟩
  · exact vx_isRef h rfl
  · exact vx_isRef h rfl
/-- the same frame, seen from here: as if the method were called anew in this heap -/
theorem vx_rebase {T : State} (X : Stand p l e R s m args below meth c T locs cells slots) {R' : Room} (hf : R'.frames ≤ R.frames) (hl : R'.locals ≤ R.locals) (hc : cells + R'.cells ≤ R.cells) (hs : slots + R'.slots ≤ R.slots) :
    Stand p l e R' ((T.setVm s.vm).setFrames (.invoking m args :: below)) m args below meth c T [] 0 0 := by
  have htop : (T.setVm s.vm).topJava?.isSome := X.here.top
  have hF : ((T.setVm s.vm).setFrames (.invoking m args :: below)).frames = .invoking m args :: below := State.frames_setFrames _ (State.cur_lt_of_top htop)
  obtain ⟨g₀, hg0⟩ := Option.isSome_iff_exists.mp htop
  obtain ⟨r, hr⟩ := State.topJava?_eq_some.mp hg0
  have hl9 : e.platform.stackLimits (T.setVm s.vm).me = e.platform.stackLimits s.me := X.limits
  have hb9 : (T.setVm s.vm).me.stackBytes = s.me.stackBytes := X.bytes
  refine ⟨X.admits, X.cas, X.clock, hF, ?_, X.hears, X.method, X.code, X.here, X.tail, X.warmed, ?_, ?_, ?_⟩
  · have h := X.room
    have hU : ((T.setVm s.vm).setFrames (.invoking m args :: below)).localsInUse = s.localsInUse := by
      rw [State.localsInUse_invoking hF (meth := meth) (c := c) X.method X.code, State.localsInUse_invoking X.frames X.method X.code]
    simp only [State.hasRoom, Bool.and_eq_true, decide_eq_true_eq] at h ⊢
    obtain ⟨⟨⟨⟨h1, h2, h3, h4, h5, h6⟩, h7⟩, h8⟩, h9⟩ := h
    rw [X.frames, List.length_cons] at h2 h3
    have q1 := X.heapSize
    have q2 := X.used
    simp only [hF, hU, List.length_cons, State.stackLimits_setFrames, State.stackBytes_setFrames, hl9, hb9]
    refine ⟨⟨⟨⟨by omega, by omega, by omega, by omega, by omega, h6⟩, ?_⟩, ?_⟩, X.book⟩
    · show T.heap.size + R'.cells ≤ e.platform.maxCells
      omega
    · show T.slotsUsed + R'.slots ≤ e.platform.maxSlots
      omega
  · rw [State.stackLimits_setFrames]; rfl
  · rw [State.stackBytes_setFrames]; rfl
  · refine ⟨?_, Nat.le_refl _, Nat.le_refl _, ?_, ?_, fun a c9 h9 => ⟨c9, h9, rfl, rfl, fun _ _ => rfl⟩⟩
    · obtain ⟨t, ht, -⟩ := State.frames_cons hr
      show T.setVm s.vm = { ((T.setVm s.vm).setFrames (.invoking m args :: below)).setFrames (T.setVm s.vm).frames with heap := T.heap, slotsUsed := T.slotsUsed }
      rw [State.setFrames_setFrames, State.setFrames_self ht]
      rfl
    · show T.slotsUsed = T.slotsUsed + ((T.heap.toList.drop T.heap.size).map (·.slots.size)).sum
      rw [List.drop_eq_nil_of_le (Nat.le_of_eq Array.length_toList)]
      rfl
    · show ((T.heap.toList.drop T.heap.size).map (·.slots.size)).sum ≤ 0
      rw [List.drop_eq_nil_of_le (Nat.le_of_eq Array.length_toList)]
      exact Nat.le_refl _
/-- 'throw new E()': new; dup; invokespecial; athrow -/
theorem vx_throw0 {cc : ByteArray} {pc : Nat} (hexec : p.tables.exec = Jvm.exec) (hb : c.code = cc) (hl : l.stackTraces = false) {own cls : String} {names : List String} {ik ic mc ms : Nat} {A : Nat → Prop}
    (hown : s.vm.findClass own = some m.cls) (hcls : Bundle.fit cls = true) (hnames : ∀ n ∈ names, Bundle.fit n = true)
    (hk : (Cond.classLink own ik cls).before args s = true) (hini : (Cond.initialized cls).before args s = true) (hat : ∀ w ∈ vx_at0 own ic cls names, w.before args s = true)
    (hgood : ∀ w ∈ Cond.classLink own ik cls :: Cond.initialized cls :: vx_at0 own ic cls names, vx_ot w = true)
    (hU : vx_Zq Bundle.tN "UNASSIGNED_STACK" Bundle.steD A s s.heap) (hN : vx_Zq Bundle.tN "SUPPRESSED_SENTINEL" Bundle.listD A s s.heap) (hS : va_S A s.heap H locs) (hsize : ls.size = c.maxLocals)
    (d0 : decode cc pc = .ok (.new ik, 3)) (d3 : decode cc (pc + 3) = .ok (.dup, 1)) (d4 : decode cc (pc + 4) = .ok (.invokespecial ic, 3)) (d7 : decode cc (pc + 7) = .ok (.athrow, 1))
    (hout : ∀ x ∈ c.exceptionTable.toList, covers x (pc + 7) = false)
    (hRframes : names.length + 3 < R.frames) (hRlocals : (rest.map fun v => v.category).sum + (13 * (names.length + 1) + 42) ≤ R.locals) (hRcells : cells + 1 ≤ R.cells) (hRslots : slots + 6 ≤ R.slots) (hlocks : meth.locks = false)
    (hx : ∀ t : State, s.vm.Alike t.vm → H.size ≤ t.heap.size → (∀ q : Nat, q < H.size → t.heap[q]? = H[q]?) → XC cls s t)
    (hf : ∀ z ∈ locs, free z.base) (hc : cells + 1 ≤ mc) (hs : slots + 6 ≤ ms) :
    W p l e R s m args below meth c H locs cells slots (vx_MQ below Qc XC args s mc ms free) (F0 m pc ls rest) := by
  intro T hT X
  have htr : e.platform.stackTraces = false := (show e.platform.stackTraces = l.stackTraces by rw [X.admits.platform]).trans hl
  have Y := vx_rebase X (R' := { frames := R.frames, locals := R.locals, cells := 1, slots := 6 }) (Nat.le_refl _) (Nat.le_refl _) hRcells hRslots
  obtain ⟨s', hA⟩ : ∃ z, z = (T.setVm s.vm).setFrames (.invoking m args :: below) := ⟨_, rfl⟩
  rw [← hA] at Y
  have hvm : s'.vm = s.vm := by rw [hA]; rfl
  have hhp : s'.heap = H := by rw [hA]; exact hT
  have hW0 : s.WarmedH s'.vm := by rw [hvm]; exact State.WarmedH.refl s
  have hat' : ∀ w ∈ vx_at0 own ic cls names, w.before args s' = true := fun w hw => vx_ot_at hW0 hvm.symm (hgood w (List.mem_cons_of_mem _ (List.mem_cons_of_mem _ hw))) (hat w hw)
  have hk' : (Cond.classLink own ik cls).before args s' = true := vx_ot_at hW0 hvm.symm (hgood _ List.mem_cons_self) hk
  have hini' : (Cond.initialized cls).before args s' = true := vx_ot_at hW0 hvm.symm (hgood _ (List.mem_cons_of_mem _ List.mem_cons_self)) hini
  have hU' : vx_Zq Bundle.tN "UNASSIGNED_STACK" Bundle.steD A s' s'.heap := by rw [hhp]; exact vx_Zq.moved hW0.alike (hU.kept hS.2.1)
  have hN' : vx_Zq Bundle.tN "SUPPRESSED_SENTINEL" Bundle.listD A s' s'.heap := by rw [hhp]; exact vx_Zq.moved hW0.alike (hN.kept hS.2.1)
  have h : ∀ w ∈ Bundle.ownAtoms0 own ic cls names, w.before args s' = true := vx_own hat' (vx_isRefq hU'.1) (vx_isRefq hN'.1) hU'.2.word hN'.2.word
  have hown' : s'.vm.findClass own = some m.cls := by rw [hvm]; exact hown
  have hins : (Cond.instantiable cls 6).before args s' = true := h _ (by simp [Bundle.ownAtoms0])
  obtain ⟨vm₁, cX, kX, hfX, hkX, -, -, X₁, st1⟩ := Y.newCold hexec (own := own) (C := cls) (index := ik) (n := 6) hown' hk' hins hini'
    (g := F0 m pc ls rest) rfl (by rw [hb]; exact d0) (Nat.le_refl _) (Nat.le_refl _)
  generalize hT1 : (T.setVm vm₁).pushCell { cls := cX, slots := kX.instanceTypes.map defaultValue, vm := .none } = T1 at X₁ st1
  have hcat : (Value.ref T.heap.size).category = 1 := rfl
  have hcellA : T1.heap[T.heap.size]? = some (freshCell cX kX) := by rw [← hT1]; exact State.heap_pushCell_size _ _
  have d3' : decode c.code (pc + 3) = .ok (.dup, 1) := by rw [hb]; exact d3
  obtain ⟨U, hsteps, hrun, hend, hW, hsame, ce, hce, hO⟩ := X₁.ctorThrow0 hexec htr (own := own) (cls := cls) (names := names) (ic := ic) hown' hcls hnames h (fun x hx => nomatch hx) hfX hkX hcellA (by rw [hhp, hT]; exact Nat.le_refl _)
    (g := { method := m, pc := pc + 4, locals := ls, stack := .ref T.heap.size :: .ref T.heap.size :: rest, locked := none }) rfl hsize rfl rfl (rest := rest) rfl
    (by rw [hb]; exact d4) (by rw [hb]; exact d7) hout hRframes (by simp only [List.map_cons, List.sum_cons, hcat]; omega) hlocks
  obtain ⟨f1, f2⟩ := vx_frame hsame
  rw [hhp] at f1 f2
  have hWs : s.WarmedH U.vm := State.WarmedH.trans hW0 hW
  have hcl : s.vm.findClass cls = some ce.cls := by
    have h9 := hO.cls
    rw [hvm] at h9
    exact h9
  have hall : s.sameButNew ({ U with vm := s.vm } : State) locs mc ms := by
    subst hA
    obtain ⟨e1, e2⟩ := hsame
    rw [State.setFrames_setFrames] at e1
    have h2 : (T.setVm s.vm).sameButNew ({ U with vm := s.vm } : State) [] (0 + 1) (0 + 6) := ⟨e1, e2⟩
    have h3 := X.same.trans h2
    rw [List.append_nil] at h3
    exact h3.mono hc hs
  refine ⟨U, ?_, .threw T.heap.size, hrun, hend, Or.inr ⟨T.heap.size, rfl, cls, ce, locs, hx U hWs.alike f1 (fun q hq => f2 q hq (fun z hz => nomatch hz)), hce, hO.vm, hcl, hWs, hall, hf⟩⟩
  refine st1 _ ?_
  show Steps p.tables e below (T1.setTop { method := m, pc := pc + 3, locals := ls, stack := .ref T.heap.size :: rest, locked := none }) _
  jvm_step X₁.here [X₁.here.top, hexec, d3', Value.category]
  exact hsteps
/-- 'throw new E("text")': new; dup; ldc; invokespecial; athrow -/
theorem vx_throwS {cc : ByteArray} {pc : Nat} (hexec : p.tables.exec = Jvm.exec) (hb : c.code = cc) (hl : l.stackTraces = false) {own cls text : String} {names : List String} {ik is ic mc ms sa : Nat} {A : Nat → Prop}
    (hown : s.vm.findClass own = some m.cls) (hcls : Bundle.fit cls = true) (hnames : ∀ n ∈ names, Bundle.fit n = true)
    (hk : (Cond.classLink own ik cls).before args s = true) (hini : (Cond.initialized cls).before args s = true) (hstr : vk_R own is text sa s) (hat : ∀ w ∈ vx_atS own ic cls names, w.before args s = true)
    (hgood : ∀ w ∈ Cond.classLink own ik cls :: Cond.initialized cls :: vx_atS own ic cls names, vx_ot w = true)
    (hU : vx_Zq Bundle.tN "UNASSIGNED_STACK" Bundle.steD A s s.heap) (hN : vx_Zq Bundle.tN "SUPPRESSED_SENTINEL" Bundle.listD A s s.heap) (hS : va_S A s.heap H locs) (hsize : ls.size = c.maxLocals)
    (d0 : decode cc pc = .ok (.new ik, 3)) (d3 : decode cc (pc + 3) = .ok (.dup, 1)) (d4 : decode cc (pc + 4) = .ok (.ldc is, 2)) (d6 : decode cc (pc + 6) = .ok (.invokespecial ic, 3)) (d9 : decode cc (pc + 9) = .ok (.athrow, 1))
    (hout : ∀ x ∈ c.exceptionTable.toList, covers x (pc + 9) = false)
    (hRframes : names.length + 3 < R.frames) (hRlocals : (rest.map fun v => v.category).sum + (13 * (names.length + 1) + 43) ≤ R.locals) (hRcells : cells + 1 ≤ R.cells) (hRslots : slots + 6 ≤ R.slots) (hlocks : meth.locks = false)
    (hx : ∀ t : State, s.vm.Alike t.vm → H.size ≤ t.heap.size → (∀ q : Nat, q < H.size → t.heap[q]? = H[q]?) → XC cls s t)
    (hf : ∀ z ∈ locs, free z.base) (hc : cells + 1 ≤ mc) (hs : slots + 6 ≤ ms) :
    W p l e R s m args below meth c H locs cells slots (vx_MQ below Qc XC args s mc ms free) (F0 m pc ls rest) := by
  intro T hT X
  have htr : e.platform.stackTraces = false := (show e.platform.stackTraces = l.stackTraces by rw [X.admits.platform]).trans hl
  have Y := vx_rebase X (R' := { frames := R.frames, locals := R.locals, cells := 1, slots := 6 }) (Nat.le_refl _) (Nat.le_refl _) hRcells hRslots
  obtain ⟨s', hA⟩ : ∃ z, z = (T.setVm s.vm).setFrames (.invoking m args :: below) := ⟨_, rfl⟩
  rw [← hA] at Y
  have hvm : s'.vm = s.vm := by rw [hA]; rfl
  have hhp : s'.heap = H := by rw [hA]; exact hT
  have hW0 : s.WarmedH s'.vm := by rw [hvm]; exact State.WarmedH.refl s
  have hat' : ∀ w ∈ vx_atS own ic cls names, w.before args s' = true := fun w hw => vx_ot_at hW0 hvm.symm (hgood w (List.mem_cons_of_mem _ (List.mem_cons_of_mem _ hw))) (hat w hw)
  have hk' : (Cond.classLink own ik cls).before args s' = true := vx_ot_at hW0 hvm.symm (hgood _ List.mem_cons_self) hk
  have hini' : (Cond.initialized cls).before args s' = true := vx_ot_at hW0 hvm.symm (hgood _ (List.mem_cons_of_mem _ List.mem_cons_self)) hini
  have hU' : vx_Zq Bundle.tN "UNASSIGNED_STACK" Bundle.steD A s' s'.heap := by rw [hhp]; exact vx_Zq.moved hW0.alike (hU.kept hS.2.1)
  have hN' : vx_Zq Bundle.tN "SUPPRESSED_SENTINEL" Bundle.listD A s' s'.heap := by rw [hhp]; exact vx_Zq.moved hW0.alike (hN.kept hS.2.1)
  have h : ∀ w ∈ Bundle.ownAtoms own ic cls names, w.before args s' = true := vx_own hat' (vx_isRefq hU'.1) (vx_isRefq hN'.1) hU'.2.word hN'.2.word
  have hown' : s'.vm.findClass own = some m.cls := by rw [hvm]; exact hown
  have hins : (Cond.instantiable cls 6).before args s' = true := h _ (by simp [Bundle.ownAtoms])
  obtain ⟨vm₁, cX, kX, hfX, hkX, -, -, X₁, st1⟩ := Y.newCold hexec (own := own) (C := cls) (index := ik) (n := 6) hown' hk' hins hini'
    (g := F0 m pc ls rest) rfl (by rw [hb]; exact d0) (Nat.le_refl _) (Nat.le_refl _)
  generalize hT1 : (T.setVm vm₁).pushCell { cls := cX, slots := kX.instanceTypes.map defaultValue, vm := .none } = T1 at X₁ st1
  have hcat : (Value.ref T.heap.size).category = 1 := rfl
  have hcellA : T1.heap[T.heap.size]? = some (freshCell cX kX) := by rw [← hT1]; exact State.heap_pushCell_size _ _
  have d3' : decode c.code (pc + 3) = .ok (.dup, 1) := by rw [hb]; exact d3
  have d4' : decode c.code (pc + 4) = .ok (.ldc is, 2) := by rw [hb]; exact d4
  have hstr' : vk_R own is text sa s' := vk_R.warm hW0 hstr
  obtain ⟨U, hsteps, hrun, hend, hW, hsame, ce, hce, hO⟩ := X₁.ctorThrowS hexec htr (own := own) (cls := cls) (names := names) (ic := ic) hown' hcls hnames h (fun x hx => nomatch hx) hfX hkX hcellA (by rw [hhp, hT]; exact Nat.le_refl _) (msg := .ref sa) rfl
    (g := { method := m, pc := pc + 6, locals := ls, stack := .ref sa :: .ref T.heap.size :: .ref T.heap.size :: rest, locked := none }) rfl hsize rfl rfl (rest := rest) rfl
    (by rw [hb]; exact d6) (by rw [hb]; exact d9) hout hRframes (by simp only [List.map_cons, List.sum_cons, hcat]; omega) hlocks
  obtain ⟨f1, f2⟩ := vx_frame hsame
  rw [hhp] at f1 f2
  have hWs : s.WarmedH U.vm := State.WarmedH.trans hW0 hW
  have hcl : s.vm.findClass cls = some ce.cls := by
    have h9 := hO.cls
    rw [hvm] at h9
    exact h9
  have hall : s.sameButNew ({ U with vm := s.vm } : State) locs mc ms := by
    subst hA
    obtain ⟨e1, e2⟩ := hsame
    rw [State.setFrames_setFrames] at e1
    have h2 : (T.setVm s.vm).sameButNew ({ U with vm := s.vm } : State) [] (0 + 1) (0 + 6) := ⟨e1, e2⟩
    have h3 := X.same.trans h2
    rw [List.append_nil] at h3
    exact h3.mono hc hs
  refine ⟨U, ?_, .threw T.heap.size, hrun, hend, Or.inr ⟨T.heap.size, rfl, cls, ce, locs, hx U hWs.alike f1 (fun q hq => f2 q hq (fun z hz => nomatch hz)), hce, hO.vm, hcl, hWs, hall, hf⟩⟩
  refine st1 _ ?_
  show Steps p.tables e below (T1.setTop { method := m, pc := pc + 3, locals := ls, stack := .ref T.heap.size :: rest, locked := none }) _
  jvm_step X₁.here [X₁.here.top, hexec, d3', Value.category]
  exact X₁.ldcString hexec (own := own) (text := text) (index := is) (a := sa) hown' hstr'.1 hstr'.2
    (g := { method := m, pc := pc + 4, locals := ls, stack := .ref T.heap.size :: .ref T.heap.size :: rest, locked := none }) rfl d4' _ hsteps
/-- 'throw new E("text")', the text by a wide index -/
theorem vx_throwSW {cc : ByteArray} {pc : Nat} (hexec : p.tables.exec = Jvm.exec) (hb : c.code = cc) (hl : l.stackTraces = false) {own cls text : String} {names : List String} {ik is ic mc ms sa : Nat} {A : Nat → Prop}
    (hown : s.vm.findClass own = some m.cls) (hcls : Bundle.fit cls = true) (hnames : ∀ n ∈ names, Bundle.fit n = true)
    (hk : (Cond.classLink own ik cls).before args s = true) (hini : (Cond.initialized cls).before args s = true) (hstr : vk_R own is text sa s) (hat : ∀ w ∈ vx_atS own ic cls names, w.before args s = true)
    (hgood : ∀ w ∈ Cond.classLink own ik cls :: Cond.initialized cls :: vx_atS own ic cls names, vx_ot w = true)
    (hU : vx_Zq Bundle.tN "UNASSIGNED_STACK" Bundle.steD A s s.heap) (hN : vx_Zq Bundle.tN "SUPPRESSED_SENTINEL" Bundle.listD A s s.heap) (hS : va_S A s.heap H locs) (hsize : ls.size = c.maxLocals)
    (d0 : decode cc pc = .ok (.new ik, 3)) (d3 : decode cc (pc + 3) = .ok (.dup, 1)) (d4 : decode cc (pc + 4) = .ok (.ldc_w is, 3)) (d7 : decode cc (pc + 7) = .ok (.invokespecial ic, 3)) (d10 : decode cc (pc + 10) = .ok (.athrow, 1))
    (hout : ∀ x ∈ c.exceptionTable.toList, covers x (pc + 10) = false)
    (hRframes : names.length + 3 < R.frames) (hRlocals : (rest.map fun v => v.category).sum + (13 * (names.length + 1) + 43) ≤ R.locals) (hRcells : cells + 1 ≤ R.cells) (hRslots : slots + 6 ≤ R.slots) (hlocks : meth.locks = false)
    (hx : ∀ t : State, s.vm.Alike t.vm → H.size ≤ t.heap.size → (∀ q : Nat, q < H.size → t.heap[q]? = H[q]?) → XC cls s t)
    (hf : ∀ z ∈ locs, free z.base) (hc : cells + 1 ≤ mc) (hs : slots + 6 ≤ ms) :
    W p l e R s m args below meth c H locs cells slots (vx_MQ below Qc XC args s mc ms free) (F0 m pc ls rest) := by
  intro T hT X
  have htr : e.platform.stackTraces = false := (show e.platform.stackTraces = l.stackTraces by rw [X.admits.platform]).trans hl
  have Y := vx_rebase X (R' := { frames := R.frames, locals := R.locals, cells := 1, slots := 6 }) (Nat.le_refl _) (Nat.le_refl _) hRcells hRslots
  obtain ⟨s', hA⟩ : ∃ z, z = (T.setVm s.vm).setFrames (.invoking m args :: below) := ⟨_, rfl⟩
  rw [← hA] at Y
  have hvm : s'.vm = s.vm := by rw [hA]; rfl
  have hhp : s'.heap = H := by rw [hA]; exact hT
  have hW0 : s.WarmedH s'.vm := by rw [hvm]; exact State.WarmedH.refl s
  have hat' : ∀ w ∈ vx_atS own ic cls names, w.before args s' = true := fun w hw => vx_ot_at hW0 hvm.symm (hgood w (List.mem_cons_of_mem _ (List.mem_cons_of_mem _ hw))) (hat w hw)
  have hk' : (Cond.classLink own ik cls).before args s' = true := vx_ot_at hW0 hvm.symm (hgood _ List.mem_cons_self) hk
  have hini' : (Cond.initialized cls).before args s' = true := vx_ot_at hW0 hvm.symm (hgood _ (List.mem_cons_of_mem _ List.mem_cons_self)) hini
  have hU' : vx_Zq Bundle.tN "UNASSIGNED_STACK" Bundle.steD A s' s'.heap := by rw [hhp]; exact vx_Zq.moved hW0.alike (hU.kept hS.2.1)
  have hN' : vx_Zq Bundle.tN "SUPPRESSED_SENTINEL" Bundle.listD A s' s'.heap := by rw [hhp]; exact vx_Zq.moved hW0.alike (hN.kept hS.2.1)
  have h : ∀ w ∈ Bundle.ownAtoms own ic cls names, w.before args s' = true := vx_own hat' (vx_isRefq hU'.1) (vx_isRefq hN'.1) hU'.2.word hN'.2.word
  have hown' : s'.vm.findClass own = some m.cls := by rw [hvm]; exact hown
  have hins : (Cond.instantiable cls 6).before args s' = true := h _ (by simp [Bundle.ownAtoms])
  obtain ⟨vm₁, cX, kX, hfX, hkX, -, -, X₁, st1⟩ := Y.newCold hexec (own := own) (C := cls) (index := ik) (n := 6) hown' hk' hins hini'
    (g := F0 m pc ls rest) rfl (by rw [hb]; exact d0) (Nat.le_refl _) (Nat.le_refl _)
  generalize hT1 : (T.setVm vm₁).pushCell { cls := cX, slots := kX.instanceTypes.map defaultValue, vm := .none } = T1 at X₁ st1
  have hcat : (Value.ref T.heap.size).category = 1 := rfl
  have hcellA : T1.heap[T.heap.size]? = some (freshCell cX kX) := by rw [← hT1]; exact State.heap_pushCell_size _ _
  have d3' : decode c.code (pc + 3) = .ok (.dup, 1) := by rw [hb]; exact d3
  have d4' : decode c.code (pc + 4) = .ok (.ldc_w is, 3) := by rw [hb]; exact d4
  have hstr' : vk_R own is text sa s' := vk_R.warm hW0 hstr
  obtain ⟨U, hsteps, hrun, hend, hW, hsame, ce, hce, hO⟩ := X₁.ctorThrowS hexec htr (own := own) (cls := cls) (names := names) (ic := ic) hown' hcls hnames h (fun x hx => nomatch hx) hfX hkX hcellA (by rw [hhp, hT]; exact Nat.le_refl _) (msg := .ref sa) rfl
    (g := { method := m, pc := pc + 7, locals := ls, stack := .ref sa :: .ref T.heap.size :: .ref T.heap.size :: rest, locked := none }) rfl hsize rfl rfl (rest := rest) rfl
    (by rw [hb]; exact d7) (by rw [hb]; exact d10) hout hRframes (by simp only [List.map_cons, List.sum_cons, hcat]; omega) hlocks
  obtain ⟨f1, f2⟩ := vx_frame hsame
  rw [hhp] at f1 f2
  have hWs : s.WarmedH U.vm := State.WarmedH.trans hW0 hW
  have hcl : s.vm.findClass cls = some ce.cls := by
    have h9 := hO.cls
    rw [hvm] at h9
    exact h9
  have hall : s.sameButNew ({ U with vm := s.vm } : State) locs mc ms := by
    subst hA
    obtain ⟨e1, e2⟩ := hsame
    rw [State.setFrames_setFrames] at e1
    have h2 : (T.setVm s.vm).sameButNew ({ U with vm := s.vm } : State) [] (0 + 1) (0 + 6) := ⟨e1, e2⟩
    have h3 := X.same.trans h2
    rw [List.append_nil] at h3
    exact h3.mono hc hs
  refine ⟨U, ?_, .threw T.heap.size, hrun, hend, Or.inr ⟨T.heap.size, rfl, cls, ce, locs, hx U hWs.alike f1 (fun q hq => f2 q hq (fun z hz => nomatch hz)), hce, hO.vm, hcl, hWs, hall, hf⟩⟩
  refine st1 _ ?_
  show Steps p.tables e below (T1.setTop { method := m, pc := pc + 3, locals := ls, stack := .ref T.heap.size :: rest, locked := none }) _
  jvm_step X₁.here [X₁.here.top, hexec, d3', Value.category]
  exact X₁.ldcStringW hexec (own := own) (text := text) (index := is) (a := sa) hown' hstr'.1 hstr'.2
    (g := { method := m, pc := pc + 4, locals := ls, stack := .ref T.heap.size :: .ref T.heap.size :: rest, locked := none }) rfl d4' _ hsteps
end Ends
section Bodies
variable {l : Launch}
theorem vx_ofW {y : MethodName} {ws ws' : List Cond} {rm : Room} {Pc : Array Value → State → Prop} {Qc : Array Value → State → Outcome → State → Prop} {XC : String → State → State → Prop} {mc ms : Nat} {free : Addr → Prop} {cc : ByteArray} {maxL : Nat} {ret : Option FieldType}
    (hy : plainName y.cls = true) (hw : ws = Cond.code y cc maxL ret :: ws')
    (body : ∀ p e s m args below meth c s₁, BodyLoose p l y (headSpec ws rm) cc maxL ret e s m args below meth c s₁ → c.maxLocals = maxL → (∀ x ∈ c.exceptionTable.toList, False) → Pc args s →
      W p l e (headSpec ws rm).room s m args below meth c s.heap [] 0 0 (vx_MQ below Qc XC args s mc ms free) (entryFrame m args maxL)) : vx_Met l y ws rm Pc Qc XC mc ms free := by
  refine MetFree.of_bodyS (code := cc) (maxLocals := maxL) (ret := ret) hy ?_ ?_
  · intro args s m h hn
    obtain ⟨meth, c, h1, h2, h3, h4, h5, h6, -, -⟩ := Cond.code_spec hn (atoms_spec (ws := ws) h _ (by rw [hw]; exact List.mem_cons_self))
    exact ⟨meth, c, h1, h2, h3, h4, h5, h6⟩
  · intro p e s m args below meth c s₁ B hml hP _
    have hh0 : s₁.heap = s.heap := by rw [B.state]; rfl
    have ht : ∀ x ∈ c.exceptionTable.toList, False := by
      obtain ⟨meth9, c9, h1, h2, -, -, -, -, h7, -⟩ := Cond.code_spec B.named (atoms_spec (ws := ws) B.pre _ (by rw [hw]; exact List.mem_cons_self))
      cases Option.some.inj (h1.symm.trans B.method)
      cases Option.some.inj (h2.symm.trans (Stand.of_body B).code)
      intro x hx
      rw [Array.isEmpty_iff.mp h7] at hx
      cases hx
    obtain ⟨t, a1, o, b1, b2, b3⟩ := body p e s m args below meth c s₁ B hml ht hP s₁ hh0 (Stand.of_body B)
    exact ⟨t, o, a1, b1, b2, b3⟩
/-- the table of a body with handlers -/
theorem vx_table {p : Program} {x y : MethodName} {S : Spec} {cc bytes : ByteArray} {maxL maxL' : Nat} {ret ret' : Option FieldType} {e : Env} {s s₁ : State} {m : MethodId} {args : Array Value} {below : List Frame} {meth : Method} {c : Code} {hh : List (Nat × Nat × Nat × Nat)}
    (B : BodyLoose p l y S cc maxL ret e s m args below meth c s₁) (h : (Cond.codeWith y bytes maxL' ret' hh).before args s = true) : c.exceptionTable.toList = tableOf hh := by
  obtain ⟨m9, meth9, c9, hn9, h1, h2, -, -, h6, -⟩ := Cond.codeWith_spec h
  cases Option.some.inj (hn9.symm.trans B.named)
  cases Option.some.inj (h1.symm.trans B.method)
  cases Option.some.inj (h2.symm.trans (Stand.of_body B).code)
  rw [← h6, table_eq]
end Bodies
end VXA
/-! ===== END ===== -/
/-! ===== BEGIN a static call of a method with an exception table ===== -/
section VXS
variable {p : Program} {l : Launch} {e : Env} {R : Room} {s : State} {m : MethodId} {args : Array Value} {below : List Frame} {meth : Method} {c : Code} {T : State} {H : Heap} {locs : List Loc} {cells slots : Nat}
abbrev vx_CSW (R : Room) (s : State) (args : Array Value) (own : String) (index : Nat) (y : MethodName) (bytes : ByteArray) (maxL : Nat) (ret : Option FieldType) (hh : List (Nat × Nat × Nat × Nat)) (ws : List Cond) (rm : Room) (mc ms n : Nat) : Prop :=
  (rm.cells = mc ∧ rm.slots = ms ∧ rm.frames + 1 ≤ R.frames ∧ 8 + (maxL + 11) + rm.locals ≤ R.locals ∧ (∀ w ∈ ws, ∀ (a' : Array Value) (U : State), s.WarmedH U.vm → w.before a' U = true) ∧ Cond.codeWith y bytes maxL ret hh ∈ ws) ∧
  (Cond.codeWith y bytes maxL ret hh).before args s = true ∧ (Cond.initialized y.cls).before args s = true ∧ (y.cls ≠ "java/lang/invoke/MethodHandle" ∧ y.cls ≠ "java/lang/invoke/VarHandle") ∧
  (∀ sig, parseMethodDescriptor y.desc = some sig → n = sig.parameters.length) ∧ (Cond.methodLink own index y).before args s = true ∧ (Cond.static y).before args s = true
theorem vx_cwSW {own : String} {index maxL mc ms : Nat} {y : MethodName} {bytes : ByteArray} {ret : Option FieldType} {hh : List (Nat × Nat × Nat × Nat)} {Ts ws ws' : List Cond} {rm : Room} (n : Nat) (ht : ∀ w ∈ Ts, w.before args s = true) (hT : GoodIn Ts (va_wsS own index y ws)) (hw : ws = Cond.codeWith y bytes maxL ret hh :: ws') (hrc : rm.cells = mc) (hrs : rm.slots = ms)
    (hd : y.cls ≠ "java/lang/invoke/MethodHandle" ∧ y.cls ≠ "java/lang/invoke/VarHandle" ∧ (parseMethodDescriptor y.desc).map (fun d => d.parameters.length) = some n) (hR : rm.frames + 1 ≤ R.frames ∧ 8 + (maxL + 11) + rm.locals ≤ R.locals) :
    vx_CSW R s args own index y bytes maxL ret hh ws rm mc ms n := by
  have ok : ∀ w ∈ va_wsS own index y ws, w.before args s = true := fun w h => ht w (hT w h).1
  have hG : GoodIn Ts ws := fun w h => hT w (by unfold va_wsS; exact List.mem_append_right _ h)
  have hc : Cond.codeWith y bytes maxL ret hh ∈ ws := by rw [hw]; exact List.mem_cons_self
  refine ⟨⟨hrc, hrs, hR.1, hR.2, pay_in ht hG, hc⟩, ht _ (hG _ hc).1, ok _ (by simp [va_wsS]), ⟨hd.1, hd.2.1⟩, fun sig h => ?_, ok _ (by simp [va_wsS]), ok _ (by simp [va_wsS])⟩
  have h2 := hd.2.2
  rw [h] at h2
  exact (Option.some.inj h2).symm
theorem vx_callSW (X : Stand p l e R s m args below meth c T locs cells slots) (hexec : p.tables.exec = Jvm.exec) {own : String} {index : Nat} {y : MethodName} {bytes : ByteArray} {maxL : Nat} {ret : Option FieldType} {hh : List (Nat × Nat × Nat × Nat)}
    (hown : s.vm.findClass own = some m.cls) (hlink : (Cond.methodLink own index y).before args s = true) (hstat : (Cond.static y).before args s = true) (hinit : (Cond.initialized y.cls).before args s = true)
    (hcode : (Cond.codeWith y bytes maxL ret hh).before args s = true) (hy : y.cls ≠ "java/lang/invoke/MethodHandle" ∧ y.cls ≠ "java/lang/invoke/VarHandle")
    {W9 : Nat} {Pre : Pt → Array Value → Prop} {Post : Pt → Array Value → Option Value → Pt → Prop} (hK : Back l R p e below s args y 3 W9 Pre Post)
    {g : JFrame} (hg : g.method = m) (hsize : g.locals.size = c.maxLocals) {argsL rest : List Value} (hlen : ∀ sig, parseMethodDescriptor y.desc = some sig → argsL.length = sig.parameters.length)
    (hstack : g.stack = argsL.reverse ++ rest) (hW : 2 * g.monitorRoom + (rest.map fun v => v.category).sum ≤ W9) (hdg : decode c.code g.pc = .ok (.invokestatic index, 3))
    (hpre : ∀ vm₁, s.WarmedH vm₁ → Pre ⟨T.setVm vm₁, locs, cells, slots⟩ argsL.toArray) :
    ∃ (v : Option Value) (vm₁ : Vm) (B : Pt), s.WarmedH vm₁ ∧ Stand p l e R s m args below meth c B.U B.locs B.cells B.slots ∧ Post ⟨T.setVm vm₁, locs, cells, slots⟩ argsL.toArray v B ∧
      ∀ target, Steps p.tables e below (B.U.setTop { g with pc := g.pc + 3, stack := v.toList ++ rest }) target → Steps p.tables e below (T.setTop g) target := by
  obtain ⟨mk, methM, cM, hnamed, hmethM, -, -, -, -, -, -, hsigM⟩ := Cond.codeWith_spec hcode
  have hstatic : methM.isStatic = true := Cond.static_spec hnamed hmethM hstat
  obtain ⟨kP, hkP, -⟩ := className_of_methodNamed hnamed
  have hinitP : kP.init = .initialized := Cond.initialized_spec (findClass_of_methodNamed hnamed) hkP hinit
  obtain ⟨vm₁, X₁, hstep₁⟩ := X.invokestatic hexec hown hlink hnamed hmethM hstatic hkP hinitP hy (g := g) hg (argsL := argsL) (rest := rest) (hlen _ hsigM) hstack hdg
  obtain ⟨v, B, X', hpost, hsteps⟩ := hK m meth c ⟨T.setVm vm₁, locs, cells, slots⟩ { g with stack := rest } (.invokestatic index) mk argsL.toArray X₁ hg hsize hdg hW (X₁.named hnamed) (hpre vm₁ X₁.warmed)
  exact ⟨v, vm₁, B, X₁.warmed, X', hpost, fun target h => hstep₁ _ fun acts => by rw [doInvoke_state]; exact hsteps.trans h⟩
theorem vx_runSW {y : MethodName} {bytes cc : ByteArray} {maxL nL mc ms n index : Nat} {ret : Option FieldType} {hh : List (Nat × Nat × Nat × Nat)} {ws : List Cond} {rm : Room} {Pc : Array Value → State → Prop} {Qc : Array Value → State → Outcome → State → Prop} {free : Addr → Prop} {Ts : List Cond} {own : String} {As rest : List Value} {g : JFrame}
    (S : CallFix p m c cc nL s args Ts own) (hM : Met l y ws rm Pc Qc mc ms free) (cw : vx_CSW R s args own index y bytes maxL ret hh ws rm mc ms n) (hp : PreS s H Pc As)
    (hg : g.method = m) (hn : As.length = n) (hsize : g.locals.size = nL) (hstack : g.stack = As.reverse ++ rest) (hW : 2 * g.monitorRoom + (rest.map fun v => v.category).sum ≤ 8) (hdg : decode cc g.pc = .ok (.invokestatic index, 3)) (hf : cells + mc ≤ R.cells ∧ slots + ms ≤ R.slots) :
    va_Run p l e R s m args below meth c H locs cells slots mc ms g rest (Qc As.toArray) (free) := by
  obtain ⟨⟨hrc, hrs, hfr, hlo, hws, hcw⟩, hcode, hini, hy, hlen, hl, hstt⟩ := cw
  have hK : Back l R p e below s args y 3 8 (PreOf R mc ms Pc) (PostOf Qc mc ms free) := va_backW (hh := hh) (bytes := bytes) (maxL := maxL) (ret := ret) hM hp.1 hrc hrs hfr hlo hws hcw (fun a' U hW => word_at hW (Or.inl (by first | rfl | simp [Cond.onTables, Cond.keeps, Cond.steady])) hini)
  obtain ⟨hx, hb, hml, ho, -⟩ := S
  intro T hT X
  obtain ⟨v, vm₁, ⟨U', l2, c2, s2⟩, hW₁, X', ⟨g', mk, t, L, e1, e2, hq, h1, hL, h2, h3⟩, st⟩ := vx_callSW X hx (hh := hh) (bytes := bytes) (maxL := maxL) (ret := ret) ho hl hstt hini hcode hy hK hg (hsize.trans hml.symm) (argsL := As) (rest := rest) (fun sig h => hn.trans (hlen sig h)) hstack hW (by rw [hb]; exact hdg)
    (fun vm₁ hW₁ => ⟨hf.1, hf.2, hp.2 (T.setVm vm₁) hT hW₁⟩)
  dsimp only [Pt.U, Pt.locs, Pt.cells, Pt.slots] at X' e1 e2 h1 h2 h3 st
  subst h1; subst h2; subst h3
  exact ⟨v, (T.setVm vm₁).calling g' mk As.toArray, t, U', L, hT, X', hL, e1, e2, hq, st⟩
/-- not caught here, past rows that name other classes: it goes on to the caller -/
theorem vx_outP {p : Program} {l : Launch} {e : Env} {R : Room} {s : State} {m : MethodId} {args : Array Value} {below : List Frame} {meth : Method} {c : Code} {H : Heap} {locs : List Loc} {cells slots : Nat} {free : Addr → Prop} {ls : Array Slot} {rest : List Value} {Qc : Array Value → State → Outcome → State → Prop} {XC : String → State → State → Prop}
    {pc : Nat} {own E : String} {ce : Cell} {q : Addr} {mc ms : Nat} (hown : s.vm.findClass own = some m.cls) (hlocks : meth.locks = false)
    (hpass : ∀ z ∈ c.exceptionTable.toList, covers z pc = false ∨ (z.catchType ≠ 0 ∧ ∃ nm : String, (Cond.classLink own z.catchType nm).before args s = true ∧ va_Nc E nm s)) (hcell : H[q]? = some ce) (hv : ce.vm = .none) (hcl : s.vm.findClass E = some ce.cls)
    (hx : ∀ t : State, t.heap = H → s.vm.Alike t.vm → XC E s t) (hf : ∀ z ∈ locs, free z.base) (hc : cells ≤ mc) (hs : slots ≤ ms) :
    vx_W p l e R s m args below meth c H locs cells slots (vx_MQ below Qc XC args s mc ms free) (F0 m pc ls rest) q := by
  intro T hT X
  have hpl : e.platform.magicAccessors = ({} : Platform).magicAccessors := by rw [X.admits.platform]
  obtain ⟨vm', hW', X', st⟩ := X.outThrough hlocks q (g := F0 m pc ls rest) rfl rfl rfl (cell := ce) (by rw [hT]; exact hcell) (by rw [hv]; rfl)
    (by obtain ⟨k9, h9, -⟩ := Vm.findClass_spec hcl; exact ⟨k9, h9⟩) (fun z hz => by
      rcases hpass z hz with h | ⟨hz0, nm, hl1, hn1⟩
      · exact Or.inl h
      · obtain ⟨c6, hc6, hcl6⟩ := Cond.classLink_spec hown hl1 e.platform hpl
        obtain ⟨a8, b8, h1, h2, h3⟩ := hn1
        cases Option.some.inj (h1.symm.trans hcl)
        cases Option.some.inj (h2.symm.trans hc6)
        exact Or.inr ⟨hz0, _, hcl6, h3⟩)
  obtain ⟨g₀, hfr⟩ := X'.frames_eq
  have hcell9 : ((T.setVm vm').setFrames (.throwing q :: below)).heap[q]? = some ce := by
    show T.heap[q]? = some ce
    rw [hT]; exact hcell
  have hend : Ended ((T.setVm vm').setFrames (.throwing q :: below)) below (.threw q) := State.frames_setFrames _ (State.cur_lt_of_frames hfr)
  refine ⟨(T.setVm vm').setFrames (.throwing q :: below), ?_, .threw q, X'.here.running, hend, Or.inr ⟨q, rfl, E, ce, locs, hx _ hT (X'.ends _).1.alike, hcell9, hv, hcl, (X'.ends _).1, (X'.ends _).2.mono hc hs, hf⟩⟩
  rw [X.pushThrowing_eq]
  exact st
/-- a thing of a world lies in the heap -/
theorem vx_lt {D : va_G} {cl : List vw_C} {ws : va_W} {H1 : Heap} (h : va_P D cl ws H1) {k : Nat} {q : Nat × va_E} (hk : ws[k]? = some q) : q.1 < H1.size := (h k q hk).lt
end VXS
/-! ===== END ===== -/
/-! ===== BEGIN methods with a table of their own: called by a name, returning or throwing ===== -/
section VXH
/-! vx_backW, vx_callVX, vx_callSX, vx_callVW, vx_runVW, vx_runVX, vx_runSX, vx_ofWH follow the same proofs as their sisters above (Free/Laws.lean, Shelf42/LK1.lean); vx_outP calls Shelf42/NT130.lean (outThrough). -/
section
variable {l : Launch} {R : Room} {p : Program} {e : Env} {below : List Frame} {s : State} {sargs : Array Value} {y : MethodName} {len W9 : Nat}
theorem vx_backW {ws : List Cond} {rm : Room} {Pc : Array Value → State → Prop} {Qc : Array Value → State → Outcome → State → Prop} {XC : String → State → State → Prop} {mc ms : Nat} {free : Addr → Prop} {bytes : ByteArray} {maxL : Nat} {ret : Option FieldType} {hh : List (Nat × Nat × Nat × Nat)}
    (hM : vx_Met l y ws rm Pc Qc XC mc ms free) (hblind : FrameBlind Pc) (hrc : rm.cells = mc) (hrs : rm.slots = ms)
    (hframes : rm.frames + 1 ≤ R.frames) (hlocals : W9 + (maxL + 11) + rm.locals ≤ R.locals)
    (hws : ∀ w ∈ ws, ∀ a' U, s.WarmedH U.vm → w.before a' U = true) (hcode : Cond.codeWith y bytes maxL ret hh ∈ ws) (hinit : ∀ a' U, s.WarmedH U.vm → (Cond.initialized y.cls).before a' U = true) :
    vx_Back l R p e below s sargs y len W9 (PreOf R mc ms Pc) (PostOf Qc mc ms free) (vx_Post XC mc ms free) := by
  intro m meth c A g ig mk a X hg hsize hdg hW hn hp
  have h1 : (headSpec ws rm).pre.before a A.U = true := atoms_intro fun w hw => hws w hw _ _ X.warmed
  have h2 : (Cond.codeWith y bytes maxL ret hh).before a A.U = true := hws _ hcode _ _ X.warmed
  have h3 : (Cond.initialized y.cls).before a A.U = true := hinit _ _ X.warmed
  have h4 : A.cells + (headSpec ws rm).room.cells ≤ R.cells := by rw [show (headSpec ws rm).room.cells = mc from hrc]; exact hp.1
  have h5 : A.slots + (headSpec ws rm).room.slots ≤ R.slots := by rw [show (headSpec ws rm).room.slots = ms from hrs]; exact hp.2.1
  have hPc : Pc a (A.U.calling g mk a) := hblind _ _ _ _ hp.2.2
  obtain ⟨U, Ls, c0, s0⟩ := A
  dsimp only [Pt.U, Pt.locs, Pt.cells, Pt.slots] at h1 h2 h3 h4 h5 X hn hPc ⊢
  obtain ⟨m9, methY, cY, hn9, hmY, hcY, -, hlY, -⟩ := Cond.codeWith_spec h2
  cases Option.some.inj (hn9.symm.trans hn)
  obtain ⟨kY, hkY, -⟩ := className_of_methodNamed hn
  have hinitY : kY.init = .initialized := Cond.initialized_spec (findClass_of_methodNamed hn) hkY h3
  have h : At U g.method c below := by rw [hg]; exact X.here
  have hlocals9 : W9 + (maxL + 11) + (headSpec ws rm).room.locals ≤ R.locals := hlocals
  have happ : (headSpec ws rm).appliesLoose y e.platform (U.calling g mk a) = true :=
    Spec.appliesLoose_calling (g := g) h hdg hn hkY hinitY
      (X.room_calling (g := g) (R' := (headSpec ws rm).room) hsize hmY hcY hframes (by rw [hlY]; omega) h4 h5) h1
  obtain ⟨mid, hmid⟩ := h.above
  have hfr : (U.setTop g).frames = (.java g :: mid) ++ below := by rw [State.frames_setTop' g h.top, hmid]; rfl
  obtain ⟨o, s₂, hsteps, -, hend, hq⟩ := Steps.callFree hM p X.admits X.cas X.clock (acts := []) hfr happ hPc trivial
  have hq' : vx_Q Qc XC mc ms free a (U.calling g mk a) o s₂ := hq
  rw [State.frames_setTop' g h.top] at hend
  obtain ⟨g₀, hg0⟩ := Option.isSome_iff_exists.mp h.top
  obtain ⟨r, hr⟩ := State.topJava?_eq_some.mp hg0
  have hr' : (({ U with heap := s₂.heap, slotsUsed := s₂.slotsUsed } : State).setVm s₂.vm).frames = .java g₀ :: r := hr
  rcases hq' with ⟨hqc, L, hfe, hL⟩ | ⟨q, rfl, E, ce, L, hx, hce, hcv, hcl, hW₂, hsm, hL⟩
  · obtain ⟨⟨v, rfl⟩, hW₂, e2, q2, q3, q4, q5, q6⟩ := id hfe
    have e3 : s₂ = ({ (U.calling g mk a).setFrames s₂.frames with heap := s₂.heap, slotsUsed := s₂.slotsUsed } : State).setVm s₂.vm := by
      have : s₂ = ({ s₂ with vm := (U.calling g mk a).vm } : State).setVm s₂.vm := rfl
      rw [e2] at this
      exact this
    obtain ⟨c₂, i₂, len₂, hc₂, hd₂, hf₂⟩ := hend
    have hW' : U.WarmedH s₂.vm := hW₂
    have hcc : c₂ = c := by
      have h1 : s₂.code? g.method = U.code? g.method := by
        rw [State.code?_eq, State.code?_eq, hW'.alike.method?]
      exact Option.some.inj (hc₂.symm.trans (h1.trans h.code))
    subst hcc
    have hlen : len₂ = len := by rw [hdg] at hd₂; cases hd₂; rfl
    subst hlen
    have hs₂ : s₂ = (({ U with heap := s₂.heap, slotsUsed := s₂.slotsUsed } : State).setVm s₂.vm).setTop { g with pc := g.pc + len₂, stack := v.toList ++ g.stack } := by
      refine e3.trans ?_
      rw [hf₂, State.calling_eq h.top, State.setFrames_setFrames, State.setTop_of_frames _ hr', hr]
      rfl
    have hsame : U.sameButNew ({ U with heap := s₂.heap, slotsUsed := s₂.slotsUsed } : State) L mc ms := by
      refine ⟨?_, q2, q3, q4, q5, q6⟩
      obtain ⟨t, ht, -⟩ := State.frames_cons hr
      show ({ U with heap := s₂.heap, slotsUsed := s₂.slotsUsed } : State) = { U.setFrames U.frames with heap := s₂.heap, slotsUsed := s₂.slotsUsed }
      rw [State.setFrames_self ht]
    subst hg
    refine Or.inl ⟨v, ⟨(({ U with heap := s₂.heap, slotsUsed := s₂.slotsUsed } : State).setVm s₂.vm), Ls ++ L, c0 + mc, s0 + ms⟩,
      ⟨X.admits, X.cas, X.clock, X.frames, X.room, X.hears, X.method, X.code, (X.here.setHeapUsed s₂.heap s₂.slotsUsed).setVm hW'.alike, X.tail, State.WarmedH.trans X.warmed hW', X.limits, X.bytes, X.same.trans (hsame.setVm s.vm)⟩,
      ⟨g, mk, s₂, L, rfl, rfl, hqc, rfl, hL, rfl, rfl⟩, ?_⟩
    show Steps p.tables e below _ ((({ U with heap := s₂.heap, slotsUsed := s₂.slotsUsed } : State).setVm s₂.vm).setTop { g with pc := g.pc + len₂, stack := v.toList ++ g.stack })
    rw [← hs₂]
    exact hsteps
  · obtain ⟨e2, q2, q3, q4, q5, q6⟩ := id hsm
    have e3 : s₂ = ({ (U.calling g mk a).setFrames s₂.frames with heap := s₂.heap, slotsUsed := s₂.slotsUsed } : State).setVm s₂.vm := by
      have : s₂ = ({ s₂ with vm := (U.calling g mk a).vm } : State).setVm s₂.vm := rfl
      rw [e2] at this
      exact this
    have hf₂ : s₂.frames = .throwing q :: .java g :: U.frames.tail := hend
    have hW' : U.WarmedH s₂.vm := hW₂
    have hs₂ : s₂ = ((({ U with heap := s₂.heap, slotsUsed := s₂.slotsUsed } : State).setVm s₂.vm).setTop g).pushFrame (.throwing q) := by
      refine e3.trans ?_
      rw [hf₂, State.calling_eq h.top, State.setFrames_setFrames, State.pushFrame, State.frames_setTop _ hr', State.setTop_of_frames _ hr', State.setFrames_setFrames, hr]
      rfl
    have hsame : U.sameButNew ({ U with heap := s₂.heap, slotsUsed := s₂.slotsUsed } : State) L mc ms := by
      refine ⟨?_, q2, q3, q4, q5, q6⟩
      obtain ⟨t, ht, -⟩ := State.frames_cons hr
      show ({ U with heap := s₂.heap, slotsUsed := s₂.slotsUsed } : State) = { U.setFrames U.frames with heap := s₂.heap, slotsUsed := s₂.slotsUsed }
      rw [State.setFrames_self ht]
    subst hg
    refine Or.inr ⟨q, ⟨(({ U with heap := s₂.heap, slotsUsed := s₂.slotsUsed } : State).setVm s₂.vm), Ls ++ L, c0 + mc, s0 + ms⟩,
      ⟨X.admits, X.cas, X.clock, X.frames, X.room, X.hears, X.method, X.code, (X.here.setHeapUsed s₂.heap s₂.slotsUsed).setVm hW'.alike, X.tail, State.WarmedH.trans X.warmed hW', X.limits, X.bytes, X.same.trans (hsame.setVm s.vm)⟩,
      ⟨g, mk, s₂, L, E, ce, rfl, rfl, hx, hce, hcv, hcl, rfl, hL, rfl, rfl⟩, ?_⟩
    show Steps p.tables e below _ (((({ U with heap := s₂.heap, slotsUsed := s₂.slotsUsed } : State).setVm s₂.vm).setTop g).pushFrame (.throwing q))
    rw [← hs₂]
    exact hsteps
end
variable {p : Program} {l : Launch} {e : Env} {R : Room} {s : State} {m : MethodId} {args : Array Value} {below : List Frame} {meth : Method} {c : Code} {T : State} {H : Heap} {locs : List Loc} {cells slots : Nat}
theorem vx_callVX (X : Stand p l e R s m args below meth c T locs cells slots) (hexec : p.tables.exec = Jvm.exec) {own C : String} {index : Nat} {y : MethodName} {bytes : ByteArray} {maxL : Nat} {ret : Option FieldType} {hh : List (Nat × Nat × Nat × Nat)}
    (hown : s.vm.findClass own = some m.cls) (hlink : (Cond.methodLink own index y).before args s = true) (hinst : (Cond.instanceMethod y).before args s = true) (hsel : (Cond.selects C y y).before args s = true)
    (hcode : (Cond.codeWith y bytes maxL ret hh).before args s = true) (hy : y.cls ≠ "java/lang/invoke/MethodHandle" ∧ y.cls ≠ "java/lang/invoke/VarHandle")
    {W9 : Nat} {Pre : Pt → Array Value → Prop} {Post : Pt → Array Value → Option Value → Pt → Prop} {PostX : Pt → Array Value → Addr → Pt → Prop} (hK : vx_Back l R p e below s args y 3 W9 Pre Post PostX)
    {b : Addr} {cellB : Cell} (hcell : T.heap[b]? = some cellB) (hobj : cellB.vm.isStatics = false) (hcls : s.vm.findClass C = some cellB.cls)
    {g : JFrame} (hg : g.method = m) (hsize : g.locals.size = c.maxLocals) {argsL rest : List Value} (hlen : ∀ sig, parseMethodDescriptor y.desc = some sig → argsL.length = sig.parameters.length)
    (hstack : g.stack = argsL.reverse ++ .ref b :: rest) (hW : 2 * g.monitorRoom + (rest.map fun v => v.category).sum ≤ W9) (hdg : decode c.code g.pc = .ok (.invokevirtual index, 3))
    (hpre : ∀ vm₁, s.WarmedH vm₁ → Pre ⟨T.setVm vm₁, locs, cells, slots⟩ (Value.ref b :: argsL).toArray) :
    (∃ (v : Option Value) (vm₁ : Vm) (B : Pt), s.WarmedH vm₁ ∧ Stand p l e R s m args below meth c B.U B.locs B.cells B.slots ∧ Post ⟨T.setVm vm₁, locs, cells, slots⟩ (Value.ref b :: argsL).toArray v B ∧
      ∀ target, Steps p.tables e below (B.U.setTop { g with pc := g.pc + 3, stack := v.toList ++ rest }) target → Steps p.tables e below (T.setTop g) target) ∨
    (∃ (q : Addr) (vm₁ : Vm) (B : Pt), s.WarmedH vm₁ ∧ Stand p l e R s m args below meth c B.U B.locs B.cells B.slots ∧ PostX ⟨T.setVm vm₁, locs, cells, slots⟩ (Value.ref b :: argsL).toArray q B ∧
      Steps p.tables e below (T.setTop g) ((B.U.setTop { g with stack := rest }).pushFrame (.throwing q))) := by
  obtain ⟨mk, methM, hnamed, hmethM, hstM, habM⟩ := Cond.instanceMethod_spec hinst
  obtain ⟨m8, methM', cM, hn8, hmethM', -, -, -, -, -, -, hsigM⟩ := Cond.codeWith_spec hcode
  cases Option.some.inj (hn8.symm.trans hnamed)
  cases hmethM.symm.trans hmethM'
  obtain ⟨c2, r2, m2, q1, q2, q3, q4, kP, hkP, hkPi⟩ := Cond.selects_spec hsel
  cases hcls.symm.trans q1
  cases (State.methodFound?_of_named hnamed hy).symm.trans q2
  cases hnamed.symm.trans q3
  have hselP : selectMethod e.platform s.vm cellB.cls mk = .method mk := by rw [Launch.admits_selectMethod X.admits]; exact q4
  obtain ⟨vm₁, X₁, hstep₁⟩ := X.invokevirtual hexec hown hlink hnamed hmethM hstM hkP hkPi hy (a := b) (cell := cellB) hcell
    (fun z h => by rw [h] at hobj; cases hobj) hselP hmethM habM hkP hkPi (g := g) hg (argsL := argsL) (rest := rest) (hlen _ hsigM) hstack hdg
  rcases hK m meth c ⟨T.setVm vm₁, locs, cells, slots⟩ { g with stack := rest } (.invokevirtual index) mk (Value.ref b :: argsL).toArray X₁ hg hsize hdg hW (X₁.named hnamed) (hpre vm₁ X₁.warmed) with ⟨v, B, X', hpost, hsteps⟩ | ⟨q, B, X', hpost, hsteps⟩
  · exact Or.inl ⟨v, vm₁, B, X₁.warmed, X', hpost, fun target h => hstep₁ _ fun acts => by rw [doInvoke_state]; exact hsteps.trans h⟩
  · exact Or.inr ⟨q, vm₁, B, X₁.warmed, X', hpost, hstep₁ _ fun acts => by rw [doInvoke_state]; exact hsteps⟩
theorem vx_callSX (X : Stand p l e R s m args below meth c T locs cells slots) (hexec : p.tables.exec = Jvm.exec) {own : String} {index : Nat} {y : MethodName} {bytes : ByteArray} {maxL : Nat} {ret : Option FieldType} {hh : List (Nat × Nat × Nat × Nat)}
    (hown : s.vm.findClass own = some m.cls) (hlink : (Cond.methodLink own index y).before args s = true) (hstat : (Cond.static y).before args s = true) (hinit : (Cond.initialized y.cls).before args s = true)
    (hcode : (Cond.codeWith y bytes maxL ret hh).before args s = true) (hy : y.cls ≠ "java/lang/invoke/MethodHandle" ∧ y.cls ≠ "java/lang/invoke/VarHandle")
    {W9 : Nat} {Pre : Pt → Array Value → Prop} {Post : Pt → Array Value → Option Value → Pt → Prop} {PostX : Pt → Array Value → Addr → Pt → Prop} (hK : vx_Back l R p e below s args y 3 W9 Pre Post PostX)
    {g : JFrame} (hg : g.method = m) (hsize : g.locals.size = c.maxLocals) {argsL rest : List Value} (hlen : ∀ sig, parseMethodDescriptor y.desc = some sig → argsL.length = sig.parameters.length)
    (hstack : g.stack = argsL.reverse ++ rest) (hW : 2 * g.monitorRoom + (rest.map fun v => v.category).sum ≤ W9) (hdg : decode c.code g.pc = .ok (.invokestatic index, 3))
    (hpre : ∀ vm₁, s.WarmedH vm₁ → Pre ⟨T.setVm vm₁, locs, cells, slots⟩ argsL.toArray) :
    (∃ (v : Option Value) (vm₁ : Vm) (B : Pt), s.WarmedH vm₁ ∧ Stand p l e R s m args below meth c B.U B.locs B.cells B.slots ∧ Post ⟨T.setVm vm₁, locs, cells, slots⟩ argsL.toArray v B ∧
      ∀ target, Steps p.tables e below (B.U.setTop { g with pc := g.pc + 3, stack := v.toList ++ rest }) target → Steps p.tables e below (T.setTop g) target) ∨
    (∃ (q : Addr) (vm₁ : Vm) (B : Pt), s.WarmedH vm₁ ∧ Stand p l e R s m args below meth c B.U B.locs B.cells B.slots ∧ PostX ⟨T.setVm vm₁, locs, cells, slots⟩ argsL.toArray q B ∧
      Steps p.tables e below (T.setTop g) ((B.U.setTop { g with stack := rest }).pushFrame (.throwing q))) := by
  obtain ⟨mk, methM, cM, hnamed, hmethM, -, -, -, -, -, -, hsigM⟩ := Cond.codeWith_spec hcode
  have hstatic : methM.isStatic = true := Cond.static_spec hnamed hmethM hstat
  obtain ⟨kP, hkP, -⟩ := className_of_methodNamed hnamed
  have hinitP : kP.init = .initialized := Cond.initialized_spec (findClass_of_methodNamed hnamed) hkP hinit
  obtain ⟨vm₁, X₁, hstep₁⟩ := X.invokestatic hexec hown hlink hnamed hmethM hstatic hkP hinitP hy (g := g) hg (argsL := argsL) (rest := rest) (hlen _ hsigM) hstack hdg
  rcases hK m meth c ⟨T.setVm vm₁, locs, cells, slots⟩ { g with stack := rest } (.invokestatic index) mk argsL.toArray X₁ hg hsize hdg hW (X₁.named hnamed) (hpre vm₁ X₁.warmed) with ⟨v, B, X', hpost, hsteps⟩ | ⟨q, B, X', hpost, hsteps⟩
  · exact Or.inl ⟨v, vm₁, B, X₁.warmed, X', hpost, fun target h => hstep₁ _ fun acts => by rw [doInvoke_state]; exact hsteps.trans h⟩
  · exact Or.inr ⟨q, vm₁, B, X₁.warmed, X', hpost, hstep₁ _ fun acts => by rw [doInvoke_state]; exact hsteps⟩
theorem vx_callVW (X : Stand p l e R s m args below meth c T locs cells slots) (hexec : p.tables.exec = Jvm.exec) {own C : String} {index : Nat} {y : MethodName} {bytes : ByteArray} {maxL : Nat} {ret : Option FieldType} {hh : List (Nat × Nat × Nat × Nat)}
    (hown : s.vm.findClass own = some m.cls) (hlink : (Cond.methodLink own index y).before args s = true) (hinst : (Cond.instanceMethod y).before args s = true) (hsel : (Cond.selects C y y).before args s = true)
    (hcode : (Cond.codeWith y bytes maxL ret hh).before args s = true) (hy : y.cls ≠ "java/lang/invoke/MethodHandle" ∧ y.cls ≠ "java/lang/invoke/VarHandle")
    {W9 : Nat} {Pre : Pt → Array Value → Prop} {Post : Pt → Array Value → Option Value → Pt → Prop} (hK : Back l R p e below s args y 3 W9 Pre Post)
    {b : Addr} {cellB : Cell} (hcell : T.heap[b]? = some cellB) (hobj : cellB.vm.isStatics = false) (hcls : s.vm.findClass C = some cellB.cls)
    {g : JFrame} (hg : g.method = m) (hsize : g.locals.size = c.maxLocals) {argsL rest : List Value} (hlen : ∀ sig, parseMethodDescriptor y.desc = some sig → argsL.length = sig.parameters.length)
    (hstack : g.stack = argsL.reverse ++ .ref b :: rest) (hW : 2 * g.monitorRoom + (rest.map fun v => v.category).sum ≤ W9) (hdg : decode c.code g.pc = .ok (.invokevirtual index, 3))
    (hpre : ∀ vm₁, s.WarmedH vm₁ → Pre ⟨T.setVm vm₁, locs, cells, slots⟩ (Value.ref b :: argsL).toArray) :
    ∃ (v : Option Value) (vm₁ : Vm) (B : Pt), s.WarmedH vm₁ ∧ Stand p l e R s m args below meth c B.U B.locs B.cells B.slots ∧ Post ⟨T.setVm vm₁, locs, cells, slots⟩ (Value.ref b :: argsL).toArray v B ∧
      ∀ target, Steps p.tables e below (B.U.setTop { g with pc := g.pc + 3, stack := v.toList ++ rest }) target → Steps p.tables e below (T.setTop g) target := by
  obtain ⟨mk, methM, hnamed, hmethM, hstM, habM⟩ := Cond.instanceMethod_spec hinst
  obtain ⟨m8, methM', cM, hn8, hmethM', -, -, -, -, -, -, hsigM⟩ := Cond.codeWith_spec hcode
  cases Option.some.inj (hn8.symm.trans hnamed)
  cases hmethM.symm.trans hmethM'
  obtain ⟨c2, r2, m2, q1, q2, q3, q4, kP, hkP, hkPi⟩ := Cond.selects_spec hsel
  cases hcls.symm.trans q1
  cases (State.methodFound?_of_named hnamed hy).symm.trans q2
  cases hnamed.symm.trans q3
  have hselP : selectMethod e.platform s.vm cellB.cls mk = .method mk := by rw [Launch.admits_selectMethod X.admits]; exact q4
  obtain ⟨vm₁, X₁, hstep₁⟩ := X.invokevirtual hexec hown hlink hnamed hmethM hstM hkP hkPi hy (a := b) (cell := cellB) hcell
    (fun z h => by rw [h] at hobj; cases hobj) hselP hmethM habM hkP hkPi (g := g) hg (argsL := argsL) (rest := rest) (hlen _ hsigM) hstack hdg
  obtain ⟨v, B, X', hpost, hsteps⟩ := hK m meth c ⟨T.setVm vm₁, locs, cells, slots⟩ { g with stack := rest } (.invokevirtual index) mk (Value.ref b :: argsL).toArray X₁ hg hsize hdg hW (X₁.named hnamed) (hpre vm₁ X₁.warmed)
  exact ⟨v, vm₁, B, X₁.warmed, X', hpost, fun target h => hstep₁ _ fun acts => by rw [doInvoke_state]; exact hsteps.trans h⟩
abbrev vx_CVW (R : Room) (s : State) (args : Array Value) (own C : String) (index : Nat) (y : MethodName) (bytes : ByteArray) (maxL : Nat) (ret : Option FieldType) (hh : List (Nat × Nat × Nat × Nat)) (ws : List Cond) (rm : Room) (mc ms n : Nat) : Prop :=
  (rm.cells = mc ∧ rm.slots = ms ∧ rm.frames + 1 ≤ R.frames ∧ 8 + (maxL + 11) + rm.locals ≤ R.locals ∧ (∀ w ∈ ws, ∀ (a' : Array Value) (U : State), s.WarmedH U.vm → w.before a' U = true) ∧ Cond.codeWith y bytes maxL ret hh ∈ ws) ∧
  (Cond.codeWith y bytes maxL ret hh).before args s = true ∧ (Cond.initialized y.cls).before args s = true ∧ (y.cls ≠ "java/lang/invoke/MethodHandle" ∧ y.cls ≠ "java/lang/invoke/VarHandle") ∧
  (∀ sig, parseMethodDescriptor y.desc = some sig → n = sig.parameters.length) ∧ (Cond.methodLink own index y).before args s = true ∧ (Cond.instanceMethod y).before args s = true ∧ (Cond.selects C y y).before args s = true
theorem vx_cwVW {own C : String} {index maxL mc ms : Nat} {y : MethodName} {bytes : ByteArray} {ret : Option FieldType} {hh : List (Nat × Nat × Nat × Nat)} {Ts ws ws' : List Cond} {rm : Room} (n : Nat) (ht : ∀ w ∈ Ts, w.before args s = true) (hT : GoodIn Ts (wsV own index C y ws)) (hw : ws = Cond.codeWith y bytes maxL ret hh :: ws') (hrc : rm.cells = mc) (hrs : rm.slots = ms)
    (hd : y.cls = C ∧ y.cls ≠ "java/lang/invoke/MethodHandle" ∧ y.cls ≠ "java/lang/invoke/VarHandle" ∧ (parseMethodDescriptor y.desc).map (fun d => d.parameters.length) = some n) (hR : rm.frames + 1 ≤ R.frames ∧ 8 + (maxL + 11) + rm.locals ≤ R.locals) :
    vx_CVW R s args own C index y bytes maxL ret hh ws rm mc ms n := by
  obtain ⟨hC, hd⟩ := hd
  subst hC
  have ok : ∀ w ∈ wsV own index y.cls y ws, w.before args s = true := fun w h => ht w (hT w h).1
  have hG : GoodIn Ts ws := fun w h => hT w (by unfold wsV; exact List.mem_append_right _ h)
  have hc : Cond.codeWith y bytes maxL ret hh ∈ ws := by rw [hw]; exact List.mem_cons_self
  refine ⟨⟨hrc, hrs, hR.1, hR.2, pay_in ht hG, hc⟩, ht _ (hG _ hc).1, ok _ (by simp [wsV]), ⟨hd.1, hd.2.1⟩, fun sig h => ?_, ok _ (by simp [wsV]), ok _ (by simp [wsV]), ok _ (by simp [wsV])⟩
  have h2 := hd.2.2
  rw [h] at h2
  exact (Option.some.inj h2).symm
theorem vx_runVW {y : MethodName} {bytes cc : ByteArray} {maxL nL mc ms n index : Nat} {ret : Option FieldType} {hh : List (Nat × Nat × Nat × Nat)} {ws : List Cond} {rm : Room} {Pc : Array Value → State → Prop} {Qc : Array Value → State → Outcome → State → Prop} {free : Addr → Prop} {Ts : List Cond} {own C : String} {b : Addr} {As rest : List Value} {g : JFrame}
    (S : CallFix p m c cc nL s args Ts own) (hM : Met l y ws rm Pc Qc mc ms free) (cw : vx_CVW R s args own C index y bytes maxL ret hh ws rm mc ms n) (hp : PreV s H C b Pc As)
    (hg : g.method = m) (hn : As.length = n) (hsize : g.locals.size = nL) (hstack : g.stack = As.reverse ++ .ref b :: rest) (hW : 2 * g.monitorRoom + (rest.map fun v => v.category).sum ≤ 8) (hdg : decode cc g.pc = .ok (.invokevirtual index, 3)) (hf : cells + mc ≤ R.cells ∧ slots + ms ≤ R.slots) :
    va_Run p l e R s m args below meth c H locs cells slots mc ms g rest (Qc (Value.ref b :: As).toArray) free := by
  obtain ⟨⟨hrc, hrs, hfr, hlo, hws, hcw⟩, hcode, hini, hy, hlen, hl, hin, hse⟩ := cw
  have hK : Back l R p e below s args y 3 8 (PreOf R mc ms Pc) (PostOf Qc mc ms free) := va_backW (hh := hh) (bytes := bytes) (maxL := maxL) (ret := ret) hM hp.1 hrc hrs hfr hlo hws hcw (fun a' U hW => word_at hW (Or.inl (by first | rfl | simp [Cond.onTables, Cond.keeps, Cond.steady])) hini)
  obtain ⟨hx, hb, hml, ho, -⟩ := S
  obtain ⟨-, ⟨cellB, hcB, hoB, hclB⟩, hPc⟩ := hp
  intro T hT X
  obtain ⟨v, vm₁, ⟨U', l2, c2, s2⟩, hW₁, X', ⟨g', mk, t, L, e1, e2, hq, h1, hL, h2, h3⟩, st⟩ := vx_callVW X hx (C := C) (hh := hh) (bytes := bytes) (maxL := maxL) (ret := ret) ho hl hin hse hcode hy hK (by rw [hT]; exact hcB) hoB hclB hg (hsize.trans hml.symm) (argsL := As) (rest := rest) (fun sig h => hn.trans (hlen sig h)) hstack hW (by rw [hb]; exact hdg)
    (fun vm₁ hW₁ => ⟨hf.1, hf.2, hPc (T.setVm vm₁) hT hW₁⟩)
  dsimp only [Pt.U, Pt.locs, Pt.cells, Pt.slots] at X' e1 e2 h1 h2 h3 st
  subst h1; subst h2; subst h3
  exact ⟨v, (T.setVm vm₁).calling g' mk (Value.ref b :: As).toArray, t, U', L, hT, X', hL, e1, e2, hq, st⟩
section
variable {y : MethodName} {bytes cc : ByteArray} {maxL nL mc ms n index : Nat} {ret : Option FieldType} {ws : List Cond} {rm : Room} {Pc : Array Value → State → Prop} {Qc : Array Value → State → Outcome → State → Prop} {XC : String → State → State → Prop} {free : Addr → Prop} {Ts : List Cond} {own C : String} {b : Addr} {As rest : List Value} {g : JFrame}
theorem vx_runVX {hh : List (Nat × Nat × Nat × Nat)} (S : CallFix p m c cc nL s args Ts own) (hM : vx_Met l y ws rm Pc Qc XC mc ms free) (cw : vx_CVW R s args own C index y bytes maxL ret hh ws rm mc ms n) (hp : PreV s H C b Pc As)
    (hg : g.method = m) (hn : As.length = n) (hsize : g.locals.size = nL) (hstack : g.stack = As.reverse ++ .ref b :: rest) (hW : 2 * g.monitorRoom + (rest.map fun v => v.category).sum ≤ 8) (hdg : decode cc g.pc = .ok (.invokevirtual index, 3)) (hf : cells + mc ≤ R.cells ∧ slots + ms ≤ R.slots) :
    vx_Run p l e R s m args below meth c H locs cells slots mc ms g rest (Qc (Value.ref b :: As).toArray) XC free := by
  obtain ⟨⟨hrc, hrs, hfr, hlo, hws, hcw⟩, hcode, hini, hy, hlen, hl, hin, hse⟩ := cw
  have hK : vx_Back l R p e below s args y 3 8 (PreOf R mc ms Pc) (PostOf Qc mc ms free) (vx_Post XC mc ms free) := vx_backW (hh := hh) (bytes := bytes) (maxL := maxL) (ret := ret) hM hp.1 hrc hrs hfr hlo hws hcw (fun a' U hW => word_at hW (Or.inl (by first | rfl | simp [Cond.onTables, Cond.keeps, Cond.steady])) hini)
  obtain ⟨hx, hb, hml, ho, -⟩ := S
  obtain ⟨-, ⟨cellB, hcB, hoB, hclB⟩, hPc⟩ := hp
  intro T hT X
  rcases vx_callVX X hx (C := C) (hh := hh) (bytes := bytes) (maxL := maxL) (ret := ret) ho hl hin hse hcode hy hK (by rw [hT]; exact hcB) hoB hclB hg (hsize.trans hml.symm) (argsL := As) (rest := rest) (fun sig h => hn.trans (hlen sig h)) hstack hW (by rw [hb]; exact hdg)
    (fun vm₁ hW₁ => ⟨hf.1, hf.2, hPc (T.setVm vm₁) hT hW₁⟩) with ⟨v, vm₁, ⟨U', l2, c2, s2⟩, hW₁, X', ⟨g', mk, t, L, e1, e2, hq, h1, hL, h2, h3⟩, st⟩ | ⟨q, vm₁, ⟨U', l2, c2, s2⟩, hW₁, X', ⟨g', mk, t, L, E, ce, e1, e2, hq, hce, hcv, hcl, h1, hL, h2, h3⟩, st⟩
  · dsimp only [Pt.U, Pt.locs, Pt.cells, Pt.slots] at X' e1 e2 h1 h2 h3 st
    subst h1; subst h2; subst h3
    exact Or.inl ⟨v, (T.setVm vm₁).calling g' mk (Value.ref b :: As).toArray, t, U', L, hT, X', hL, e1, e2, hq, st⟩
  · dsimp only [Pt.U, Pt.locs, Pt.cells, Pt.slots] at X' e1 e2 h1 h2 h3 st hcl
    subst h1; subst h2; subst h3
    exact Or.inr ⟨q, (T.setVm vm₁).calling g' mk (Value.ref b :: As).toArray, t, U', L, E, ce, hT, X', hL, e1, e2, hq, hce, hcv, vx_cls hW₁ hcl, st⟩
theorem vx_runSX {hh : List (Nat × Nat × Nat × Nat)} (S : CallFix p m c cc nL s args Ts own) (hM : vx_Met l y ws rm Pc Qc XC mc ms free) (cw : vx_CSW R s args own index y bytes maxL ret hh ws rm mc ms n) (hp : PreS s H Pc As)
    (hg : g.method = m) (hn : As.length = n) (hsize : g.locals.size = nL) (hstack : g.stack = As.reverse ++ rest) (hW : 2 * g.monitorRoom + (rest.map fun v => v.category).sum ≤ 8) (hdg : decode cc g.pc = .ok (.invokestatic index, 3)) (hf : cells + mc ≤ R.cells ∧ slots + ms ≤ R.slots) :
    vx_Run p l e R s m args below meth c H locs cells slots mc ms g rest (Qc As.toArray) XC free := by
  obtain ⟨⟨hrc, hrs, hfr, hlo, hws, hcw⟩, hcode, hini, hy, hlen, hl, hstt⟩ := cw
  have hK : vx_Back l R p e below s args y 3 8 (PreOf R mc ms Pc) (PostOf Qc mc ms free) (vx_Post XC mc ms free) := vx_backW (hh := hh) (bytes := bytes) (maxL := maxL) (ret := ret) hM hp.1 hrc hrs hfr hlo hws hcw (fun a' U hW => word_at hW (Or.inl (by first | rfl | simp [Cond.onTables, Cond.keeps, Cond.steady])) hini)
  obtain ⟨hx, hb, hml, ho, -⟩ := S
  intro T hT X
  rcases vx_callSX X hx (hh := hh) (bytes := bytes) (maxL := maxL) (ret := ret) ho hl hstt hini hcode hy hK hg (hsize.trans hml.symm) (argsL := As) (rest := rest) (fun sig h => hn.trans (hlen sig h)) hstack hW (by rw [hb]; exact hdg)
    (fun vm₁ hW₁ => ⟨hf.1, hf.2, hp.2 (T.setVm vm₁) hT hW₁⟩) with ⟨v, vm₁, ⟨U', l2, c2, s2⟩, hW₁, X', ⟨g', mk, t, L, e1, e2, hq, h1, hL, h2, h3⟩, st⟩ | ⟨q, vm₁, ⟨U', l2, c2, s2⟩, hW₁, X', ⟨g', mk, t, L, E, ce, e1, e2, hq, hce, hcv, hcl, h1, hL, h2, h3⟩, st⟩
  · dsimp only [Pt.U, Pt.locs, Pt.cells, Pt.slots] at X' e1 e2 h1 h2 h3 st
    subst h1; subst h2; subst h3
    exact Or.inl ⟨v, (T.setVm vm₁).calling g' mk As.toArray, t, U', L, hT, X', hL, e1, e2, hq, st⟩
  · dsimp only [Pt.U, Pt.locs, Pt.cells, Pt.slots] at X' e1 e2 h1 h2 h3 st hcl
    subst h1; subst h2; subst h3
    exact Or.inr ⟨q, (T.setVm vm₁).calling g' mk As.toArray, t, U', L, E, ce, hT, X', hL, e1, e2, hq, hce, hcv, vx_cls hW₁ hcl, st⟩
end
end VXH
theorem vx_ofWH {l : Launch} {y : MethodName} {ws ws' : List Cond} {rm : Room} {Pc : Array Value → State → Prop} {Qc : Array Value → State → Outcome → State → Prop} {XC : String → State → State → Prop} {mc ms : Nat} {free : Addr → Prop} {cc : ByteArray} {maxL : Nat} {ret : Option FieldType} {hh : List (Nat × Nat × Nat × Nat)}
    (hy : plainName y.cls = true) (hw : ws = Cond.codeWith y cc maxL ret hh :: ws')
    (body : ∀ p e s m args below meth c s₁, BodyLoose p l y (headSpec ws rm) cc maxL ret e s m args below meth c s₁ → c.maxLocals = maxL → Pc args s →
      W p l e (headSpec ws rm).room s m args below meth c s.heap [] 0 0 (vx_MQ below Qc XC args s mc ms free) (entryFrame m args maxL)) : vx_Met l y ws rm Pc Qc XC mc ms free := by
  refine MetFree.of_bodyS (code := cc) (maxLocals := maxL) (ret := ret) hy ?_ ?_
  · intro args s m h hn
    obtain ⟨m9, meth, c, hn9, h1, h2, h3, h4, -, h5, h6, -⟩ := Cond.codeWith_spec (atoms_spec (ws := ws) h _ (by rw [hw]; exact List.mem_cons_self))
    cases hn.symm.trans hn9
    exact ⟨meth, c, h1, h2, h3, h4, h5, h6⟩
  · intro p e s m args below meth c s₁ B hml hP _
    have hh0 : s₁.heap = s.heap := by rw [B.state]; rfl
    obtain ⟨t, a1, o, b1, b2, b3⟩ := body p e s m args below meth c s₁ B hml hP s₁ hh0 (Stand.of_body B)
    exact ⟨t, o, a1, b1, b2, b3⟩
/-! ===== END ===== -/

/-! ===== BEGIN what the machine throws by itself, no traces kept ===== -/
section VXM
set_option maxHeartbeats 1000000 in
/-- the machine throws cls with the message text, no traces kept: from its note over the frame g to 'throwing' over the same frame (follows the proofs of Stand.vmThrowsMessage, Shelf/KitTracedVmS.lean, and Stand.throwsMessageColdBareV, StandMessageColdV.lean, without the step out of the frame) -/
theorem vx_vmAt {p : Program} {l : Launch} {e : Env} {R : Room} {s : State} {m₀ : MethodId} {args : Array Value} {below : List Frame} {meth : Method} {c : Code} {W : State} {locs : List Loc} {cells slots : Nat}
    (X : Stand p l e R s m₀ args below meth c W locs cells slots) (hexec : p.tables.exec = Jvm.exec) (htr : e.platform.stackTraces = false) {cls : String} {names : List String} {text : String}
    (hcls : Bundle.fit cls = true) (hnames : ∀ n ∈ names, Bundle.fit n = true) (hsoe : (cls == "java/lang/StackOverflowError") = false) (hoom : (cls == "java/lang/OutOfMemoryError") = false)
    (h : ∀ a ∈ Bundle.messageArmAtoms cls names, a.before args s = true)
    (hlocs : ∀ x ∈ locs, ∀ cell, s.heap[x.base]? = some cell → cell.vm.isStatics = false)
    (htext : (text == notModelled) = false) (hlimit : ¬ (stringBytes (stringToUtf16 text)).size > e.platform.arrayLengthLimit) (hheap : ¬ (stringBytes (stringToUtf16 text)).size * componentBytes .byte > e.platform.maxHeapBytes)
    {g : JFrame} (hg : g.method = m₀) (hsize : g.locals.size = c.maxLocals)
    (hRframes : names.length + 4 < R.frames) (hRlocals : 2 * g.monitorRoom + (g.stack.map fun v => v.category).sum + 10240 ≤ R.locals) (hshort : 13 * names.length + 55 ≤ 10240)
    (hRcells : cells + 3 ≤ R.cells) (hRslots : slots + ((stringBytes (stringToUtf16 text)).size + 4 + 6) ≤ R.slots) (hlocks : meth.locks = false) :
    ∃ (S : State) (q : Addr) (ce : Cell), (∀ target, Steps p.tables e below ((S.setTop g).pushFrame (.throwing q)) target → Steps p.tables e below ((W.setTop g).pushFrame (.throwNew cls (some text) none)) target) ∧
      Stand p l e R s m₀ args below meth c S locs (cells + 3) (slots + ((stringBytes (stringToUtf16 text)).size + 4 + 6)) ∧ S.heap[q]? = some ce ∧ s.vm.findClass cls = some ce.cls ∧ ce.vm = .none := by
  have howns : e.platform.frameOwnsMonitors = true := by rw [X.admits.platform]
  have hfin : e.platform.finalization = false := by rw [X.admits.platform]
  have hpl : e.platform.magicAccessors = ({} : Platform).magicAccessors := by rw [X.admits.platform]
  have a : ∀ x, x ∈ Bundle.messageArmAtoms cls names → x.holds args s none s [] = true := fun x hx => h x hx
  obtain ⟨T, Z0, L, -, Y⟩ := ThrowableC.of_atoms (args := args) howns hfin hpl (fun x hx => h x (by simp [Bundle.messageArmAtoms, hx]))
  obtain ⟨Z, M, LZ, LM, hnZ⟩ := Init0T.ofS_atoms (args := args) hpl L Y (fun x hx => h x (by simp [Bundle.messageArmAtoms, hx]))
  obtain ⟨P1, Ps, hlen, L1, hL, hP1m, hlink1, hlink⟩ := Bundle.chainS (args := args) hpl hnZ names cls hcls hnames (fun x hx => h x (by simp [Bundle.messageArmAtoms, hx]))
  obtain ⟨Zs, LZs, hn4, hfitv, hfitc⟩ := StringT.of_atoms (args := args) (fun x hx => h x (by simp [Bundle.messageArmAtoms, hx]))
  have hfound : s.vm.findClass cls = some P1.m.cls := findClass_of_methodNamed hP1m
  obtain ⟨c1, kX, hc1, hk, hord, -, -, hn6⟩ := Cond.instantiable_spec (a (.instantiable cls 6) (by simp [Bundle.messageArmAtoms]))
  cases Option.some.inj (hc1.symm.trans hfound)
  have hinit := Cond.initialized_spec hfound hk (a (.initialized cls) (by simp [Bundle.messageArmAtoms]))
  have hctor : kX.findMethod "<init>" "(Ljava/lang/String;)V" = some P1.m.idx := findMethod_of_methodNamed hP1m hk
  have hsel0 : selectMethod e.platform s.vm P1.m.cls T.fill0 = .method T.fill0 := by
    obtain ⟨c2, r2, m2, q1, q2, q3, q4, -⟩ := Cond.selects_spec (a (.selects cls Bundle.tFill0 Bundle.tFill0) (by simp [Bundle.messageArmAtoms]))
    cases Option.some.inj (q1.symm.trans hfound)
    cases Option.some.inj (q2.symm.trans (State.methodFound?_of_named Y.fill0 (by decide)))
    cases Option.some.inj (q3.symm.trans Y.fill0)
    rw [Launch.admits_selectMethod X.admits]; exact q4
  have hselF : selectMethod e.platform s.vm P1.m.cls T.fill = .method T.fill := by
    obtain ⟨c2, r2, m2, q1, q2, q3, q4, -⟩ := Cond.selects_spec (a (.selects cls Bundle.tFill Bundle.tFill) (by simp [Bundle.messageArmAtoms]))
    cases Option.some.inj (q1.symm.trans hfound)
    cases Option.some.inj (q2.symm.trans (State.methodFound?_of_named Y.fill (by decide)))
    cases Option.some.inj (q3.symm.trans Y.fill)
    rw [Launch.admits_selectMethod X.admits]; exact q4
  obtain ⟨cellS0, hcS0, hiss⟩ := Y.statics
  obtain ⟨u0, hu0⟩ := Cond.staticRefV Y.unassigned L.unassignedStatic L.statics hcS0 hiss (a (.isRef (.static Bundle.tN "UNASSIGNED_STACK" Bundle.steD)) (by simp [Bundle.messageArmAtoms]))
  obtain ⟨sen, hsen⟩ := Cond.staticRefV Y.sentinel L.sentinelStatic L.statics hcS0 hiss (a (.isRef (.static Bundle.tN "SUPPRESSED_SENTINEL" Bundle.listD)) (by simp [Bundle.messageArmAtoms]))
  obtain ⟨ci198, i198, fB, hk198, hg198, ha198, hsB, -, hnB, htB, hffB⟩ := Cond.ownField (t := .object "java/lang/Object") Y.found L.cls (by decide +kernel) (a (.fieldLink Bundle.tN 198 Bundle.tN "backtrace" "Ljava/lang/Object;") (by simp [Bundle.messageArmAtoms])) (a (.lays Bundle.tN Bundle.tN "backtrace" "Ljava/lang/Object;") (by simp [Bundle.messageArmAtoms])) e.platform hpl
  obtain ⟨cellS, hcS', heS, -, hkeep⟩ := X.same.2.2.2.2.2 T.aS cellS0 hcS0
  have hcellS : W.heap[T.aS]? = some cellS := hcS'
  have hout' : ∀ i, (⟨T.aS, i⟩ : Loc) ∉ locs := fun i hmem => by
    have := hlocs _ hmem cellS0 hcS0
    rw [hiss] at this; cases this
  have hknownS : cellS.vm ≠ .unknown := by
    rw [heS]; intro hu
    rw [show cellS0.vm = .unknown from hu] at hiss
    cases hiss
  have hvU : cellS.slots[T.fUnassigned.slot]? = some u0.v := by rw [hkeep _ (hout' _)]; exact hu0
  have hvSen : cellS.slots[T.fSentinel.slot]? = some sen.v := by rw [hkeep _ (hout' _)]; exact hsen
  obtain ⟨iM, hffM⟩ := Y.msg
  obtain ⟨tyC, dC, hdC, hdnC⟩ := Cond.laysAt hfound hk Y.cause (a (.lays cls Bundle.tN "cause" "Ljava/lang/Throwable;") (by simp [Bundle.messageArmAtoms]))
  obtain ⟨tyS, dS, hdS, hdnS⟩ := Cond.laysAt hfound hk Y.stack (a (.lays cls Bundle.tN "stackTrace" Bundle.steD) (by simp [Bundle.messageArmAtoms]))
  obtain ⟨tyP, dP, hdP, hdnP⟩ := Cond.laysAt hfound hk Y.supp (a (.lays cls Bundle.tN "suppressedExceptions" Bundle.listD) (by simp [Bundle.messageArmAtoms]))
  obtain ⟨tyM, dM, hdM, hdnM⟩ := Cond.laysAt hfound hk hffM (a (.lays cls Bundle.tN "detailMessage" "Ljava/lang/String;") (by simp [Bundle.messageArmAtoms]))
  obtain ⟨tyB, dB, hdB, hdnB⟩ := Cond.laysAt hfound hk hffB (a (.lays cls Bundle.tN "backtrace" "Ljava/lang/Object;") (by simp [Bundle.messageArmAtoms]))
  have bC := Cond.laysApart hdB hdC hdnB hdnC (by rw [hnB, Y.causeName]; decide)
  have bS := Cond.laysApart hdB hdS hdnB hdnS (by rw [hnB, Y.stackName]; decide)
  have bP := Cond.laysApart hdB hdP hdnB hdnP (by rw [hnB, Y.suppName]; decide)
  have hbk : ((preparedCellV T.toThrowableT (freshCell P1.m.cls kX) (W.heap.size + 2) u0 sen).withEntry W.cur).slots[fB.slot]? = some .null := by
    have := fresh_default (c := P1.m.cls) tyB
    rw [htB] at this
    simpa [preparedCellV, Cell.setSlot, Cell.withEntry, Array.getElem?_setIfInBounds, bC, bS, bP, bC.symm, bS.symm, bP.symm, defaultValue] using this
  have tkC := Takes.of_laid (v := .ref (W.heap.size + 2)) hk hord tyC (by rw [Y.causeType]; rfl)
  have tkS := Takes.of_laid (v := u0.v) hk hord tyS (by rw [Y.stackType]; exact fits_refV_array _ u0)
  have tkP := Takes.of_laid (v := sen.v) hk hord tyP (by rw [Y.suppType]; exact fits_refV_object _ sen)
  have tkM := Takes.of_laid (v := .ref (W.heap.size + 1)) hk hord tyM (by rw [Y.msgType]; rfl)
  have hskip : SkipFacts T e.platform s (fun u => u) u0 ((preparedCellV T.toThrowableT (freshCell P1.m.cls kX) (W.heap.size + 2) u0 sen).withEntry W.cur) := ⟨{ ci198 := ci198, i198 := i198, fBack := fB }, ⟨hk198, hg198, ha198, hsB⟩, hbk, fun _ _ => rfl⟩
  have h0 : At W g.method c below := by rw [hg]; exact X.here
  obtain ⟨hbeyond, hfreeW⟩ := X.vmMayThrow hsize (.throwNew cls (some text) none) (fun f hf => by cases hf) rfl hRlocals
  have hfr' : W.frames.length + Ps.length + 4 < (e.platform.stackLimits W.me).1 := by have := X.framesAbove hRframes; omega
  have hwd' : (stackUse (.java g :: W.frames.tail)).2 + 13 * Ps.length + 55 ≤ (e.platform.stackLimits W.me).2 := by have := X.stackAbove hsize (K := 13 * Ps.length + 55) (by omega); omega
  have hslots : W.slotsUsed + (stringBytes (stringToUtf16 text)).size + Zs.kS.instanceTypes.size + kX.instanceTypes.size ≤ e.platform.maxSlots := by
    have := X.slotsAbove hRslots
    rw [hn4, hn6]
    omega
  obtain ⟨vm', hW', st⟩ := Steps.vmThrowsMessageColdByV p (s₀ := s) (S := W) (g := g) h0 hexec T L Z LZ M LM X.warmed (t := W.cur) rfl Zs LZs P1 L1 Ps hL hlink1 hlink hsoe hoom hfound hk hinit hord hctor
    (Launch.admits_hotImplicitExceptions X.admits) hbeyond hfreeW htext hlimit hheap (X.cellsAbove hRcells) hslots (hfitv _) (hfitc _)
    (Nn := fun u => u) heapOnly_id (fun _ _ => rfl) (fun _ => rfl) (fun u x y => setCell_twice _ _ _ _) (fun _ => Nat.le_refl _) (cN := ((preparedCellV T.toThrowableT (freshCell P1.m.cls kX) (W.heap.size + 2) u0 sen).withEntry W.cur))
    hsel0 hcellS hknownS hvU tkS (fun _ hu => hu) (fun _ hu => hu) rfl rfl rfl (by simp [preparedCellV, Cell.setSlot, Cell.withEntry]) hskip (fun _ _ hA hW _ hroom _ hrest => L.nativeOff p htr hA hW hroom hrest) hselF hvSen tkC tkP tkM Y.objLocals rfl hfr' hwd'
  rw [plainBareV_eq T.toThrowableT (W.heap.size + 2) u0 sen (.ref (W.heap.size + 1)) W.cur rfl rfl] at st
  obtain ⟨-, -, w3, w4, -, -, -⟩ := withThrown_facts e.platform W Zs text P1.m.cls kX
  have X3 := ((X.pushed (bytesOf Zs.cB (stringToUtf16 text))).pushed (stringAt Zs.cS Zs.kS Zs.fv Zs.fc (stringToUtf16 text) W.heap.size)).pushed (freshCell P1.m.cls kX)
  rw [← withString_eq] at X3
  have X4 := X3.noted hW'
  have ha : (W.heap.size + 2) < ((withThrown W Zs text P1.m.cls kX).setVm vm').heap.size := by show _ < (withThrown W Zs text P1.m.cls kX).heap.size; rw [w3]; omega
  have hcell : ((withThrown W Zs text P1.m.cls kX).setVm vm').heap[(W.heap.size + 2)]? = some (freshCell P1.m.cls kX) := w4
  have X5 := ((((X4.stored hcell T.fCause.slot (.ref (W.heap.size + 2))).storedAgain ha T.fStack.slot u0.v).storedAgain ha T.fSupp.slot sen.v).storedAgain ha T.fStack.slot u0.v).storedAgain ha T.fMsg.slot (.ref (W.heap.size + 1))
  obtain ⟨g₁, hfrM⟩ := X5.frames_eq
  have hU : ((((withThrown W Zs text P1.m.cls kX).setVm vm').setCell (W.heap.size + 2) (plainBareV T.toThrowableT (freshCell P1.m.cls kX) (W.heap.size + 2) u0 sen (.ref (W.heap.size + 1)))).setTop g).pushFrame (.throwing (W.heap.size + 2)) = (((withThrown W Zs text P1.m.cls kX).setVm vm').setCell (W.heap.size + 2) (plainBareV T.toThrowableT (freshCell P1.m.cls kX) (W.heap.size + 2) u0 sen (.ref (W.heap.size + 1)))).setFrames (.throwing (W.heap.size + 2) :: .java g :: below) := by
    rw [State.pushFrame, State.frames_setTop _ hfrM, State.setTop_of_frames _ hfrM, State.setFrames_setFrames]
  have b1 : (bytesOf Zs.cB (stringToUtf16 text)).slots.size = (stringBytes (stringToUtf16 text)).size := by
    rw [(Cell.writeAll_facts _ _).2.2]; simp [bytes0]
  have b2 : (stringAt Zs.cS Zs.kS Zs.fv Zs.fc (stringToUtf16 text) W.heap.size).slots.size = 4 := by simp [string0, Cell.setSlot, hn4]
  have b3 : (freshCell P1.m.cls kX).slots.size = 6 := by simp [hn6]
  rw [b1, b2, b3] at X5
  have e9 : slots + (stringBytes (stringToUtf16 text)).size + 4 + 6 = slots + ((stringBytes (stringToUtf16 text)).size + 4 + 6) := by omega
  rw [e9] at X5
  simp only [List.append_assoc, List.cons_append, List.nil_append] at X5
  refine ⟨((withThrown W Zs text P1.m.cls kX).setVm vm').setCell (W.heap.size + 2) (plainBareV T.toThrowableT (freshCell P1.m.cls kX) (W.heap.size + 2) u0 sen (.ref (W.heap.size + 1))), W.heap.size + 2, _, fun target ht => st _ (by rw [X.tail, ← hU]; exact ht),
    X5.forget (fun y hy => ?_), heapAt_setCell_self _ ha, hfound, rfl⟩
  simp only [List.mem_cons, List.not_mem_nil, or_false] at hy
  have hge : s.heap.size ≤ W.heap.size := X.same.2.1
  rcases hy with rfl | rfl | rfl | rfl | rfl <;> exact Nat.le_trans hge (Nat.le_add_right _ 2)
set_option maxHeartbeats 1000000 in
/-- the machine throws NullPointerException, no traces kept: from its note over the frame g to 'throwing' over the same frame (follows the proof of Stand.vmThrowsNpe, Shelf42/KT2.lean; throwsNpeColdBareVAt, Shelf42/NT91.lean, called) -/
theorem vx_npeAt {p : Program} {l : Launch} {e : Env} {R : Room} {s : State} {m₀ : MethodId} {args : Array Value} {below : List Frame} {meth : Method} {c : Code} {W : State} {locs : List Loc} {cells slots : Nat}
    (X : Stand p l e R s m₀ args below meth c W locs cells slots) (hexec : p.tables.exec = Jvm.exec) (htr : e.platform.stackTraces = false) {n : Nat}
    (h : ∀ a ∈ Bundle.npeArmAtoms n, a.before args s = true)
    (hlocs : ∀ x ∈ locs, ∀ cell, s.heap[x.base]? = some cell → cell.vm.isStatics = false)
    {g : JFrame} (hg : g.method = m₀) (hsize : g.locals.size = c.maxLocals)
    (hRframes : 7 < R.frames) (hRlocals : 2 * g.monitorRoom + (g.stack.map fun v => v.category).sum + 10240 ≤ R.locals)
    (hRcells : cells + 1 ≤ R.cells) (hRslots : slots + n ≤ R.slots) (hlocks : meth.locks = false) :
    ∃ (S : State) (q : Addr) (ce : Cell), (∀ target, Steps p.tables e below ((S.setTop g).pushFrame (.throwing q)) target → Steps p.tables e below ((W.setTop g).pushFrame (.throwNew "java/lang/NullPointerException" none none)) target) ∧
      Stand p l e R s m₀ args below meth c S locs (cells + 1) (slots + n) ∧ S.heap[q]? = some ce ∧ s.vm.findClass "java/lang/NullPointerException" = some ce.cls ∧ ce.vm = .none := by
  have howns : e.platform.frameOwnsMonitors = true := by rw [X.admits.platform]
  have hfin : e.platform.finalization = false := by rw [X.admits.platform]
  have hpl : e.platform.magicAccessors = ({} : Platform).magicAccessors := by rw [X.admits.platform]
  have hpl2 : e.platform.arrayCloneIsPublic = true := by rw [X.admits.platform]
  have a' : ∀ x, x ∈ Bundle.npeArmAtoms n → x.holds args s none s [] = true := fun x hx => h x hx
  obtain ⟨T, Z, L, LZ, Y⟩ := ThrowableC.of_atoms (args := args) howns hfin hpl (fun x hx => h x (by simp [Bundle.npeArmAtoms, hx]))
  obtain ⟨N, LN, hcN, hnNF, hordN, hffS⟩ := NpeC.of_atoms (args := args) hpl hpl2 L Y (fun x hx => h x (by simp [Bundle.npeArmAtoms, hx]))
  obtain ⟨P1, L1, hP1m, hP1s⟩ := PassC.of_atoms (args := args) (s := s) hpl (X := Bundle.nN) (Y := Bundle.rN) (by decide) (by decide) LibCode.NullPointerException.Init0.at_0 LibCode.NullPointerException.Init0.at_1 LibCode.NullPointerException.Init0.at_4 (fun x hx => h x (by simp [Bundle.npeArmAtoms, hx]))
  obtain ⟨PR, LR, hPRm, hPRs⟩ := PassC.of_atoms (args := args) (s := s) hpl (X := Bundle.rN) (Y := Bundle.eN) (by decide) (by decide) LibCode.RuntimeException.Init0.at_0 LibCode.RuntimeException.Init0.at_1 LibCode.RuntimeException.Init0.at_4 (fun x hx => h x (by simp [Bundle.npeArmAtoms, hx]))
  obtain ⟨PE, LEx, hPEm, hPEs⟩ := PassC.of_atoms (args := args) (s := s) hpl (X := Bundle.eN) (Y := Bundle.tN) (by decide) (by decide) LibCode.Exception.Init0.at_0 LibCode.Exception.Init0.at_1 LibCode.Exception.Init0.at_4 (fun x hx => h x (by simp [Bundle.npeArmAtoms, hx]))
  have hfound : s.vm.findClass Bundle.nN = some P1.m.cls := findClass_of_methodNamed hP1m
  have ecls : N.cN = P1.m.cls := Option.some.inj (hcN.symm.trans hfound)
  have hk : s.vm.classes[P1.m.cls]? = some N.kN := by rw [← ecls]; exact LN.cls
  have hinit := Cond.initialized_spec hfound hk (a' (.initialized Bundle.nN) (by simp [Bundle.npeArmAtoms]))
  have hctor : N.kN.findMethod "<init>" "()V" = some P1.m.idx := findMethod_of_methodNamed hP1m hk
  obtain ⟨c1, k1, hc1, hk1, -, -, -, hn⟩ := Cond.instantiable_spec (a' (.instantiable Bundle.nN n) (by simp [Bundle.npeArmAtoms]))
  cases Option.some.inj (hc1.symm.trans hfound)
  cases Option.some.inj (hk1.symm.trans hk)
  have hfsz : (freshCell P1.m.cls N.kN).slots.size = n := by simp [hn]
  have hlink1 : P1.sup = PR.m := Option.some.inj (hP1s.symm.trans hPRm)
  have hlinkR : PR.sup = PE.m := Option.some.inj (hPRs.symm.trans hPEm)
  have hlinkE : PE.sup = Z.m T.toThrowableT := Option.some.inj (hPEs.symm.trans Y.init0)
  have hLs : ∀ P, P ∈ [PR, PE] → P.Links0 e.platform s := fun P hP => by
    simp only [List.mem_cons, List.not_mem_nil, or_false] at hP
    rcases hP with rfl | rfl
    · exact LR
    · exact LEx
  have hsel0 : selectMethod e.platform s.vm P1.m.cls T.fill0 = .method T.fill0 := by
    obtain ⟨c2, r2, m2, q1, q2, q3, q4, -⟩ := Cond.selects_spec (a' (.selects Bundle.nN Bundle.tFill0 Bundle.tFill0) (by simp [Bundle.npeArmAtoms]))
    cases Option.some.inj (q1.symm.trans hfound)
    cases Option.some.inj (q2.symm.trans (State.methodFound?_of_named Y.fill0 (by decide)))
    cases Option.some.inj (q3.symm.trans Y.fill0)
    rw [Launch.admits_selectMethod X.admits]; exact q4
  have hselF : selectMethod e.platform s.vm P1.m.cls T.fill = .method N.fill := by
    obtain ⟨c2, r2, m2, q1, q2, q3, q4, -⟩ := Cond.selects_spec (a' (.selects Bundle.nN Bundle.tFill Bundle.nFill) (by simp [Bundle.npeArmAtoms]))
    cases Option.some.inj (q1.symm.trans hfound)
    cases Option.some.inj (q2.symm.trans (State.methodFound?_of_named Y.fill (by decide)))
    cases Option.some.inj (q3.symm.trans hnNF)
    rw [Launch.admits_selectMethod X.admits]; exact q4
  obtain ⟨cellS0, hcS0, hiss⟩ := Y.statics
  obtain ⟨u0, hu0⟩ := Cond.staticRefV Y.unassigned L.unassignedStatic L.statics hcS0 hiss (a' (.isRef (.static Bundle.tN "UNASSIGNED_STACK" Bundle.steD)) (by simp [Bundle.npeArmAtoms]))
  obtain ⟨sen, hsen⟩ := Cond.staticRefV Y.sentinel L.sentinelStatic L.statics hcS0 hiss (a' (.isRef (.static Bundle.tN "SUPPRESSED_SENTINEL" Bundle.listD)) (by simp [Bundle.npeArmAtoms]))
  obtain ⟨ci198, i198, fB, hk198, hg198, ha198, hsB, -, hnB, htB, hffB⟩ := Cond.ownField (t := .object "java/lang/Object") Y.found L.cls (by decide +kernel) (a' (.fieldLink Bundle.tN 198 Bundle.tN "backtrace" Bundle.objD) (by simp [Bundle.npeArmAtoms])) (a' (.lays Bundle.tN Bundle.tN "backtrace" Bundle.objD) (by simp [Bundle.npeArmAtoms])) e.platform hpl
  obtain ⟨cellS, hcS', heS, -, hkeep⟩ := X.same.2.2.2.2.2 T.aS cellS0 hcS0
  have hcellS : W.heap[T.aS]? = some cellS := hcS'
  have hout' : ∀ i, (⟨T.aS, i⟩ : Loc) ∉ locs := fun i hmem => by
    have := hlocs _ hmem cellS0 hcS0
    rw [hiss] at this; cases this
  have hknownS : cellS.vm ≠ .unknown := by
    rw [heS]; intro hu
    rw [show cellS0.vm = .unknown from hu] at hiss
    cases hiss
  have hvU : cellS.slots[T.fUnassigned.slot]? = some u0.v := by rw [hkeep _ (hout' _)]; exact hu0
  have hvSen : cellS.slots[T.fSentinel.slot]? = some sen.v := by rw [hkeep _ (hout' _)]; exact hsen
  obtain ⟨tyC, dC, hdC, hdnC⟩ := Cond.laysAt hfound hk Y.cause (a' (.lays Bundle.nN Bundle.tN "cause" "Ljava/lang/Throwable;") (by simp [Bundle.npeArmAtoms]))
  obtain ⟨tyS, dS, hdS, hdnS⟩ := Cond.laysAt hfound hk Y.stack (a' (.lays Bundle.nN Bundle.tN "stackTrace" Bundle.steD) (by simp [Bundle.npeArmAtoms]))
  obtain ⟨tyP, dP, hdP, hdnP⟩ := Cond.laysAt hfound hk Y.supp (a' (.lays Bundle.nN Bundle.tN "suppressedExceptions" Bundle.listD) (by simp [Bundle.npeArmAtoms]))
  obtain ⟨tyX, dX, hdX, hdnX⟩ := Cond.laysAt hfound hk hffS (a' (.lays Bundle.nN Bundle.nN "extendedMessageState" "I") (by simp [Bundle.npeArmAtoms, Bundle.npeAtoms]))
  obtain ⟨hnX, htX⟩ := State.fieldFound?_type hffS (t := .int) (by decide +kernel)
  have xC := Cond.laysApart hdC hdX hdnC hdnX (by rw [hnX, Y.causeName]; decide)
  have xS := Cond.laysApart hdS hdX hdnS hdnX (by rw [hnX, Y.stackName]; decide)
  have xP := Cond.laysApart hdP hdX hdnP hdnX (by rw [hnX, Y.suppName]; decide)
  have hv0 : (freshCell P1.m.cls N.kN).slots[N.fState.slot]? = some (.int 0) := by
    have := fresh_default (c := P1.m.cls) tyX
    rw [htX] at this; exact this
  obtain ⟨tyB, dB, hdB, hdnB⟩ := Cond.laysAt hfound hk hffB (a' (.lays Bundle.nN Bundle.tN "backtrace" Bundle.objD) (by simp [Bundle.npeArmAtoms]))
  have bC := Cond.laysApart hdB hdC hdnB hdnC (by rw [hnB, Y.causeName]; decide)
  have bS := Cond.laysApart hdB hdS hdnB hdnS (by rw [hnB, Y.stackName]; decide)
  have bP := Cond.laysApart hdB hdP hdnB hdnP (by rw [hnB, Y.suppName]; decide)
  have bX := Cond.laysApart hdB hdX hdnB hdnX (by rw [hnB, hnX]; decide)
  have hbk : ((npeCell N.toNpeT (preparedCellV T.toThrowableT (freshCell P1.m.cls N.kN) W.heap.size u0 sen) W.cur).withEntry W.cur).slots[fB.slot]? = some .null := by
    have := fresh_default (c := P1.m.cls) tyB
    rw [htB] at this
    simpa [npeCell, preparedCellV, Cell.setSlot, Cell.withEntry, Array.getElem?_setIfInBounds, bC, bS, bP, bX, bC.symm, bS.symm, bP.symm, bX.symm, defaultValue] using this
  have tkC := Takes.of_laid (v := .ref W.heap.size) hk hordN tyC (by rw [Y.causeType]; rfl)
  have tkS := Takes.of_laid (v := u0.v) hk hordN tyS (by rw [Y.stackType]; exact fits_refV_array _ u0)
  have tkP := Takes.of_laid (v := sen.v) hk hordN tyP (by rw [Y.suppType]; exact fits_refV_object _ sen)
  have tkX := Takes.of_laid (v := .int 1) hk hordN tyX (by rw [htX]; rfl)
  have hskip : SkipFacts T e.platform s (fun u => u) u0 ((npeCell N.toNpeT (preparedCellV T.toThrowableT (freshCell P1.m.cls N.kN) W.heap.size u0 sen) W.cur).withEntry W.cur) := ⟨{ ci198 := ci198, i198 := i198, fBack := fB }, ⟨hk198, hg198, ha198, hsB⟩, hbk, fun _ _ => rfl⟩
  obtain ⟨vm', X3, st, -⟩ := X.throwsNpeColdBareVAt hexec hg hsize T L Z LZ N LN P1 L1 [PR, PE] hLs hlink1 ⟨hlinkR, hlinkE, trivial⟩ hfound hk hinit hordN hctor hsel0 hselF hcellS hknownS hvU hvSen
    hv0 xC xS xP tkC tkS tkP tkX Y.objLocals hskip (fun _ _ hA hW _ hroom _ hrest => L.nativeOff p htr hA hW hroom hrest) (by simpa using hRframes) hRlocals (by simp) hRcells (by rw [hn]; exact hRslots)
  have hlt : W.heap.size < ((W.pushCell (freshCell P1.m.cls N.kN)).setVm vm').heap.size := by
    show W.heap.size < (W.pushCell (freshCell P1.m.cls N.kN)).heap.size
    rw [State.heap_size_pushCell]; omega
  rw [hfsz] at X3
  obtain ⟨g₁, hfrM⟩ := X3.frames_eq
  have hU : ((((W.pushCell (freshCell P1.m.cls N.kN)).setVm vm').setCell W.heap.size (npeBareV T.toThrowableT N.toNpeT (freshCell P1.m.cls N.kN) W.heap.size u0 sen)).setTop g).pushFrame (.throwing W.heap.size) = (((W.pushCell (freshCell P1.m.cls N.kN)).setVm vm').setCell W.heap.size (npeBareV T.toThrowableT N.toNpeT (freshCell P1.m.cls N.kN) W.heap.size u0 sen)).setFrames (.throwing W.heap.size :: .java g :: below) := by
    rw [State.pushFrame, State.frames_setTop _ hfrM, State.setTop_of_frames _ hfrM, State.setFrames_setFrames]
  refine ⟨_, W.heap.size, _, fun target ht => st.trans (by rw [← hU]; exact ht), X3.forget (fun y hy => ?_), heapAt_setCell_self _ hlt, hfound, rfl⟩
  simp only [List.mem_cons, List.not_mem_nil, or_false] at hy
  have hge : s.heap.size ≤ W.heap.size := X.same.2.1
  rcases hy with rfl | rfl | rfl | rfl | rfl <;> exact hge
/-- the words of a machine's NullPointerException, but the four that speak of the heap -/
def vx_atN (n : Nat) : List Cond := (Bundle.npeArmAtoms n).filter vx_no
/-- the words of a machine's throw with a message, but the four that speak of the heap -/
def vx_atM (X : String) (names : List String) : List Cond := (Bundle.messageArmAtoms X names).filter vx_no
section
variable {p : Program} {l : Launch} {e : Env} {R : Room} {s : State} {m : MethodId} {args : Array Value} {below : List Frame} {meth : Method} {c : Code} {H : Heap} {locs : List Loc} {cells slots : Nat}
/-- a frame seen from a rebased start, seen from the first start again -/
theorem vx_back9 {T S : State} {R' : Room} {k n : Nat} (X : Stand p l e R s m args below meth c T locs cells slots) (Y : Stand p l e R' ((T.setVm s.vm).setFrames (.invoking m args :: below)) m args below meth c T [] 0 0) (Z : Stand p l e R' ((T.setVm s.vm).setFrames (.invoking m args :: below)) m args below meth c S [] k n) :
    Stand p l e R s m args below meth c S locs (cells + k) (slots + n) := by
  have hW0 : s.WarmedH ((T.setVm s.vm).setFrames (.invoking m args :: below)).vm := State.WarmedH.refl s
  refine { admits := X.admits, cas := X.cas, clock := X.clock, frames := X.frames, room := X.room, hears := X.hears, method := X.method, code := X.code, here := Z.here, tail := Z.tail, warmed := State.WarmedH.trans hW0 Z.warmed, limits := Z.limits.trans (Y.limits.symm.trans X.limits), bytes := Z.bytes.trans (Y.bytes.symm.trans X.bytes), same := ?_ }
  obtain ⟨e1, e2⟩ := Z.same
  rw [State.setFrames_setFrames] at e1
  have h2 : (T.setVm s.vm).sameButNew (S.setVm s.vm) [] k n := ⟨e1, e2⟩
  have h3 := X.same.trans h2
  rw [List.append_nil] at h3
  exact h3
/-- from the machine's note that E is thrown here with this text -/
def vx_Note (p : Program) (l : Launch) (e : Env) (R : Room) (s : State) (m : MethodId) (args : Array Value) (below : List Frame) (meth : Method) (c : Code) (H : Heap) (locs : List Loc) (cells slots : Nat) (Q : State → Prop) (g : JFrame) (E text : String) : Prop :=
  ∀ T : State, T.heap = H → Stand p l e R s m args below meth c T locs cells slots → ∃ t, Steps p.tables e below ((T.setTop g).pushFrame (.throwNew E (some text) none)) t ∧ Q t
theorem vx_vm {pc : Nat} {ls : Array Slot} {rest : List Value} {Q : State → Prop} (hexec : p.tables.exec = Jvm.exec) (hl : l.stackTraces = false) {cls text : String} {names : List String} {nb : Nat} {A : Nat → Prop}
    (hcls : Bundle.fit cls = true) (hnames : ∀ n ∈ names, Bundle.fit n = true) (hsoe : (cls == "java/lang/StackOverflowError") = false) (hoom : (cls == "java/lang/OutOfMemoryError") = false)
    (hat : ∀ w ∈ vx_atM cls names, w.before args s = true) (hgood : ∀ w ∈ vx_atM cls names, vx_ot w = true)
    (hU : vx_Zq Bundle.tN "UNASSIGNED_STACK" Bundle.steD A s s.heap) (hN : vx_Zq Bundle.tN "SUPPRESSED_SENTINEL" Bundle.listD A s s.heap) (hS : va_S A s.heap H locs) (hsize : ls.size = c.maxLocals)
    (htext : (text == notModelled) = false) (hnb : (stringBytes (stringToUtf16 text)).size ≤ nb) (hnb1 : nb ≤ 1000)
    (hRframes : names.length + 4 < R.frames) (hRlocals : (rest.map fun v => v.category).sum + 10240 ≤ R.locals) (hshort : 13 * names.length + 55 ≤ 10240) (hRcells : cells + 3 ≤ R.cells) (hRslots : slots + (nb + 10) ≤ R.slots) (hlocks : meth.locks = false)
    (k : ∀ (H1 : Heap) (q9 : Addr) (ce : Cell), H.size ≤ H1.size → (∀ q : Nat, q < H.size → H1[q]? = H[q]?) → va_S A s.heap H1 locs → H1[q9]? = some ce → ce.vm = .none → s.vm.findClass cls = some ce.cls → vx_W p l e R s m args below meth c H1 locs (cells + 3) (slots + (nb + 10)) Q (F0 m pc ls rest) q9) :
    vx_Note p l e R s m args below meth c H locs cells slots Q (F0 m pc ls rest) cls text := by
  intro T hT X
  have htr : e.platform.stackTraces = false := (show e.platform.stackTraces = l.stackTraces by rw [X.admits.platform]).trans hl
  have Y := vx_rebase X (R' := { frames := R.frames, locals := R.locals, cells := 3, slots := nb + 10 }) (Nat.le_refl _) (Nat.le_refl _) hRcells hRslots
  have hhp : ((T.setVm s.vm).setFrames (.invoking m args :: below)).heap = H := hT
  have hW0 : s.WarmedH ((T.setVm s.vm).setFrames (.invoking m args :: below)).vm := State.WarmedH.refl s
  have hat' : ∀ w ∈ vx_atM cls names, w.before args ((T.setVm s.vm).setFrames (.invoking m args :: below)) = true := fun w hw => vx_ot_at hW0 rfl (hgood w hw) (hat w hw)
  have hU' : vx_Zq Bundle.tN "UNASSIGNED_STACK" Bundle.steD A ((T.setVm s.vm).setFrames (.invoking m args :: below)) ((T.setVm s.vm).setFrames (.invoking m args :: below)).heap := by rw [hhp]; exact vx_Zq.moved hW0.alike (hU.kept hS.2.1)
  have hN' : vx_Zq Bundle.tN "SUPPRESSED_SENTINEL" Bundle.listD A ((T.setVm s.vm).setFrames (.invoking m args :: below)) ((T.setVm s.vm).setFrames (.invoking m args :: below)).heap := by rw [hhp]; exact vx_Zq.moved hW0.alike (hN.kept hS.2.1)
  obtain ⟨S, q, ce, st, Z, hce, hcl', hv⟩ := vx_vmAt Y hexec htr (cls := cls) (names := names) (text := text) hcls hnames hsoe hoom (vx_own hat' (vx_isRefq hU'.1) (vx_isRefq hN'.1) hU'.2.word hN'.2.word) (fun x hx => nomatch hx) htext
    (by rw [Launch.admits_arrayLengthLimit X.admits]; omega) (by rw [Launch.admits_maxHeapBytes X.admits]; simp only [componentBytes]; omega)
    (g := F0 m pc ls rest) rfl hsize hRframes (by show 2 * 0 + (rest.map fun v => v.category).sum + 10240 ≤ R.locals; omega) hshort (by show 0 + 3 ≤ 3; omega) (by show 0 + (_ + 4 + 6) ≤ nb + 10; omega) hlocks
  obtain ⟨f1, f2⟩ := vx_frame Z.same
  have f1' : H.size ≤ S.heap.size := by rw [← hT]; exact f1
  have f2' : ∀ q : Nat, q < H.size → S.heap[q]? = H[q]? := fun q hq => by
    rw [← hT]
    exact f2 q (by rw [← hT] at hq; exact hq) (fun z hz => nomatch hz)
  have X5 := vx_back9 X Y Z
  have X6 : Stand p l e R s m args below meth c S locs (cells + 3) (slots + (nb + 10)) := { X5 with same := X5.same.mono (by omega) (by omega) }
  obtain ⟨t, a1, b1⟩ := k S.heap q ce f1' f2' ⟨Nat.le_trans hS.1 f1', fun q h1 h2 => (f2' q (Nat.lt_of_lt_of_le h1 hS.1)).trans (hS.2.1 q h1 h2), hS.2.2⟩ hce hv hcl' S rfl X6
  exact ⟨t, st t a1, b1⟩
/-- from the machine's note that NullPointerException is thrown here -/
def vx_NoteN (p : Program) (l : Launch) (e : Env) (R : Room) (s : State) (m : MethodId) (args : Array Value) (below : List Frame) (meth : Method) (c : Code) (H : Heap) (locs : List Loc) (cells slots : Nat) (Q : State → Prop) (g : JFrame) : Prop :=
  ∀ T : State, T.heap = H → Stand p l e R s m args below meth c T locs cells slots → ∃ t, Steps p.tables e below ((T.setTop g).pushFrame (.throwNew "java/lang/NullPointerException" none none)) t ∧ Q t
theorem vx_npe {pc : Nat} {ls : Array Slot} {rest : List Value} {Q : State → Prop} (hexec : p.tables.exec = Jvm.exec) (hl : l.stackTraces = false) {nb : Nat} {A : Nat → Prop}
    (hat : ∀ w ∈ vx_atN nb, w.before args s = true) (hgood : ∀ w ∈ vx_atN nb, vx_ot w = true)
    (hU : vx_Zq Bundle.tN "UNASSIGNED_STACK" Bundle.steD A s s.heap) (hN : vx_Zq Bundle.tN "SUPPRESSED_SENTINEL" Bundle.listD A s s.heap) (hS : va_S A s.heap H locs) (hsize : ls.size = c.maxLocals)
    (hRframes : 7 < R.frames) (hRlocals : (rest.map fun v => v.category).sum + 10240 ≤ R.locals) (hRcells : cells + 1 ≤ R.cells) (hRslots : slots + nb ≤ R.slots) (hlocks : meth.locks = false)
    (k : ∀ (H1 : Heap) (q9 : Addr) (ce : Cell), H.size ≤ H1.size → (∀ q : Nat, q < H.size → H1[q]? = H[q]?) → va_S A s.heap H1 locs → H1[q9]? = some ce → ce.vm = .none → s.vm.findClass "java/lang/NullPointerException" = some ce.cls → vx_W p l e R s m args below meth c H1 locs (cells + 1) (slots + nb) Q (F0 m pc ls rest) q9) :
    vx_NoteN p l e R s m args below meth c H locs cells slots Q (F0 m pc ls rest) := by
  intro T hT X
  have htr : e.platform.stackTraces = false := (show e.platform.stackTraces = l.stackTraces by rw [X.admits.platform]).trans hl
  have Y := vx_rebase X (R' := { frames := R.frames, locals := R.locals, cells := 1, slots := nb }) (Nat.le_refl _) (Nat.le_refl _) hRcells hRslots
  have hhp : ((T.setVm s.vm).setFrames (.invoking m args :: below)).heap = H := hT
  have hW0 : s.WarmedH ((T.setVm s.vm).setFrames (.invoking m args :: below)).vm := State.WarmedH.refl s
  have hat' : ∀ w ∈ vx_atN nb, w.before args ((T.setVm s.vm).setFrames (.invoking m args :: below)) = true := fun w hw => vx_ot_at hW0 rfl (hgood w hw) (hat w hw)
  have hU' : vx_Zq Bundle.tN "UNASSIGNED_STACK" Bundle.steD A ((T.setVm s.vm).setFrames (.invoking m args :: below)) ((T.setVm s.vm).setFrames (.invoking m args :: below)).heap := by rw [hhp]; exact vx_Zq.moved hW0.alike (hU.kept hS.2.1)
  have hN' : vx_Zq Bundle.tN "SUPPRESSED_SENTINEL" Bundle.listD A ((T.setVm s.vm).setFrames (.invoking m args :: below)) ((T.setVm s.vm).setFrames (.invoking m args :: below)).heap := by rw [hhp]; exact vx_Zq.moved hW0.alike (hN.kept hS.2.1)
  obtain ⟨S, q, ce, st, Z, hce, hcl', hv⟩ := vx_npeAt Y hexec htr (n := nb) (vx_own hat' (vx_isRefq hU'.1) (vx_isRefq hN'.1) hU'.2.word hN'.2.word) (fun x hx => nomatch hx)
    (g := F0 m pc ls rest) rfl hsize hRframes (by show 2 * 0 + (rest.map fun v => v.category).sum + 10240 ≤ R.locals; omega) (by show 0 + 1 ≤ 1; omega) (by show 0 + nb ≤ nb; omega) hlocks
  obtain ⟨f1, f2⟩ := vx_frame Z.same
  have f1' : H.size ≤ S.heap.size := by rw [← hT]; exact f1
  have f2' : ∀ q : Nat, q < H.size → S.heap[q]? = H[q]? := fun q hq => by
    rw [← hT]
    exact f2 q (by rw [← hT] at hq; exact hq) (fun z hz => nomatch hz)
  have X5 := vx_back9 X Y Z
  have X6 : Stand p l e R s m args below meth c S locs (cells + 1) (slots + nb) := { X5 with same := X5.same.mono (by omega) (by omega) }
  obtain ⟨t, a1, b1⟩ := k S.heap q ce f1' f2' ⟨Nat.le_trans hS.1 f1', fun q h1 h2 => (f2' q (Nat.lt_of_lt_of_le h1 hS.1)).trans (hS.2.1 q h1 h2), hS.2.2⟩ hce hv hcl' S rfl X6
  exact ⟨t, st t a1, b1⟩
variable {Q : State → Prop} {cc : ByteArray} {pc : Nat} {ls : Array Slot} {rest : List Value}
theorem vx_idivZ (hexec : p.tables.exec = Jvm.exec) (hb : c.code = cc) {a b : Int32} (h0 : b = 0) (d : decode cc pc = .ok (.idiv, 1)) (k : vx_Note p l e R s m args below meth c H locs cells slots Q (F0 m pc ls rest) "java/lang/ArithmeticException" "/ by zero") :
    W p l e R s m args below meth c H locs cells slots Q (F0 m pc ls (.int b :: .int a :: rest)) := by
  intro T hT X
  obtain ⟨t, st, q⟩ := k T hT X
  exact ⟨t, X.idivZero hexec (g := F0 m pc ls (.int b :: .int a :: rest)) rfl (a := a) (rest := rest) (by rw [h0]) (by rw [hb]; exact d) t st, q⟩
theorem vx_iremZ (hexec : p.tables.exec = Jvm.exec) (hb : c.code = cc) {a b : Int32} (h0 : b = 0) (d : decode cc pc = .ok (.irem, 1)) (k : vx_Note p l e R s m args below meth c H locs cells slots Q (F0 m pc ls rest) "java/lang/ArithmeticException" "/ by zero") :
    W p l e R s m args below meth c H locs cells slots Q (F0 m pc ls (.int b :: .int a :: rest)) := by
  intro T hT X
  obtain ⟨t, st, q⟩ := k T hT X
  exact ⟨t, X.iremZero hexec (g := F0 m pc ls (.int b :: .int a :: rest)) rfl (a := a) (rest := rest) (by rw [h0]) (by rw [hb]; exact d) t st, q⟩
theorem vx_ldivZ (hexec : p.tables.exec = Jvm.exec) (hb : c.code = cc) {a b : Int64} (h0 : b = 0) (d : decode cc pc = .ok (.ldiv, 1)) (k : vx_Note p l e R s m args below meth c H locs cells slots Q (F0 m pc ls rest) "java/lang/ArithmeticException" "/ by zero") :
    W p l e R s m args below meth c H locs cells slots Q (F0 m pc ls (.long b :: .long a :: rest)) := by
  intro T hT X
  obtain ⟨t, st, q⟩ := k T hT X
  exact ⟨t, X.ldivZero hexec (g := F0 m pc ls (.long b :: .long a :: rest)) rfl (a := a) (rest := rest) (by rw [h0]) (by rw [hb]; exact d) t st, q⟩
theorem vx_lremZ (hexec : p.tables.exec = Jvm.exec) (hb : c.code = cc) {a b : Int64} (h0 : b = 0) (d : decode cc pc = .ok (.lrem, 1)) (k : vx_Note p l e R s m args below meth c H locs cells slots Q (F0 m pc ls rest) "java/lang/ArithmeticException" "/ by zero") :
    W p l e R s m args below meth c H locs cells slots Q (F0 m pc ls (.long b :: .long a :: rest)) := by
  intro T hT X
  obtain ⟨t, st, q⟩ := k T hT X
  exact ⟨t, X.lremZero hexec (g := F0 m pc ls (.long b :: .long a :: rest)) rfl (a := a) (rest := rest) (by rw [h0]) (by rw [hb]; exact d) t st, q⟩
theorem vx_ialdZ {D : va_G} {cl : List vw_C} {ws : va_W} {tys : List (ClassId × FieldType)} {a : Nat} (hexec : p.tables.exec = Jvm.exec) (hb : c.code = cc) (hK : va_K D cl tys s) (hP : va_P D cl ws H) (q0 t0 : Nat) {cA : ClassId} {n : Nat} {f : Nat → Int32} (ha : ws[q0]? = some (a, .inl (cA, n, .inl f))) (ht : tys[t0]? = some (cA, .int)) {i : Int32} (hout : ¬ vp_in i n) (hdg : decode cc pc = .ok (.iaload, 1))
    (k : ∀ tx : String, tx = (toString "Index " ++ toString i ++ toString " out of bounds for length " ++ toString n : String) → vx_Note p l e R s m args below meth c H locs cells slots Q (F0 m pc ls rest) "java/lang/ArrayIndexOutOfBoundsException" tx) : W p l e R s m args below meth c H locs cells slots Q (F0 m pc ls (.int i :: .ref a :: rest)) := by
  intro T hT X
  obtain ⟨t, st, q⟩ := k _ rfl T hT X
  refine ⟨t, ?_, q⟩
  have h1 := X.ialoadOut hexec (by rw [hT]; exact hP q0 _ ha) ((hK.2 t0 _ ht).1 n (fun j => .int (f j))) (j := i) (by show (i < 0 ∨ (arrV _ _ _).slots.size ≤ _); rw [arrV_size]; exact Classical.byContradiction hout) (g := F0 m pc ls (.int i :: .ref a :: rest)) rfl (rest := rest) rfl (by rw [hb]; exact hdg) t
  simp only [arrV_size] at h1
  exact h1 st
theorem vx_iastZ {D : va_G} {cl : List vw_C} {ws : va_W} {tys : List (ClassId × FieldType)} {a : Nat} (hexec : p.tables.exec = Jvm.exec) (hb : c.code = cc) (hK : va_K D cl tys s) (hP : va_P D cl ws H) (q0 t0 : Nat) {cA : ClassId} {n : Nat} {f : Nat → Int32} (ha : ws[q0]? = some (a, .inl (cA, n, .inl f))) (ht : tys[t0]? = some (cA, .int)) {i : Int32} {x : Int32} (hout : ¬ vp_in i n) (hdg : decode cc pc = .ok (.iastore, 1))
    (k : ∀ tx : String, tx = (toString "Index " ++ toString i ++ toString " out of bounds for length " ++ toString n : String) → vx_Note p l e R s m args below meth c H locs cells slots Q (F0 m pc ls rest) "java/lang/ArrayIndexOutOfBoundsException" tx) : W p l e R s m args below meth c H locs cells slots Q (F0 m pc ls (.int x :: .int i :: .ref a :: rest)) := by
  intro T hT X
  obtain ⟨t, st, q⟩ := k _ rfl T hT X
  refine ⟨t, ?_, q⟩
  have h1 := X.iastoreOut hexec (by rw [hT]; exact hP q0 _ ha) ((hK.2 t0 _ ht).1 n (fun j => .int (f j))) (j := i) (by show (i < 0 ∨ (arrV _ _ _).slots.size ≤ _); rw [arrV_size]; exact Classical.byContradiction hout) (g := F0 m pc ls (.int x :: .int i :: .ref a :: rest)) rfl (rest := rest) rfl (by rw [hb]; exact hdg) t
  simp only [arrV_size] at h1
  exact h1 st
theorem vx_baldZ {D : va_G} {cl : List vw_C} {ws : va_W} {tys : List (ClassId × FieldType)} {a : Nat} (hexec : p.tables.exec = Jvm.exec) (hb : c.code = cc) (hK : va_K D cl tys s) (hP : va_P D cl ws H) (q0 t0 : Nat) {cA : ClassId} {n : Nat} {f : Nat → Int32} (ha : ws[q0]? = some (a, .inl (cA, n, .inl f))) (ht : tys[t0]? = some (cA, .byte)) {i : Int32} (hout : ¬ vp_in i n) (hdg : decode cc pc = .ok (.baload, 1))
    (k : ∀ tx : String, tx = (toString "Index " ++ toString i ++ toString " out of bounds for length " ++ toString n : String) → vx_Note p l e R s m args below meth c H locs cells slots Q (F0 m pc ls rest) "java/lang/ArrayIndexOutOfBoundsException" tx) : W p l e R s m args below meth c H locs cells slots Q (F0 m pc ls (.int i :: .ref a :: rest)) := by
  intro T hT X
  obtain ⟨t, st, q⟩ := k _ rfl T hT X
  refine ⟨t, ?_, q⟩
  have h1 := X.baloadOut hexec (by rw [hT]; exact hP q0 _ ha) ((hK.2 t0 _ ht).1 n (fun j => .int (f j))) (j := i) (by show (i < 0 ∨ (arrV _ _ _).slots.size ≤ _); rw [arrV_size]; exact Classical.byContradiction hout) (g := F0 m pc ls (.int i :: .ref a :: rest)) rfl (rest := rest) rfl (by rw [hb]; exact hdg) t
  simp only [arrV_size] at h1
  exact h1 st
theorem vx_bastZ {D : va_G} {cl : List vw_C} {ws : va_W} {tys : List (ClassId × FieldType)} {a : Nat} (hexec : p.tables.exec = Jvm.exec) (hb : c.code = cc) (hK : va_K D cl tys s) (hP : va_P D cl ws H) (q0 t0 : Nat) {cA : ClassId} {n : Nat} {f : Nat → Int32} (ha : ws[q0]? = some (a, .inl (cA, n, .inl f))) (ht : tys[t0]? = some (cA, .byte)) {i : Int32} {x : Int32} (hout : ¬ vp_in i n) (hdg : decode cc pc = .ok (.bastore, 1))
    (k : ∀ tx : String, tx = (toString "Index " ++ toString i ++ toString " out of bounds for length " ++ toString n : String) → vx_Note p l e R s m args below meth c H locs cells slots Q (F0 m pc ls rest) "java/lang/ArrayIndexOutOfBoundsException" tx) : W p l e R s m args below meth c H locs cells slots Q (F0 m pc ls (.int x :: .int i :: .ref a :: rest)) := by
  intro T hT X
  obtain ⟨t, st, q⟩ := k _ rfl T hT X
  refine ⟨t, ?_, q⟩
  have h1 := X.bastoreOut hexec (by rw [hT]; exact hP q0 _ ha) ((hK.2 t0 _ ht).1 n (fun j => .int (f j))) (j := i) (by show (i < 0 ∨ (arrV _ _ _).slots.size ≤ _); rw [arrV_size]; exact Classical.byContradiction hout) (g := F0 m pc ls (.int x :: .int i :: .ref a :: rest)) rfl (rest := rest) rfl (by rw [hb]; exact hdg) t
  simp only [arrV_size] at h1
  exact h1 st
theorem vx_zaldZ {D : va_G} {cl : List vw_C} {ws : va_W} {tys : List (ClassId × FieldType)} {a : Nat} (hexec : p.tables.exec = Jvm.exec) (hb : c.code = cc) (hK : va_K D cl tys s) (hP : va_P D cl ws H) (q0 t0 : Nat) {cA : ClassId} {n : Nat} {f : Nat → Int32} (ha : ws[q0]? = some (a, .inl (cA, n, .inl f))) (ht : tys[t0]? = some (cA, .boolean)) {i : Int32} (hout : ¬ vp_in i n) (hdg : decode cc pc = .ok (.baload, 1))
    (k : ∀ tx : String, tx = (toString "Index " ++ toString i ++ toString " out of bounds for length " ++ toString n : String) → vx_Note p l e R s m args below meth c H locs cells slots Q (F0 m pc ls rest) "java/lang/ArrayIndexOutOfBoundsException" tx) : W p l e R s m args below meth c H locs cells slots Q (F0 m pc ls (.int i :: .ref a :: rest)) := by
  intro T hT X
  obtain ⟨t, st, q⟩ := k _ rfl T hT X
  refine ⟨t, ?_, q⟩
  have h1 := X.baloadOut hexec (by rw [hT]; exact hP q0 _ ha) ((hK.2 t0 _ ht).1 n (fun j => .int (f j))) (j := i) (by show (i < 0 ∨ (arrV _ _ _).slots.size ≤ _); rw [arrV_size]; exact Classical.byContradiction hout) (g := F0 m pc ls (.int i :: .ref a :: rest)) rfl (rest := rest) rfl (by rw [hb]; exact hdg) t
  simp only [arrV_size] at h1
  exact h1 st
theorem vx_zastZ {D : va_G} {cl : List vw_C} {ws : va_W} {tys : List (ClassId × FieldType)} {a : Nat} (hexec : p.tables.exec = Jvm.exec) (hb : c.code = cc) (hK : va_K D cl tys s) (hP : va_P D cl ws H) (q0 t0 : Nat) {cA : ClassId} {n : Nat} {f : Nat → Int32} (ha : ws[q0]? = some (a, .inl (cA, n, .inl f))) (ht : tys[t0]? = some (cA, .boolean)) {i : Int32} {x : Int32} (hout : ¬ vp_in i n) (hdg : decode cc pc = .ok (.bastore, 1))
    (k : ∀ tx : String, tx = (toString "Index " ++ toString i ++ toString " out of bounds for length " ++ toString n : String) → vx_Note p l e R s m args below meth c H locs cells slots Q (F0 m pc ls rest) "java/lang/ArrayIndexOutOfBoundsException" tx) : W p l e R s m args below meth c H locs cells slots Q (F0 m pc ls (.int x :: .int i :: .ref a :: rest)) := by
  intro T hT X
  obtain ⟨t, st, q⟩ := k _ rfl T hT X
  refine ⟨t, ?_, q⟩
  have h1 := X.bastoreOut hexec (by rw [hT]; exact hP q0 _ ha) ((hK.2 t0 _ ht).1 n (fun j => .int (f j))) (j := i) (by show (i < 0 ∨ (arrV _ _ _).slots.size ≤ _); rw [arrV_size]; exact Classical.byContradiction hout) (g := F0 m pc ls (.int x :: .int i :: .ref a :: rest)) rfl (rest := rest) rfl (by rw [hb]; exact hdg) t
  simp only [arrV_size] at h1
  exact h1 st
theorem vx_caldZ {D : va_G} {cl : List vw_C} {ws : va_W} {tys : List (ClassId × FieldType)} {a : Nat} (hexec : p.tables.exec = Jvm.exec) (hb : c.code = cc) (hK : va_K D cl tys s) (hP : va_P D cl ws H) (q0 t0 : Nat) {cA : ClassId} {n : Nat} {f : Nat → Int32} (ha : ws[q0]? = some (a, .inl (cA, n, .inl f))) (ht : tys[t0]? = some (cA, .char)) {i : Int32} (hout : ¬ vp_in i n) (hdg : decode cc pc = .ok (.caload, 1))
    (k : ∀ tx : String, tx = (toString "Index " ++ toString i ++ toString " out of bounds for length " ++ toString n : String) → vx_Note p l e R s m args below meth c H locs cells slots Q (F0 m pc ls rest) "java/lang/ArrayIndexOutOfBoundsException" tx) : W p l e R s m args below meth c H locs cells slots Q (F0 m pc ls (.int i :: .ref a :: rest)) := by
  intro T hT X
  obtain ⟨t, st, q⟩ := k _ rfl T hT X
  refine ⟨t, ?_, q⟩
  have h1 := X.caloadOut hexec (by rw [hT]; exact hP q0 _ ha) ((hK.2 t0 _ ht).1 n (fun j => .int (f j))) (j := i) (by show (i < 0 ∨ (arrV _ _ _).slots.size ≤ _); rw [arrV_size]; exact Classical.byContradiction hout) (g := F0 m pc ls (.int i :: .ref a :: rest)) rfl (rest := rest) rfl (by rw [hb]; exact hdg) t
  simp only [arrV_size] at h1
  exact h1 st
theorem vx_castZ {D : va_G} {cl : List vw_C} {ws : va_W} {tys : List (ClassId × FieldType)} {a : Nat} (hexec : p.tables.exec = Jvm.exec) (hb : c.code = cc) (hK : va_K D cl tys s) (hP : va_P D cl ws H) (q0 t0 : Nat) {cA : ClassId} {n : Nat} {f : Nat → Int32} (ha : ws[q0]? = some (a, .inl (cA, n, .inl f))) (ht : tys[t0]? = some (cA, .char)) {i : Int32} {x : Int32} (hout : ¬ vp_in i n) (hdg : decode cc pc = .ok (.castore, 1))
    (k : ∀ tx : String, tx = (toString "Index " ++ toString i ++ toString " out of bounds for length " ++ toString n : String) → vx_Note p l e R s m args below meth c H locs cells slots Q (F0 m pc ls rest) "java/lang/ArrayIndexOutOfBoundsException" tx) : W p l e R s m args below meth c H locs cells slots Q (F0 m pc ls (.int x :: .int i :: .ref a :: rest)) := by
  intro T hT X
  obtain ⟨t, st, q⟩ := k _ rfl T hT X
  refine ⟨t, ?_, q⟩
  have h1 := X.castoreOut hexec (by rw [hT]; exact hP q0 _ ha) ((hK.2 t0 _ ht).1 n (fun j => .int (f j))) (j := i) (by show (i < 0 ∨ (arrV _ _ _).slots.size ≤ _); rw [arrV_size]; exact Classical.byContradiction hout) (g := F0 m pc ls (.int x :: .int i :: .ref a :: rest)) rfl (rest := rest) rfl (by rw [hb]; exact hdg) t
  simp only [arrV_size] at h1
  exact h1 st
theorem vx_saldZ {D : va_G} {cl : List vw_C} {ws : va_W} {tys : List (ClassId × FieldType)} {a : Nat} (hexec : p.tables.exec = Jvm.exec) (hb : c.code = cc) (hK : va_K D cl tys s) (hP : va_P D cl ws H) (q0 t0 : Nat) {cA : ClassId} {n : Nat} {f : Nat → Int32} (ha : ws[q0]? = some (a, .inl (cA, n, .inl f))) (ht : tys[t0]? = some (cA, .short)) {i : Int32} (hout : ¬ vp_in i n) (hdg : decode cc pc = .ok (.saload, 1))
    (k : ∀ tx : String, tx = (toString "Index " ++ toString i ++ toString " out of bounds for length " ++ toString n : String) → vx_Note p l e R s m args below meth c H locs cells slots Q (F0 m pc ls rest) "java/lang/ArrayIndexOutOfBoundsException" tx) : W p l e R s m args below meth c H locs cells slots Q (F0 m pc ls (.int i :: .ref a :: rest)) := by
  intro T hT X
  obtain ⟨t, st, q⟩ := k _ rfl T hT X
  refine ⟨t, ?_, q⟩
  have h1 := X.saloadOut hexec (by rw [hT]; exact hP q0 _ ha) ((hK.2 t0 _ ht).1 n (fun j => .int (f j))) (j := i) (by show (i < 0 ∨ (arrV _ _ _).slots.size ≤ _); rw [arrV_size]; exact Classical.byContradiction hout) (g := F0 m pc ls (.int i :: .ref a :: rest)) rfl (rest := rest) rfl (by rw [hb]; exact hdg) t
  simp only [arrV_size] at h1
  exact h1 st
theorem vx_sastZ {D : va_G} {cl : List vw_C} {ws : va_W} {tys : List (ClassId × FieldType)} {a : Nat} (hexec : p.tables.exec = Jvm.exec) (hb : c.code = cc) (hK : va_K D cl tys s) (hP : va_P D cl ws H) (q0 t0 : Nat) {cA : ClassId} {n : Nat} {f : Nat → Int32} (ha : ws[q0]? = some (a, .inl (cA, n, .inl f))) (ht : tys[t0]? = some (cA, .short)) {i : Int32} {x : Int32} (hout : ¬ vp_in i n) (hdg : decode cc pc = .ok (.sastore, 1))
    (k : ∀ tx : String, tx = (toString "Index " ++ toString i ++ toString " out of bounds for length " ++ toString n : String) → vx_Note p l e R s m args below meth c H locs cells slots Q (F0 m pc ls rest) "java/lang/ArrayIndexOutOfBoundsException" tx) : W p l e R s m args below meth c H locs cells slots Q (F0 m pc ls (.int x :: .int i :: .ref a :: rest)) := by
  intro T hT X
  obtain ⟨t, st, q⟩ := k _ rfl T hT X
  refine ⟨t, ?_, q⟩
  have h1 := X.sastoreOut hexec (by rw [hT]; exact hP q0 _ ha) ((hK.2 t0 _ ht).1 n (fun j => .int (f j))) (j := i) (by show (i < 0 ∨ (arrV _ _ _).slots.size ≤ _); rw [arrV_size]; exact Classical.byContradiction hout) (g := F0 m pc ls (.int x :: .int i :: .ref a :: rest)) rfl (rest := rest) rfl (by rw [hb]; exact hdg) t
  simp only [arrV_size] at h1
  exact h1 st
theorem vx_laldZ {D : va_G} {cl : List vw_C} {ws : va_W} {tys : List (ClassId × FieldType)} {a : Nat} (hexec : p.tables.exec = Jvm.exec) (hb : c.code = cc) (hK : va_K D cl tys s) (hP : va_P D cl ws H) (q0 t0 : Nat) {cA : ClassId} {n : Nat} {f : Nat → Int64} (ha : ws[q0]? = some (a, .inl (cA, n, .inr (.inl f)))) (ht : tys[t0]? = some (cA, .long)) {i : Int32} (hout : ¬ vp_in i n) (hdg : decode cc pc = .ok (.laload, 1))
    (k : ∀ tx : String, tx = (toString "Index " ++ toString i ++ toString " out of bounds for length " ++ toString n : String) → vx_Note p l e R s m args below meth c H locs cells slots Q (F0 m pc ls rest) "java/lang/ArrayIndexOutOfBoundsException" tx) : W p l e R s m args below meth c H locs cells slots Q (F0 m pc ls (.int i :: .ref a :: rest)) := by
  intro T hT X
  obtain ⟨t, st, q⟩ := k _ rfl T hT X
  refine ⟨t, ?_, q⟩
  have h1 := X.laloadOut hexec (by rw [hT]; exact hP q0 _ ha) ((hK.2 t0 _ ht).1 n (fun j => .long (f j))) (j := i) (by show (i < 0 ∨ (arrV _ _ _).slots.size ≤ _); rw [arrV_size]; exact Classical.byContradiction hout) (g := F0 m pc ls (.int i :: .ref a :: rest)) rfl (rest := rest) rfl (by rw [hb]; exact hdg) t
  simp only [arrV_size] at h1
  exact h1 st
theorem vx_lastZ {D : va_G} {cl : List vw_C} {ws : va_W} {tys : List (ClassId × FieldType)} {a : Nat} (hexec : p.tables.exec = Jvm.exec) (hb : c.code = cc) (hK : va_K D cl tys s) (hP : va_P D cl ws H) (q0 t0 : Nat) {cA : ClassId} {n : Nat} {f : Nat → Int64} (ha : ws[q0]? = some (a, .inl (cA, n, .inr (.inl f)))) (ht : tys[t0]? = some (cA, .long)) {i : Int32} {x : Int64} (hout : ¬ vp_in i n) (hdg : decode cc pc = .ok (.lastore, 1))
    (k : ∀ tx : String, tx = (toString "Index " ++ toString i ++ toString " out of bounds for length " ++ toString n : String) → vx_Note p l e R s m args below meth c H locs cells slots Q (F0 m pc ls rest) "java/lang/ArrayIndexOutOfBoundsException" tx) : W p l e R s m args below meth c H locs cells slots Q (F0 m pc ls (.long x :: .int i :: .ref a :: rest)) := by
  intro T hT X
  obtain ⟨t, st, q⟩ := k _ rfl T hT X
  refine ⟨t, ?_, q⟩
  have h1 := X.lastoreOut hexec (by rw [hT]; exact hP q0 _ ha) ((hK.2 t0 _ ht).1 n (fun j => .long (f j))) (j := i) (by show (i < 0 ∨ (arrV _ _ _).slots.size ≤ _); rw [arrV_size]; exact Classical.byContradiction hout) (g := F0 m pc ls (.long x :: .int i :: .ref a :: rest)) rfl (rest := rest) rfl (by rw [hb]; exact hdg) t
  simp only [arrV_size] at h1
  exact h1 st
theorem vx_faldZ {D : va_G} {cl : List vw_C} {ws : va_W} {tys : List (ClassId × FieldType)} {a : Nat} (hexec : p.tables.exec = Jvm.exec) (hb : c.code = cc) (hK : va_K D cl tys s) (hP : va_P D cl ws H) (q0 t0 : Nat) {cA : ClassId} {n : Nat} {f : Nat → UInt32} (ha : ws[q0]? = some (a, .inl (cA, n, .inr (.inr (.inl f))))) (ht : tys[t0]? = some (cA, .float)) {i : Int32} (hout : ¬ vp_in i n) (hdg : decode cc pc = .ok (.faload, 1))
    (k : ∀ tx : String, tx = (toString "Index " ++ toString i ++ toString " out of bounds for length " ++ toString n : String) → vx_Note p l e R s m args below meth c H locs cells slots Q (F0 m pc ls rest) "java/lang/ArrayIndexOutOfBoundsException" tx) : W p l e R s m args below meth c H locs cells slots Q (F0 m pc ls (.int i :: .ref a :: rest)) := by
  intro T hT X
  obtain ⟨t, st, q⟩ := k _ rfl T hT X
  refine ⟨t, ?_, q⟩
  have h1 := X.faloadOut hexec (by rw [hT]; exact hP q0 _ ha) ((hK.2 t0 _ ht).1 n (fun j => .float (f j))) (j := i) (by show (i < 0 ∨ (arrV _ _ _).slots.size ≤ _); rw [arrV_size]; exact Classical.byContradiction hout) (g := F0 m pc ls (.int i :: .ref a :: rest)) rfl (rest := rest) rfl (by rw [hb]; exact hdg) t
  simp only [arrV_size] at h1
  exact h1 st
theorem vx_fastZ {D : va_G} {cl : List vw_C} {ws : va_W} {tys : List (ClassId × FieldType)} {a : Nat} (hexec : p.tables.exec = Jvm.exec) (hb : c.code = cc) (hK : va_K D cl tys s) (hP : va_P D cl ws H) (q0 t0 : Nat) {cA : ClassId} {n : Nat} {f : Nat → UInt32} (ha : ws[q0]? = some (a, .inl (cA, n, .inr (.inr (.inl f))))) (ht : tys[t0]? = some (cA, .float)) {i : Int32} {x : UInt32} (hout : ¬ vp_in i n) (hdg : decode cc pc = .ok (.fastore, 1))
    (k : ∀ tx : String, tx = (toString "Index " ++ toString i ++ toString " out of bounds for length " ++ toString n : String) → vx_Note p l e R s m args below meth c H locs cells slots Q (F0 m pc ls rest) "java/lang/ArrayIndexOutOfBoundsException" tx) : W p l e R s m args below meth c H locs cells slots Q (F0 m pc ls (.float x :: .int i :: .ref a :: rest)) := by
  intro T hT X
  obtain ⟨t, st, q⟩ := k _ rfl T hT X
  refine ⟨t, ?_, q⟩
  have h1 := X.fastoreOut hexec (by rw [hT]; exact hP q0 _ ha) ((hK.2 t0 _ ht).1 n (fun j => .float (f j))) (j := i) (by show (i < 0 ∨ (arrV _ _ _).slots.size ≤ _); rw [arrV_size]; exact Classical.byContradiction hout) (g := F0 m pc ls (.float x :: .int i :: .ref a :: rest)) rfl (rest := rest) rfl (by rw [hb]; exact hdg) t
  simp only [arrV_size] at h1
  exact h1 st
theorem vx_daldZ {D : va_G} {cl : List vw_C} {ws : va_W} {tys : List (ClassId × FieldType)} {a : Nat} (hexec : p.tables.exec = Jvm.exec) (hb : c.code = cc) (hK : va_K D cl tys s) (hP : va_P D cl ws H) (q0 t0 : Nat) {cA : ClassId} {n : Nat} {f : Nat → UInt64} (ha : ws[q0]? = some (a, .inl (cA, n, .inr (.inr (.inr (.inl f)))))) (ht : tys[t0]? = some (cA, .double)) {i : Int32} (hout : ¬ vp_in i n) (hdg : decode cc pc = .ok (.daload, 1))
    (k : ∀ tx : String, tx = (toString "Index " ++ toString i ++ toString " out of bounds for length " ++ toString n : String) → vx_Note p l e R s m args below meth c H locs cells slots Q (F0 m pc ls rest) "java/lang/ArrayIndexOutOfBoundsException" tx) : W p l e R s m args below meth c H locs cells slots Q (F0 m pc ls (.int i :: .ref a :: rest)) := by
  intro T hT X
  obtain ⟨t, st, q⟩ := k _ rfl T hT X
  refine ⟨t, ?_, q⟩
  have h1 := X.daloadOut hexec (by rw [hT]; exact hP q0 _ ha) ((hK.2 t0 _ ht).1 n (fun j => .double (f j))) (j := i) (by show (i < 0 ∨ (arrV _ _ _).slots.size ≤ _); rw [arrV_size]; exact Classical.byContradiction hout) (g := F0 m pc ls (.int i :: .ref a :: rest)) rfl (rest := rest) rfl (by rw [hb]; exact hdg) t
  simp only [arrV_size] at h1
  exact h1 st
theorem vx_dastZ {D : va_G} {cl : List vw_C} {ws : va_W} {tys : List (ClassId × FieldType)} {a : Nat} (hexec : p.tables.exec = Jvm.exec) (hb : c.code = cc) (hK : va_K D cl tys s) (hP : va_P D cl ws H) (q0 t0 : Nat) {cA : ClassId} {n : Nat} {f : Nat → UInt64} (ha : ws[q0]? = some (a, .inl (cA, n, .inr (.inr (.inr (.inl f)))))) (ht : tys[t0]? = some (cA, .double)) {i : Int32} {x : UInt64} (hout : ¬ vp_in i n) (hdg : decode cc pc = .ok (.dastore, 1))
    (k : ∀ tx : String, tx = (toString "Index " ++ toString i ++ toString " out of bounds for length " ++ toString n : String) → vx_Note p l e R s m args below meth c H locs cells slots Q (F0 m pc ls rest) "java/lang/ArrayIndexOutOfBoundsException" tx) : W p l e R s m args below meth c H locs cells slots Q (F0 m pc ls (.double x :: .int i :: .ref a :: rest)) := by
  intro T hT X
  obtain ⟨t, st, q⟩ := k _ rfl T hT X
  refine ⟨t, ?_, q⟩
  have h1 := X.dastoreOut hexec (by rw [hT]; exact hP q0 _ ha) ((hK.2 t0 _ ht).1 n (fun j => .double (f j))) (j := i) (by show (i < 0 ∨ (arrV _ _ _).slots.size ≤ _); rw [arrV_size]; exact Classical.byContradiction hout) (g := F0 m pc ls (.double x :: .int i :: .ref a :: rest)) rfl (rest := rest) rfl (by rw [hb]; exact hdg) t
  simp only [arrV_size] at h1
  exact h1 st
theorem vx_arraylengthN (hexec : p.tables.exec = Jvm.exec) (hb : c.code = cc) (hdg : decode cc pc = .ok (.arraylength, 1)) (k : vx_NoteN p l e R s m args below meth c H locs cells slots Q (F0 m pc ls rest)) : W p l e R s m args below meth c H locs cells slots Q (F0 m pc ls (.null :: rest)) := by
  intro T hT X
  obtain ⟨t, st, q⟩ := k T hT X
  exact ⟨t, X.arraylengthNull hexec (g := F0 m pc ls (.null :: rest)) rfl (rest := rest) rfl (by rw [hb]; exact hdg) t st, q⟩
theorem vx_ialoadN (hexec : p.tables.exec = Jvm.exec) (hb : c.code = cc) {i : Int32} (hdg : decode cc pc = .ok (.iaload, 1)) (k : vx_NoteN p l e R s m args below meth c H locs cells slots Q (F0 m pc ls rest)) : W p l e R s m args below meth c H locs cells slots Q (F0 m pc ls (.int i :: .null :: rest)) := by
  intro T hT X
  obtain ⟨t, st, q⟩ := k T hT X
  exact ⟨t, X.ialoadNull hexec (g := F0 m pc ls (.int i :: .null :: rest)) rfl (rest := rest) rfl (by rw [hb]; exact hdg) t st, q⟩
theorem vx_laloadN (hexec : p.tables.exec = Jvm.exec) (hb : c.code = cc) {i : Int32} (hdg : decode cc pc = .ok (.laload, 1)) (k : vx_NoteN p l e R s m args below meth c H locs cells slots Q (F0 m pc ls rest)) : W p l e R s m args below meth c H locs cells slots Q (F0 m pc ls (.int i :: .null :: rest)) := by
  intro T hT X
  obtain ⟨t, st, q⟩ := k T hT X
  exact ⟨t, X.laloadNull hexec (g := F0 m pc ls (.int i :: .null :: rest)) rfl (rest := rest) rfl (by rw [hb]; exact hdg) t st, q⟩
theorem vx_faloadN (hexec : p.tables.exec = Jvm.exec) (hb : c.code = cc) {i : Int32} (hdg : decode cc pc = .ok (.faload, 1)) (k : vx_NoteN p l e R s m args below meth c H locs cells slots Q (F0 m pc ls rest)) : W p l e R s m args below meth c H locs cells slots Q (F0 m pc ls (.int i :: .null :: rest)) := by
  intro T hT X
  obtain ⟨t, st, q⟩ := k T hT X
  exact ⟨t, X.faloadNull hexec (g := F0 m pc ls (.int i :: .null :: rest)) rfl (rest := rest) rfl (by rw [hb]; exact hdg) t st, q⟩
theorem vx_daloadN (hexec : p.tables.exec = Jvm.exec) (hb : c.code = cc) {i : Int32} (hdg : decode cc pc = .ok (.daload, 1)) (k : vx_NoteN p l e R s m args below meth c H locs cells slots Q (F0 m pc ls rest)) : W p l e R s m args below meth c H locs cells slots Q (F0 m pc ls (.int i :: .null :: rest)) := by
  intro T hT X
  obtain ⟨t, st, q⟩ := k T hT X
  exact ⟨t, X.daloadNull hexec (g := F0 m pc ls (.int i :: .null :: rest)) rfl (rest := rest) rfl (by rw [hb]; exact hdg) t st, q⟩
theorem vx_aaloadN (hexec : p.tables.exec = Jvm.exec) (hb : c.code = cc) {i : Int32} (hdg : decode cc pc = .ok (.aaload, 1)) (k : vx_NoteN p l e R s m args below meth c H locs cells slots Q (F0 m pc ls rest)) : W p l e R s m args below meth c H locs cells slots Q (F0 m pc ls (.int i :: .null :: rest)) := by
  intro T hT X
  obtain ⟨t, st, q⟩ := k T hT X
  exact ⟨t, X.aaloadNull hexec (g := F0 m pc ls (.int i :: .null :: rest)) rfl (rest := rest) rfl (by rw [hb]; exact hdg) t st, q⟩
theorem vx_baloadN (hexec : p.tables.exec = Jvm.exec) (hb : c.code = cc) {i : Int32} (hdg : decode cc pc = .ok (.baload, 1)) (k : vx_NoteN p l e R s m args below meth c H locs cells slots Q (F0 m pc ls rest)) : W p l e R s m args below meth c H locs cells slots Q (F0 m pc ls (.int i :: .null :: rest)) := by
  intro T hT X
  obtain ⟨t, st, q⟩ := k T hT X
  exact ⟨t, X.baloadNull hexec (g := F0 m pc ls (.int i :: .null :: rest)) rfl (rest := rest) rfl (by rw [hb]; exact hdg) t st, q⟩
theorem vx_caloadN (hexec : p.tables.exec = Jvm.exec) (hb : c.code = cc) {i : Int32} (hdg : decode cc pc = .ok (.caload, 1)) (k : vx_NoteN p l e R s m args below meth c H locs cells slots Q (F0 m pc ls rest)) : W p l e R s m args below meth c H locs cells slots Q (F0 m pc ls (.int i :: .null :: rest)) := by
  intro T hT X
  obtain ⟨t, st, q⟩ := k T hT X
  exact ⟨t, X.caloadNull hexec (g := F0 m pc ls (.int i :: .null :: rest)) rfl (rest := rest) rfl (by rw [hb]; exact hdg) t st, q⟩
theorem vx_saloadN (hexec : p.tables.exec = Jvm.exec) (hb : c.code = cc) {i : Int32} (hdg : decode cc pc = .ok (.saload, 1)) (k : vx_NoteN p l e R s m args below meth c H locs cells slots Q (F0 m pc ls rest)) : W p l e R s m args below meth c H locs cells slots Q (F0 m pc ls (.int i :: .null :: rest)) := by
  intro T hT X
  obtain ⟨t, st, q⟩ := k T hT X
  exact ⟨t, X.saloadNull hexec (g := F0 m pc ls (.int i :: .null :: rest)) rfl (rest := rest) rfl (by rw [hb]; exact hdg) t st, q⟩
theorem vx_iastoreN (hexec : p.tables.exec = Jvm.exec) (hb : c.code = cc) {x : Int32} {i : Int32} (hdg : decode cc pc = .ok (.iastore, 1)) (k : vx_NoteN p l e R s m args below meth c H locs cells slots Q (F0 m pc ls rest)) : W p l e R s m args below meth c H locs cells slots Q (F0 m pc ls (.int x :: .int i :: .null :: rest)) := by
  intro T hT X
  obtain ⟨t, st, q⟩ := k T hT X
  exact ⟨t, X.iastoreNull hexec (g := F0 m pc ls (.int x :: .int i :: .null :: rest)) rfl (rest := rest) rfl (by rw [hb]; exact hdg) t st, q⟩
theorem vx_lastoreN (hexec : p.tables.exec = Jvm.exec) (hb : c.code = cc) {x : Int64} {i : Int32} (hdg : decode cc pc = .ok (.lastore, 1)) (k : vx_NoteN p l e R s m args below meth c H locs cells slots Q (F0 m pc ls rest)) : W p l e R s m args below meth c H locs cells slots Q (F0 m pc ls (.long x :: .int i :: .null :: rest)) := by
  intro T hT X
  obtain ⟨t, st, q⟩ := k T hT X
  exact ⟨t, X.lastoreNull hexec (g := F0 m pc ls (.long x :: .int i :: .null :: rest)) rfl (rest := rest) rfl (by rw [hb]; exact hdg) t st, q⟩
theorem vx_fastoreN (hexec : p.tables.exec = Jvm.exec) (hb : c.code = cc) {x : UInt32} {i : Int32} (hdg : decode cc pc = .ok (.fastore, 1)) (k : vx_NoteN p l e R s m args below meth c H locs cells slots Q (F0 m pc ls rest)) : W p l e R s m args below meth c H locs cells slots Q (F0 m pc ls (.float x :: .int i :: .null :: rest)) := by
  intro T hT X
  obtain ⟨t, st, q⟩ := k T hT X
  exact ⟨t, X.fastoreNull hexec (g := F0 m pc ls (.float x :: .int i :: .null :: rest)) rfl (rest := rest) rfl (by rw [hb]; exact hdg) t st, q⟩
theorem vx_dastoreN (hexec : p.tables.exec = Jvm.exec) (hb : c.code = cc) {x : UInt64} {i : Int32} (hdg : decode cc pc = .ok (.dastore, 1)) (k : vx_NoteN p l e R s m args below meth c H locs cells slots Q (F0 m pc ls rest)) : W p l e R s m args below meth c H locs cells slots Q (F0 m pc ls (.double x :: .int i :: .null :: rest)) := by
  intro T hT X
  obtain ⟨t, st, q⟩ := k T hT X
  exact ⟨t, X.dastoreNull hexec (g := F0 m pc ls (.double x :: .int i :: .null :: rest)) rfl (rest := rest) rfl (by rw [hb]; exact hdg) t st, q⟩
theorem vx_bastoreN (hexec : p.tables.exec = Jvm.exec) (hb : c.code = cc) {x : Int32} {i : Int32} (hdg : decode cc pc = .ok (.bastore, 1)) (k : vx_NoteN p l e R s m args below meth c H locs cells slots Q (F0 m pc ls rest)) : W p l e R s m args below meth c H locs cells slots Q (F0 m pc ls (.int x :: .int i :: .null :: rest)) := by
  intro T hT X
  obtain ⟨t, st, q⟩ := k T hT X
  exact ⟨t, X.bastoreNull hexec (g := F0 m pc ls (.int x :: .int i :: .null :: rest)) rfl (rest := rest) rfl (by rw [hb]; exact hdg) t st, q⟩
theorem vx_castoreN (hexec : p.tables.exec = Jvm.exec) (hb : c.code = cc) {x : Int32} {i : Int32} (hdg : decode cc pc = .ok (.castore, 1)) (k : vx_NoteN p l e R s m args below meth c H locs cells slots Q (F0 m pc ls rest)) : W p l e R s m args below meth c H locs cells slots Q (F0 m pc ls (.int x :: .int i :: .null :: rest)) := by
  intro T hT X
  obtain ⟨t, st, q⟩ := k T hT X
  exact ⟨t, X.castoreNull hexec (g := F0 m pc ls (.int x :: .int i :: .null :: rest)) rfl (rest := rest) rfl (by rw [hb]; exact hdg) t st, q⟩
theorem vx_sastoreN (hexec : p.tables.exec = Jvm.exec) (hb : c.code = cc) {x : Int32} {i : Int32} (hdg : decode cc pc = .ok (.sastore, 1)) (k : vx_NoteN p l e R s m args below meth c H locs cells slots Q (F0 m pc ls rest)) : W p l e R s m args below meth c H locs cells slots Q (F0 m pc ls (.int x :: .int i :: .null :: rest)) := by
  intro T hT X
  obtain ⟨t, st, q⟩ := k T hT X
  exact ⟨t, X.sastoreNull hexec (g := F0 m pc ls (.int x :: .int i :: .null :: rest)) rfl (rest := rest) rfl (by rw [hb]; exact hdg) t st, q⟩
theorem vx_invokeN {own C : String} {index maxL : Nat} {y : MethodName} {bytes : ByteArray} {ret : Option FieldType} (hexec : p.tables.exec = Jvm.exec) (hb : c.code = cc) (hown : s.vm.findClass own = some m.cls) (hlink : (Cond.methodLink own index y).before args s = true) (hinst : (Cond.instanceMethod y).before args s = true) (hcode : (Cond.code y bytes maxL ret).before args s = true) (hsel : (Cond.selects C y y).before args s = true)
    (hx : y.cls ≠ "java/lang/invoke/MethodHandle" ∧ y.cls ≠ "java/lang/invoke/VarHandle") {As : List Value} (hlen : (parseMethodDescriptor y.desc).map (fun d => d.parameters.length) = some As.length) (hdg : decode cc pc = .ok (.invokevirtual index, 3))
    (k : vx_NoteN p l e R s m args below meth c H locs cells slots Q (F0 m pc ls rest)) {st0 : List Value} (hst : st0 = As.reverse ++ .null :: rest) : W p l e R s m args below meth c H locs cells slots Q (F0 m pc ls st0) := by
  intro T hT X
  obtain ⟨r0, r, hn, hrm, hstR, hsigR⟩ := va_Decl.of hinst hcode
  obtain ⟨c2, r2, m2, q1, q2, q3, q4, kP, hkP, hkPi⟩ := Cond.selects_spec hsel
  cases hn.symm.trans q3
  have hl9 : As.length = r.sig.parameters.length := by
    rw [hsigR] at hlen
    exact (Option.some.inj hlen).symm
  obtain ⟨vm', X1, st1⟩ := X.invokevirtualNull hexec hown hlink hn hrm hstR hkP hkPi hx (g := F0 m pc ls st0) rfl (argsL := As) (rest := rest) hl9 hst (by rw [hb]; exact hdg)
  obtain ⟨t, st, q⟩ := k (T.setVm vm') hT X1
  exact ⟨t, st1 t st, q⟩
theorem vx_newarrayZ {atype : ArrayType} (hexec : p.tables.exec = Jvm.exec) (hb : c.code = cc) {n : Int32} (h0 : n < 0) (hdg : decode cc pc = .ok (.newarray atype, 2)) (k : ∀ tx : String, tx = toString n → vx_Note p l e R s m args below meth c H locs cells slots Q (F0 m pc ls rest) "java/lang/NegativeArraySizeException" tx) : W p l e R s m args below meth c H locs cells slots Q (F0 m pc ls (.int n :: rest)) := by
  intro T hT X
  obtain ⟨t, st, q⟩ := k _ rfl T hT X
  exact ⟨t, X.newarrayNegative hexec (g := F0 m pc ls (.int n :: rest)) rfl h0 (rest := rest) rfl (by rw [hb]; exact hdg) t st, q⟩
end
end VXM
/-! ===== END ===== -/

/-! ===== BEGIN printed: names, fields, word lists, decode rows ===== -/
def RX0 : String := "Swapyard$Frames"
def TX0 : u_T := fun k => match k with
  | 0 => ("Swapyard$Frames", "held", "[LSwapyard$Page;", true)
  | 1 => ("Swapyard$Frames", "count", "I", false)
  | _ => ("Swapyard$Frames", "hand", "I", false)
def tyX0 : Nat → FieldType := fun k => match k with
  | 0 => .array (.object "Swapyard$Page")
  | 1 => .int
  | _ => .int
abbrev wsX00 : List Cond := u_ws RX0 TX0 3
theorem nmX0 : ∀ a, a < 3 → ∀ b, b < 3 → a ≠ b → (TX0 a).2.1 ≠ (TX0 b).2.1 := by decide +kernel
theorem tyX0_ok : ∀ k, k < 3 → parseFieldDescriptor (TX0 k).2.2.1 = some (tyX0 k) := by decide +kernel
abbrev cX0_init : ByteArray := prog_2_method_1_code
def yX0_init : MethodName := ⟨RX0, "<init>", "()V"⟩
abbrev cX0_lowestFree : ByteArray := prog_2_method_2_code
def yX0_lowestFree : MethodName := ⟨RX0, "lowestFree", "()I"⟩
abbrev cX0_countFree : ByteArray := prog_2_method_3_code
def yX0_countFree : MethodName := ⟨RX0, "countFree", "()I"⟩
abbrev cX0_put : ByteArray := prog_2_method_4_code
def yX0_put : MethodName := ⟨RX0, "put", "(LSwapyard$Page;I)V"⟩
abbrev cX0_takeOut : ByteArray := prog_2_method_5_code
def yX0_takeOut : MethodName := ⟨RX0, "takeOut", "(I)LSwapyard$Page;"⟩
abbrev cX0_takeOutByClock : ByteArray := prog_2_method_6_code
def yX0_takeOutByClock : MethodName := ⟨RX0, "takeOutByClock", "()LSwapyard$Page;"⟩
abbrev cX0_takeReference : ByteArray := prog_2_method_7_code
def yX0_takeReference : MethodName := ⟨RX0, "takeReference", "(I)Z"⟩
abbrev cX0_resize : ByteArray := prog_2_method_8_code
def yX0_resize : MethodName := ⟨RX0, "resize", "(I)V"⟩
def RX1 : String := "Swapyard$History"
def TX1 : u_T := fun k => match k with
  | 0 => ("Swapyard$History", "events", "[I", true)
  | 1 => ("Swapyard$History", "count", "I", false)
  | _ => ("Swapyard$History", "replayed", "[C", true)
def tyX1 : Nat → FieldType := fun k => match k with
  | 0 => .array .int
  | 1 => .int
  | _ => .array .char
abbrev wsX10 : List Cond := u_ws RX1 TX1 3
theorem nmX1 : ∀ a, a < 3 → ∀ b, b < 3 → a ≠ b → (TX1 a).2.1 ≠ (TX1 b).2.1 := by decide +kernel
theorem tyX1_ok : ∀ k, k < 3 → parseFieldDescriptor (TX1 k).2.2.1 = some (tyX1 k) := by decide +kernel
abbrev cX1_init : ByteArray := prog_3_method_1_code
def yX1_init : MethodName := ⟨RX1, "<init>", "()V"⟩
abbrev cX1_record : ByteArray := prog_3_method_2_code
def yX1_record : MethodName := ⟨RX1, "record", "(IC)V"⟩
abbrev cX1_replay : ByteArray := prog_3_method_3_code
def yX1_replay : MethodName := ⟨RX1, "replay", "()V"⟩
abbrev cX1_replayedPlace : ByteArray := prog_3_method_4_code
def yX1_replayedPlace : MethodName := ⟨RX1, "replayedPlace", "(I)C"⟩
def RX2 : String := "Swapyard$Page"
def TX2 : u_T := fun k => match k with
  | 0 => ("Swapyard$Page", "id", "I", true)
  | 1 => ("Swapyard$Page", "history", "LSwapyard$History;", true)
  | 2 => ("Swapyard$Page", "size", "I", false)
  | 3 => ("Swapyard$Page", "place", "C", false)
  | 4 => ("Swapyard$Page", "frame", "I", false)
  | _ => ("Swapyard$Page", "referenced", "Z", false)
def tyX2 : Nat → FieldType := fun k => match k with
  | 0 => .int
  | 1 => .object "Swapyard$History"
  | 2 => .int
  | 3 => .char
  | 4 => .int
  | _ => .boolean
abbrev wsX20 : List Cond := u_ws RX2 TX2 6
theorem nmX2 : ∀ a, a < 6 → ∀ b, b < 6 → a ≠ b → (TX2 a).2.1 ≠ (TX2 b).2.1 := by decide +kernel
theorem tyX2_ok : ∀ k, k < 6 → parseFieldDescriptor (TX2 k).2.2.1 = some (tyX2 k) := by decide +kernel
abbrev cX2_init : ByteArray := prog_4_method_1_code
def yX2_init : MethodName := ⟨RX2, "<init>", "(ILSwapyard$History;)V"⟩
abbrev cX2_moveIntoFrame : ByteArray := prog_4_method_2_code
def yX2_moveIntoFrame : MethodName := ⟨RX2, "moveIntoFrame", "(I)V"⟩
abbrev cX2_moveTo : ByteArray := prog_4_method_3_code
def yX2_moveTo : MethodName := ⟨RX2, "moveTo", "(C)V"⟩
def RX3 : String := "Swapyard$RecentStalls"
def TX3 : u_T := fun k => match k with
  | _ => ("Swapyard$RecentStalls", "counts", "[I", true)
def tyX3 : Nat → FieldType := fun k => match k with
  | _ => .array .int
abbrev wsX30 : List Cond := u_ws RX3 TX3 1
theorem nmX3 : ∀ a, a < 1 → ∀ b, b < 1 → a ≠ b → (TX3 a).2.1 ≠ (TX3 b).2.1 := by decide +kernel
theorem tyX3_ok : ∀ k, k < 1 → parseFieldDescriptor (TX3 k).2.2.1 = some (tyX3 k) := by decide +kernel
abbrev cX3_init : ByteArray := prog_5_method_1_code
def yX3_init : MethodName := ⟨RX3, "<init>", "()V"⟩
abbrev cX3_add : ByteArray := prog_5_method_2_code
def yX3_add : MethodName := ⟨RX3, "add", "(I)V"⟩
abbrev cX3_sum : ByteArray := prog_5_method_3_code
def yX3_sum : MethodName := ⟨RX3, "sum", "()I"⟩
abbrev cX3_forget : ByteArray := prog_5_method_4_code
def yX3_forget : MethodName := ⟨RX3, "forget", "()V"⟩
abbrev cX3_beginTick : ByteArray := prog_5_method_5_code
def yX3_beginTick : MethodName := ⟨RX3, "beginTick", "()V"⟩
def RX4 : String := "Swapyard$Service"
def TX4 : u_T := fun k => match k with
  | 0 => ("Swapyard$Service", "number", "I", true)
  | 1 => ("Swapyard$Service", "weight", "I", true)
  | 2 => ("Swapyard$Service", "policy", "C", true)
  | 3 => ("Swapyard$Service", "delay", "I", true)
  | 4 => ("Swapyard$Service", "pages", "[LSwapyard$Page;", true)
  | 5 => ("Swapyard$Service", "needs", "I", false)
  | 6 => ("Swapyard$Service", "dead", "Z", false)
  | 7 => ("Swapyard$Service", "killedAt", "I", false)
  | 8 => ("Swapyard$Service", "starts", "I", false)
  | _ => ("Swapyard$Service", "stalls", "J", false)
def tyX4 : Nat → FieldType := fun k => match k with
  | 0 => .int
  | 1 => .int
  | 2 => .char
  | 3 => .int
  | 4 => .array (.object "Swapyard$Page")
  | 5 => .int
  | 6 => .boolean
  | 7 => .int
  | 8 => .int
  | _ => .long
abbrev wsX40 : List Cond := u_ws RX4 TX4 10
theorem nmX4 : ∀ a, a < 10 → ∀ b, b < 10 → a ≠ b → (TX4 a).2.1 ≠ (TX4 b).2.1 := by decide +kernel
theorem tyX4_ok : ∀ k, k < 10 → parseFieldDescriptor (TX4 k).2.2.1 = some (tyX4 k) := by decide +kernel
abbrev cX4_init : ByteArray := prog_6_method_1_code
def yX4_init : MethodName := ⟨RX4, "<init>", "(IICILSwapyard$History;)V"⟩
abbrev cX4_countPages : ByteArray := prog_6_method_2_code
def yX4_countPages : MethodName := ⟨RX4, "countPages", "(C)I"⟩
abbrev cX4_killScore : ByteArray := prog_6_method_3_code
def yX4_killScore : MethodName := ⟨RX4, "killScore", "()I"⟩
abbrev cX4_delayLeft : ByteArray := prog_6_method_4_code
def yX4_delayLeft : MethodName := ⟨RX4, "delayLeft", "(I)I"⟩
def RX5 : String := "Swapyard$Store"
def TX5 : u_T := fun k => match k with
  | 0 => ("Swapyard$Store", "order", "Ljava/util/ArrayList;", true)
  | _ => ("Swapyard$Store", "room", "I", false)
def tyX5 : Nat → FieldType := fun k => match k with
  | 0 => .object "java/util/ArrayList"
  | _ => .int
abbrev wsX50 : List Cond := u_ws RX5 TX5 2
theorem nmX5 : ∀ a, a < 2 → ∀ b, b < 2 → a ≠ b → (TX5 a).2.1 ≠ (TX5 b).2.1 := by decide +kernel
theorem tyX5_ok : ∀ k, k < 2 → parseFieldDescriptor (TX5 k).2.2.1 = some (tyX5 k) := by decide +kernel
abbrev cX5_init : ByteArray := prog_7_method_1_code
def yX5_init : MethodName := ⟨RX5, "<init>", "()V"⟩
abbrev cX5_takenRoom : ByteArray := prog_7_method_2_code
def yX5_takenRoom : MethodName := ⟨RX5, "takenRoom", "()I"⟩
abbrev cX5_takeIn : ByteArray := prog_7_method_3_code
def yX5_takeIn : MethodName := ⟨RX5, "takeIn", "(LSwapyard$Page;)I"⟩
abbrev cX5_makeRoomFor : ByteArray := prog_7_method_4_code
def yX5_makeRoomFor : MethodName := ⟨RX5, "makeRoomFor", "(I)I"⟩
abbrev cX5_drop : ByteArray := prog_7_method_5_code
def yX5_drop : MethodName := ⟨RX5, "drop", "(LSwapyard$Page;)V"⟩
def RX6 : String := "Swapyard"
def TX6 : u_T := fun k => match k with
  | 0 => ("Swapyard", "history", "LSwapyard$History;", true)
  | 1 => ("Swapyard", "frames", "LSwapyard$Frames;", true)
  | 2 => ("Swapyard", "store", "LSwapyard$Store;", true)
  | 3 => ("Swapyard", "recentStalls", "LSwapyard$RecentStalls;", true)
  | 4 => ("Swapyard", "services", "Ljava/util/ArrayList;", true)
  | 5 => ("Swapyard", "limit", "I", false)
  | 6 => ("Swapyard", "time", "I", false)
  | 7 => ("Swapyard", "deaths", "I", false)
  | 8 => ("Swapyard", "touches", "I", false)
  | 9 => ("Swapyard", "smoothTouches", "I", false)
  | _ => ("Swapyard", "touchStalls", "J", false)
def tyX6 : Nat → FieldType := fun k => match k with
  | 0 => .object "Swapyard$History"
  | 1 => .object "Swapyard$Frames"
  | 2 => .object "Swapyard$Store"
  | 3 => .object "Swapyard$RecentStalls"
  | 4 => .object "java/util/ArrayList"
  | 5 => .int
  | 6 => .int
  | 7 => .int
  | 8 => .int
  | 9 => .int
  | _ => .long
abbrev wsX60 : List Cond := u_ws RX6 TX6 11
theorem nmX6 : ∀ a, a < 11 → ∀ b, b < 11 → a ≠ b → (TX6 a).2.1 ≠ (TX6 b).2.1 := by decide +kernel
theorem tyX6_ok : ∀ k, k < 11 → parseFieldDescriptor (TX6 k).2.2.1 = some (tyX6 k) := by decide +kernel
abbrev cX6_init : ByteArray := prog_1_method_1_code
def yX6_init : MethodName := ⟨RX6, "<init>", "()V"⟩
abbrev cX6_addService : ByteArray := prog_1_method_2_code
def yX6_addService : MethodName := ⟨RX6, "addService", "(ICI)I"⟩
abbrev cX6_addNeed : ByteArray := prog_1_method_3_code
def yX6_addNeed : MethodName := ⟨RX6, "addNeed", "(II)I"⟩
abbrev cX6_setSize : ByteArray := prog_1_method_4_code
def yX6_setSize : MethodName := ⟨RX6, "setSize", "(III)I"⟩
abbrev cX6_setFrames : ByteArray := prog_1_method_5_code
def yX6_setFrames : MethodName := ⟨RX6, "setFrames", "(I)I"⟩
abbrev cX6_setRoom : ByteArray := prog_1_method_6_code
def yX6_setRoom : MethodName := ⟨RX6, "setRoom", "(I)I"⟩
abbrev cX6_setLimit : ByteArray := prog_1_method_7_code
def yX6_setLimit : MethodName := ⟨RX6, "setLimit", "(I)I"⟩
abbrev cX6_touch : ByteArray := prog_1_method_8_code
def yX6_touch : MethodName := ⟨RX6, "touch", "(II)I"⟩
abbrev cX6_tick : ByteArray := prog_1_method_9_code
def yX6_tick : MethodName := ⟨RX6, "tick", "(I)I"⟩
abbrev cX6_time : ByteArray := prog_1_method_10_code
def yX6_time : MethodName := ⟨RX6, "time", "()I"⟩
abbrev cX6_placeOf : ByteArray := prog_1_method_11_code
def yX6_placeOf : MethodName := ⟨RX6, "placeOf", "(II)C"⟩
abbrev cX6_placeByEvents : ByteArray := prog_1_method_12_code
def yX6_placeByEvents : MethodName := ⟨RX6, "placeByEvents", "(II)C"⟩
abbrev cX6_frameOf : ByteArray := prog_1_method_13_code
def yX6_frameOf : MethodName := ⟨RX6, "frameOf", "(II)I"⟩
abbrev cX6_isReferenced : ByteArray := prog_1_method_14_code
def yX6_isReferenced : MethodName := ⟨RX6, "isReferenced", "(II)Z"⟩
abbrev cX6_hand : ByteArray := prog_1_method_15_code
def yX6_hand : MethodName := ⟨RX6, "hand", "()I"⟩
abbrev cX6_free : ByteArray := prog_1_method_16_code
def yX6_free : MethodName := ⟨RX6, "free", "()I"⟩
abbrev cX6_stored : ByteArray := prog_1_method_17_code
def yX6_stored : MethodName := ⟨RX6, "stored", "()I"⟩
abbrev cX6_storedAt : ByteArray := prog_1_method_18_code
def yX6_storedAt : MethodName := ⟨RX6, "storedAt", "(I)I"⟩
abbrev cX6_onDisk : ByteArray := prog_1_method_19_code
def yX6_onDisk : MethodName := ⟨RX6, "onDisk", "()I"⟩
abbrev cX6_pagesIn : ByteArray := prog_1_method_20_code
def yX6_pagesIn : MethodName := ⟨RX6, "pagesIn", "(IC)I"⟩
abbrev cX6_pressure : ByteArray := prog_1_method_21_code
def yX6_pressure : MethodName := ⟨RX6, "pressure", "()I"⟩
abbrev cX6_stallsOf : ByteArray := prog_1_method_22_code
def yX6_stallsOf : MethodName := ⟨RX6, "stallsOf", "(I)J"⟩
abbrev cX6_stateOf : ByteArray := prog_1_method_23_code
def yX6_stateOf : MethodName := ⟨RX6, "stateOf", "(I)C"⟩
abbrev cX6_waitsFor : ByteArray := prog_1_method_24_code
def yX6_waitsFor : MethodName := ⟨RX6, "waitsFor", "(I)I"⟩
abbrev cX6_isNeeded : ByteArray := prog_1_method_25_code
def yX6_isNeeded : MethodName := ⟨RX6, "isNeeded", "(I)Z"⟩
abbrev cX6_startsIn : ByteArray := prog_1_method_26_code
def yX6_startsIn : MethodName := ⟨RX6, "startsIn", "(I)I"⟩
abbrev cX6_starts : ByteArray := prog_1_method_27_code
def yX6_starts : MethodName := ⟨RX6, "starts", "(I)I"⟩
abbrev cX6_score : ByteArray := prog_1_method_28_code
def yX6_score : MethodName := ⟨RX6, "score", "(I)I"⟩
abbrev cX6_victim : ByteArray := prog_1_method_29_code
def yX6_victim : MethodName := ⟨RX6, "victim", "()I"⟩
abbrev cX6_deaths : ByteArray := prog_1_method_30_code
def yX6_deaths : MethodName := ⟨RX6, "deaths", "()I"⟩
abbrev cX6_smoothShare : ByteArray := prog_1_method_31_code
def yX6_smoothShare : MethodName := ⟨RX6, "smoothShare", "()F"⟩
abbrev cX6_meanStalls : ByteArray := prog_1_method_32_code
def yX6_meanStalls : MethodName := ⟨RX6, "meanStalls", "()D"⟩
abbrev cX6_isSound : ByteArray := prog_1_method_33_code
def yX6_isSound : MethodName := ⟨RX6, "isSound", "()Z"⟩
abbrev cX6_requireRange : ByteArray := prog_1_method_34_code
def yX6_requireRange : MethodName := ⟨RX6, "requireRange", "(III)V"⟩
abbrev cX6_requireService : ByteArray := prog_1_method_35_code
def yX6_requireService : MethodName := ⟨RX6, "requireService", "(I)V"⟩
abbrev cX6_serviceAt : ByteArray := prog_1_method_36_code
def yX6_serviceAt : MethodName := ⟨RX6, "serviceAt", "(I)LSwapyard$Service;"⟩
abbrev cX6_pageAt : ByteArray := prog_1_method_37_code
def yX6_pageAt : MethodName := ⟨RX6, "pageAt", "(II)LSwapyard$Page;"⟩
abbrev cX6_hasBit : ByteArray := prog_1_method_38_code
def yX6_hasBit : MethodName := ⟨RX6, "hasBit", "(II)Z"⟩
abbrev cX6_allNeedsOf : ByteArray := prog_1_method_39_code
def yX6_allNeedsOf : MethodName := ⟨RX6, "allNeedsOf", "(I)I"⟩
abbrev cX6_isRunning : ByteArray := prog_1_method_40_code
def yX6_isRunning : MethodName := ⟨RX6, "isRunning", "(I)Z"⟩
abbrev cX6_isNeededByLiving : ByteArray := prog_1_method_41_code
def yX6_isNeededByLiving : MethodName := ⟨RX6, "isNeededByLiving", "(I)Z"⟩
abbrev cX6_bringIntoFrame : ByteArray := prog_1_method_42_code
def yX6_bringIntoFrame : MethodName := ⟨RX6, "bringIntoFrame", "(LSwapyard$Page;)I"⟩
abbrev cX6_stallsFrom : ByteArray := prog_1_method_43_code
def yX6_stallsFrom : MethodName := ⟨RX6, "stallsFrom", "(C)I"⟩
abbrev cX6_detach : ByteArray := prog_1_method_44_code
def yX6_detach : MethodName := ⟨RX6, "detach", "(LSwapyard$Page;)V"⟩
abbrev cX6_clearFrame : ByteArray := prog_1_method_45_code
def yX6_clearFrame : MethodName := ⟨RX6, "clearFrame", "()I"⟩
abbrev cX6_countTouch : ByteArray := prog_1_method_46_code
def yX6_countTouch : MethodName := ⟨RX6, "countTouch", "(LSwapyard$Service;I)V"⟩
abbrev cX6_passOneTick : ByteArray := prog_1_method_47_code
def yX6_passOneTick : MethodName := ⟨RX6, "passOneTick", "()V"⟩
abbrev cX6_nextVictim : ByteArray := prog_1_method_48_code
def yX6_nextVictim : MethodName := ⟨RX6, "nextVictim", "()LSwapyard$Service;"⟩
abbrev cX6_killNextVictim : ByteArray := prog_1_method_49_code
def yX6_killNextVictim : MethodName := ⟨RX6, "killNextVictim", "()V"⟩
abbrev cX6_startDeadServices : ByteArray := prog_1_method_50_code
def yX6_startDeadServices : MethodName := ⟨RX6, "startDeadServices", "()V"⟩
abbrev cX6_placesAgree : ByteArray := prog_1_method_51_code
def yX6_placesAgree : MethodName := ⟨RX6, "placesAgree", "()Z"⟩
abbrev cX6_framesAreSingle : ByteArray := prog_1_method_52_code
def yX6_framesAreSingle : MethodName := ⟨RX6, "framesAreSingle", "()Z"⟩
def RX7 : String := "SwapyardModel"
def TX7 : u_T := fun k => match k with
  | 0 => ("SwapyardModel", "services", "I", false)
  | 1 => ("SwapyardModel", "weights", "[I", true)
  | 2 => ("SwapyardModel", "policies", "[C", true)
  | 3 => ("SwapyardModel", "delays", "[I", true)
  | 4 => ("SwapyardModel", "areDead", "[Z", true)
  | 5 => ("SwapyardModel", "killedAt", "[I", true)
  | 6 => ("SwapyardModel", "started", "[I", true)
  | 7 => ("SwapyardModel", "needs", "[I", true)
  | 8 => ("SwapyardModel", "stalls", "[J", true)
  | 9 => ("SwapyardModel", "sizes", "[I", true)
  | 10 => ("SwapyardModel", "places", "[I", true)
  | 11 => ("SwapyardModel", "frames", "I", false)
  | 12 => ("SwapyardModel", "inFrames", "[I", true)
  | 13 => ("SwapyardModel", "areReferenced", "[Z", true)
  | 14 => ("SwapyardModel", "hand", "I", false)
  | 15 => ("SwapyardModel", "room", "I", false)
  | 16 => ("SwapyardModel", "stored", "I", false)
  | 17 => ("SwapyardModel", "store", "[I", true)
  | 18 => ("SwapyardModel", "limit", "I", false)
  | 19 => ("SwapyardModel", "time", "I", false)
  | 20 => ("SwapyardModel", "window", "[I", true)
  | 21 => ("SwapyardModel", "made", "I", false)
  | 22 => ("SwapyardModel", "touches", "I", false)
  | 23 => ("SwapyardModel", "smooth", "I", false)
  | 24 => ("SwapyardModel", "allStalls", "J", false)
  | 25 => ("SwapyardModel", "deaths", "I", false)
  | _ => ("SwapyardModel", "code", "I", false)
def tyX7 : Nat → FieldType := fun k => match k with
  | 0 => .int
  | 1 => .array .int
  | 2 => .array .char
  | 3 => .array .int
  | 4 => .array .boolean
  | 5 => .array .int
  | 6 => .array .int
  | 7 => .array .int
  | 8 => .array .long
  | 9 => .array .int
  | 10 => .array .int
  | 11 => .int
  | 12 => .array .int
  | 13 => .array .boolean
  | 14 => .int
  | 15 => .int
  | 16 => .int
  | 17 => .array .int
  | 18 => .int
  | 19 => .int
  | 20 => .array .int
  | 21 => .int
  | 22 => .int
  | 23 => .int
  | 24 => .long
  | 25 => .int
  | _ => .int
abbrev wsX70 : List Cond := u_ws RX7 TX7 27
theorem nmX7 : ∀ a, a < 27 → ∀ b, b < 27 → a ≠ b → (TX7 a).2.1 ≠ (TX7 b).2.1 := by decide +kernel
theorem tyX7_ok : ∀ k, k < 27 → parseFieldDescriptor (TX7 k).2.2.1 = some (tyX7 k) := by decide +kernel
abbrev cX7_init : ByteArray := prog_9_method_1_code
def yX7_init : MethodName := ⟨RX7, "<init>", "()V"⟩
abbrev cX7_thrown : ByteArray := prog_9_method_2_code
def yX7_thrown : MethodName := ⟨RX7, "thrown", "()I"⟩
abbrev cX7_fails : ByteArray := prog_9_method_3_code
def yX7_fails : MethodName := ⟨RX7, "fails", "(I)Z"⟩
abbrev cX7_tells : ByteArray := prog_9_method_4_code
def yX7_tells : MethodName := ⟨RX7, "tells", "(I)I"⟩
abbrev cX7_in : ByteArray := prog_9_method_5_code
def yX7_in : MethodName := ⟨RX7, "in", "(III)Z"⟩
abbrev cX7_isNone : ByteArray := prog_9_method_6_code
def yX7_isNone : MethodName := ⟨RX7, "isNone", "(I)Z"⟩
abbrev cX7_isNoPage : ByteArray := prog_9_method_7_code
def yX7_isNoPage : MethodName := ⟨RX7, "isNoPage", "(II)Z"⟩
abbrev cX7_isNobody : ByteArray := prog_9_method_8_code
def yX7_isNobody : MethodName := ⟨RX7, "isNobody", "(I)Z"⟩
abbrev cX7_addService : ByteArray := prog_9_method_9_code
def yX7_addService : MethodName := ⟨RX7, "addService", "(ICI)I"⟩
abbrev cX7_needs : ByteArray := prog_9_method_10_code
def yX7_needs : MethodName := ⟨RX7, "needs", "(II)Z"⟩
abbrev cX7_needsAtLast : ByteArray := prog_9_method_11_code
def yX7_needsAtLast : MethodName := ⟨RX7, "needsAtLast", "(II)Z"⟩
abbrev cX7_addNeed : ByteArray := prog_9_method_12_code
def yX7_addNeed : MethodName := ⟨RX7, "addNeed", "(II)I"⟩
abbrev cX7_runs : ByteArray := prog_9_method_13_code
def yX7_runs : MethodName := ⟨RX7, "runs", "(I)Z"⟩
abbrev cX7_isWanted : ByteArray := prog_9_method_14_code
def yX7_isWanted : MethodName := ⟨RX7, "isWanted", "(I)Z"⟩
abbrev cX7_setSize : ByteArray := prog_9_method_15_code
def yX7_setSize : MethodName := ⟨RX7, "setSize", "(III)I"⟩
abbrev cX7_taken : ByteArray := prog_9_method_16_code
def yX7_taken : MethodName := ⟨RX7, "taken", "()I"⟩
abbrev cX7_unstores : ByteArray := prog_9_method_17_code
def yX7_unstores : MethodName := ⟨RX7, "unstores", "(I)V"⟩
abbrev cX7_makesRoom : ByteArray := prog_9_method_18_code
def yX7_makesRoom : MethodName := ⟨RX7, "makesRoom", "(I)V"⟩
abbrev cX7_takesOut : ByteArray := prog_9_method_19_code
def yX7_takesOut : MethodName := ⟨RX7, "takesOut", "(I)V"⟩
abbrev cX7_setFrames : ByteArray := prog_9_method_20_code
def yX7_setFrames : MethodName := ⟨RX7, "setFrames", "(I)I"⟩
abbrev cX7_setRoom : ByteArray := prog_9_method_21_code
def yX7_setRoom : MethodName := ⟨RX7, "setRoom", "(I)I"⟩
abbrev cX7_setLimit : ByteArray := prog_9_method_22_code
def yX7_setLimit : MethodName := ⟨RX7, "setLimit", "(I)I"⟩
abbrev cX7_freeFrame : ByteArray := prog_9_method_23_code
def yX7_freeFrame : MethodName := ⟨RX7, "freeFrame", "()I"⟩
abbrev cX7_clears : ByteArray := prog_9_method_24_code
def yX7_clears : MethodName := ⟨RX7, "clears", "()V"⟩
abbrev cX7_frameWith : ByteArray := prog_9_method_25_code
def yX7_frameWith : MethodName := ⟨RX7, "frameWith", "(I)I"⟩
abbrev cX7_leaves : ByteArray := prog_9_method_26_code
def yX7_leaves : MethodName := ⟨RX7, "leaves", "(I)V"⟩
abbrev cX7_comes : ByteArray := prog_9_method_27_code
def yX7_comes : MethodName := ⟨RX7, "comes", "(I)V"⟩
abbrev cX7_touch : ByteArray := prog_9_method_28_code
def yX7_touch : MethodName := ⟨RX7, "touch", "(II)I"⟩
abbrev cX7_pressing : ByteArray := prog_9_method_29_code
def yX7_pressing : MethodName := ⟨RX7, "pressing", "()I"⟩
abbrev cX7_inPlace : ByteArray := prog_9_method_30_code
def yX7_inPlace : MethodName := ⟨RX7, "inPlace", "(II)I"⟩
abbrev cX7_scoreOf : ByteArray := prog_9_method_31_code
def yX7_scoreOf : MethodName := ⟨RX7, "scoreOf", "(I)I"⟩
abbrev cX7_worst : ByteArray := prog_9_method_32_code
def yX7_worst : MethodName := ⟨RX7, "worst", "()I"⟩
abbrev cX7_kills : ByteArray := prog_9_method_33_code
def yX7_kills : MethodName := ⟨RX7, "kills", "(I)V"⟩
abbrev cX7_ticks : ByteArray := prog_9_method_34_code
def yX7_ticks : MethodName := ⟨RX7, "ticks", "()I"⟩
abbrev cX7_tick : ByteArray := prog_9_method_35_code
def yX7_tick : MethodName := ⟨RX7, "tick", "(I)I"⟩
abbrev cX7_time : ByteArray := prog_9_method_36_code
def yX7_time : MethodName := ⟨RX7, "time", "()I"⟩
abbrev cX7_placed : ByteArray := prog_9_method_37_code
def yX7_placed : MethodName := ⟨RX7, "placed", "(II)C"⟩
abbrev cX7_placeOf : ByteArray := prog_9_method_38_code
def yX7_placeOf : MethodName := ⟨RX7, "placeOf", "(II)C"⟩
abbrev cX7_placeByEvents : ByteArray := prog_9_method_39_code
def yX7_placeByEvents : MethodName := ⟨RX7, "placeByEvents", "(II)C"⟩
abbrev cX7_frameOf : ByteArray := prog_9_method_40_code
def yX7_frameOf : MethodName := ⟨RX7, "frameOf", "(II)I"⟩
abbrev cX7_isReferenced : ByteArray := prog_9_method_41_code
def yX7_isReferenced : MethodName := ⟨RX7, "isReferenced", "(II)Z"⟩
abbrev cX7_hand : ByteArray := prog_9_method_42_code
def yX7_hand : MethodName := ⟨RX7, "hand", "()I"⟩
abbrev cX7_free : ByteArray := prog_9_method_43_code
def yX7_free : MethodName := ⟨RX7, "free", "()I"⟩
abbrev cX7_stored : ByteArray := prog_9_method_44_code
def yX7_stored : MethodName := ⟨RX7, "stored", "()I"⟩
abbrev cX7_storedAt : ByteArray := prog_9_method_45_code
def yX7_storedAt : MethodName := ⟨RX7, "storedAt", "(I)I"⟩
abbrev cX7_onDisk : ByteArray := prog_9_method_46_code
def yX7_onDisk : MethodName := ⟨RX7, "onDisk", "()I"⟩
abbrev cX7_pagesIn : ByteArray := prog_9_method_47_code
def yX7_pagesIn : MethodName := ⟨RX7, "pagesIn", "(IC)I"⟩
abbrev cX7_pressure : ByteArray := prog_9_method_48_code
def yX7_pressure : MethodName := ⟨RX7, "pressure", "()I"⟩
abbrev cX7_stallsOf : ByteArray := prog_9_method_49_code
def yX7_stallsOf : MethodName := ⟨RX7, "stallsOf", "(I)J"⟩
abbrev cX7_stateOf : ByteArray := prog_9_method_50_code
def yX7_stateOf : MethodName := ⟨RX7, "stateOf", "(I)C"⟩
abbrev cX7_waitsFor : ByteArray := prog_9_method_51_code
def yX7_waitsFor : MethodName := ⟨RX7, "waitsFor", "(I)I"⟩
abbrev cX7_isNeeded : ByteArray := prog_9_method_52_code
def yX7_isNeeded : MethodName := ⟨RX7, "isNeeded", "(I)Z"⟩
abbrev cX7_startsIn : ByteArray := prog_9_method_53_code
def yX7_startsIn : MethodName := ⟨RX7, "startsIn", "(I)I"⟩
abbrev cX7_starts : ByteArray := prog_9_method_54_code
def yX7_starts : MethodName := ⟨RX7, "starts", "(I)I"⟩
abbrev cX7_score : ByteArray := prog_9_method_55_code
def yX7_score : MethodName := ⟨RX7, "score", "(I)I"⟩
abbrev cX7_victim : ByteArray := prog_9_method_56_code
def yX7_victim : MethodName := ⟨RX7, "victim", "()I"⟩
abbrev cX7_deaths : ByteArray := prog_9_method_57_code
def yX7_deaths : MethodName := ⟨RX7, "deaths", "()I"⟩
abbrev cX7_smoothShare : ByteArray := prog_9_method_58_code
def yX7_smoothShare : MethodName := ⟨RX7, "smoothShare", "()F"⟩
abbrev cX7_meanStalls : ByteArray := prog_9_method_59_code
def yX7_meanStalls : MethodName := ⟨RX7, "meanStalls", "()D"⟩
abbrev cX7_isSound : ByteArray := prog_9_method_60_code
def yX7_isSound : MethodName := ⟨RX7, "isSound", "()Z"⟩
def RJx145de : String := "java/io/Serializable"
def TJx145de : u_T := fun k => match k with
  | _ => ("", "", "", false)
def tyJx145de : Nat → FieldType := fun k => match k with
  | _ => .int
abbrev wsJx145de0 : List Cond := u_ws RJx145de TJx145de 0
theorem nmJx145de : ∀ a, a < 0 → ∀ b, b < 0 → a ≠ b → (TJx145de a).2.1 ≠ (TJx145de b).2.1 := by decide +kernel
theorem tyJx145de_ok : ∀ k, k < 0 → parseFieldDescriptor (TJx145de k).2.2.1 = some (tyJx145de k) := by decide +kernel
def RJx00060 : String := "java/lang/ArrayIndexOutOfBoundsException"
def TJx00060 : u_T := fun k => match k with
  | 0 => ("java/lang/Throwable", "backtrace", "Ljava/lang/Object;", false)
  | 1 => ("java/lang/Throwable", "detailMessage", "Ljava/lang/String;", false)
  | 2 => ("java/lang/Throwable", "cause", "Ljava/lang/Throwable;", false)
  | 3 => ("java/lang/Throwable", "stackTrace", "[Ljava/lang/StackTraceElement;", false)
  | 4 => ("java/lang/Throwable", "depth", "I", false)
  | _ => ("java/lang/Throwable", "suppressedExceptions", "Ljava/util/List;", false)
def tyJx00060 : Nat → FieldType := fun k => match k with
  | 0 => .object "java/lang/Object"
  | 1 => .object "java/lang/String"
  | 2 => .object "java/lang/Throwable"
  | 3 => .array (.object "java/lang/StackTraceElement")
  | 4 => .int
  | _ => .object "java/util/List"
abbrev wsJx000600 : List Cond := u_ws RJx00060 TJx00060 6
theorem nmJx00060 : ∀ a, a < 6 → ∀ b, b < 6 → a ≠ b → (TJx00060 a).2.1 ≠ (TJx00060 b).2.1 := by decide +kernel
theorem tyJx00060_ok : ∀ k, k < 6 → parseFieldDescriptor (TJx00060 k).2.2.1 = some (tyJx00060 k) := by decide +kernel
abbrev cJx00060_init_a7421 : ByteArray := prog_12_method_2_code
def yJx00060_init_a7421 : MethodName := ⟨RJx00060, "<init>", "(Ljava/lang/String;)V"⟩
def RJx8e188 : String := "java/lang/Cloneable"
def TJx8e188 : u_T := fun k => match k with
  | _ => ("", "", "", false)
def tyJx8e188 : Nat → FieldType := fun k => match k with
  | _ => .int
abbrev wsJx8e1880 : List Cond := u_ws RJx8e188 TJx8e188 0
theorem nmJx8e188 : ∀ a, a < 0 → ∀ b, b < 0 → a ≠ b → (TJx8e188 a).2.1 ≠ (TJx8e188 b).2.1 := by decide +kernel
theorem tyJx8e188_ok : ∀ k, k < 0 → parseFieldDescriptor (TJx8e188 k).2.2.1 = some (tyJx8e188 k) := by decide +kernel
def RJ6 : String := "java/lang/Integer"
def TJ6 : u_T := fun k => match k with
  | _ => ("", "", "", false)
def tyJ6 : Nat → FieldType := fun k => match k with
  | _ => .int
abbrev wsJ60 : List Cond := u_ws RJ6 TJ6 0
theorem nmJ6 : ∀ a, a < 0 → ∀ b, b < 0 → a ≠ b → (TJ6 a).2.1 ≠ (TJ6 b).2.1 := by decide +kernel
theorem tyJ6_ok : ∀ k, k < 0 → parseFieldDescriptor (TJ6 k).2.2.1 = some (tyJ6 k) := by decide +kernel
abbrev cJ6_bitCount_0f7a4 : ByteArray := prog_18_method_49_code
def yJ6_bitCount_0f7a4 : MethodName := ⟨RJ6, "bitCount", "(I)I"⟩
def RJxab1ab : String := "java/lang/Iterable"
def TJxab1ab : u_T := fun k => match k with
  | _ => ("", "", "", false)
def tyJxab1ab : Nat → FieldType := fun k => match k with
  | _ => .int
abbrev wsJxab1ab0 : List Cond := u_ws RJxab1ab TJxab1ab 0
theorem nmJxab1ab : ∀ a, a < 0 → ∀ b, b < 0 → a ≠ b → (TJxab1ab a).2.1 ≠ (TJxab1ab b).2.1 := by decide +kernel
theorem tyJxab1ab_ok : ∀ k, k < 0 → parseFieldDescriptor (TJxab1ab k).2.2.1 = some (tyJxab1ab k) := by decide +kernel
def RJ9 : String := "java/lang/Math"
def TJ9 : u_T := fun k => match k with
  | _ => ("", "", "", false)
def tyJ9 : Nat → FieldType := fun k => match k with
  | _ => .int
abbrev wsJ90 : List Cond := u_ws RJ9 TJ9 0
theorem nmJ9 : ∀ a, a < 0 → ∀ b, b < 0 → a ≠ b → (TJ9 a).2.1 ≠ (TJ9 b).2.1 := by decide +kernel
theorem tyJ9_ok : ∀ k, k < 0 → parseFieldDescriptor (TJ9 k).2.2.1 = some (tyJ9 k) := by decide +kernel
abbrev cJ9_max_7cf53 : ByteArray := prog_20_method_65_code
def yJ9_max_7cf53 : MethodName := ⟨RJ9, "max", "(II)I"⟩
abbrev cJ9_min_7cf53 : ByteArray := prog_20_method_69_code
def yJ9_min_7cf53 : MethodName := ⟨RJ9, "min", "(II)I"⟩
def RJ0 : String := "java/lang/String"
def TJ0 : u_T := fun k => match k with
  | 0 => ("java/lang/String", "value", "[B", true)
  | _ => ("java/lang/String", "coder", "B", true)
def tyJ0 : Nat → FieldType := fun k => match k with
  | 0 => .array .byte
  | _ => .byte
abbrev wsJ00 : List Cond := u_ws RJ0 TJ0 2
theorem nmJ0 : ∀ a, a < 2 → ∀ b, b < 2 → a ≠ b → (TJ0 a).2.1 ≠ (TJ0 b).2.1 := by decide +kernel
theorem tyJ0_ok : ∀ k, k < 2 → parseFieldDescriptor (TJ0 k).2.2.1 = some (tyJ0 k) := by decide +kernel
def RJ10 : String := "java/lang/System"
def TJ10 : u_T := fun k => match k with
  | _ => ("", "", "", false)
def tyJ10 : Nat → FieldType := fun k => match k with
  | _ => .int
abbrev wsJ100 : List Cond := u_ws RJ10 TJ10 0
theorem nmJ10 : ∀ a, a < 0 → ∀ b, b < 0 → a ≠ b → (TJ10 a).2.1 ≠ (TJ10 b).2.1 := by decide +kernel
theorem tyJ10_ok : ∀ k, k < 0 → parseFieldDescriptor (TJ10 k).2.2.1 = some (tyJ10 k) := by decide +kernel
def RJxa1e45 : String := "java/util/AbstractCollection"
def TJxa1e45 : u_T := fun k => match k with
  | _ => ("", "", "", false)
def tyJxa1e45 : Nat → FieldType := fun k => match k with
  | _ => .int
abbrev wsJxa1e450 : List Cond := u_ws RJxa1e45 TJxa1e45 0
theorem nmJxa1e45 : ∀ a, a < 0 → ∀ b, b < 0 → a ≠ b → (TJxa1e45 a).2.1 ≠ (TJxa1e45 b).2.1 := by decide +kernel
theorem tyJxa1e45_ok : ∀ k, k < 0 → parseFieldDescriptor (TJxa1e45 k).2.2.1 = some (tyJxa1e45 k) := by decide +kernel
abbrev cJxa1e45_init_da8c8 : ByteArray := prog_26_method_1_code
def yJxa1e45_init_da8c8 : MethodName := ⟨RJxa1e45, "<init>", "()V"⟩
def RJxc12de : String := "java/util/AbstractList"
def TJxc12de : u_T := fun k => match k with
  | _ => ("", "", "", false)
def tyJxc12de : Nat → FieldType := fun k => match k with
  | _ => .int
abbrev wsJxc12de0 : List Cond := u_ws RJxc12de TJxc12de 0
theorem nmJxc12de : ∀ a, a < 0 → ∀ b, b < 0 → a ≠ b → (TJxc12de a).2.1 ≠ (TJxc12de b).2.1 := by decide +kernel
theorem tyJxc12de_ok : ∀ k, k < 0 → parseFieldDescriptor (TJxc12de k).2.2.1 = some (tyJxc12de k) := by decide +kernel
abbrev cJxc12de_init_da8c8 : ByteArray := prog_27_method_1_code
def yJxc12de_init_da8c8 : MethodName := ⟨RJxc12de, "<init>", "()V"⟩
def RJx4a65c : String := "java/util/ArrayList"
def TJx4a65c : u_T := fun k => match k with
  | 0 => ("java/util/AbstractList", "modCount", "I", false)
  | 1 => ("java/util/ArrayList", "elementData", "[Ljava/lang/Object;", false)
  | _ => ("java/util/ArrayList", "size", "I", false)
def tyJx4a65c : Nat → FieldType := fun k => match k with
  | 0 => .int
  | 1 => .array (.object "java/lang/Object")
  | _ => .int
abbrev wsJx4a65c0 : List Cond := u_ws RJx4a65c TJx4a65c 3
theorem nmJx4a65c : ∀ a, a < 3 → ∀ b, b < 3 → a ≠ b → (TJx4a65c a).2.1 ≠ (TJx4a65c b).2.1 := by decide +kernel
theorem tyJx4a65c_ok : ∀ k, k < 3 → parseFieldDescriptor (TJx4a65c k).2.2.1 = some (tyJx4a65c k) := by decide +kernel
abbrev cJx4a65c_init_da8c8 : ByteArray := prog_28_method_2_code
def yJx4a65c_init_da8c8 : MethodName := ⟨RJx4a65c, "<init>", "()V"⟩
abbrev cJx4a65c_grow_92f84 : ByteArray := prog_28_method_6_code
def yJx4a65c_grow_92f84 : MethodName := ⟨RJx4a65c, "grow", "(I)[Ljava/lang/Object;"⟩
abbrev cJx4a65c_grow_d5877 : ByteArray := prog_28_method_7_code
def yJx4a65c_grow_d5877 : MethodName := ⟨RJx4a65c, "grow", "()[Ljava/lang/Object;"⟩
abbrev cJx4a65c_size_8abf5 : ByteArray := prog_28_method_8_code
def yJx4a65c_size_8abf5 : MethodName := ⟨RJx4a65c, "size", "()I"⟩
abbrev cJx4a65c_elementData_915e3 : ByteArray := prog_28_method_18_code
def yJx4a65c_elementData_915e3 : MethodName := ⟨RJx4a65c, "elementData", "(I)Ljava/lang/Object;"⟩
abbrev cJx4a65c_get_915e3 : ByteArray := prog_28_method_20_code
def yJx4a65c_get_915e3 : MethodName := ⟨RJx4a65c, "get", "(I)Ljava/lang/Object;"⟩
abbrev cJx4a65c_add_72be8 : ByteArray := prog_28_method_24_code
def yJx4a65c_add_72be8 : MethodName := ⟨RJx4a65c, "add", "(Ljava/lang/Object;[Ljava/lang/Object;I)V"⟩
abbrev cJx4a65c_add_9ea2d : ByteArray := prog_28_method_25_code
def yJx4a65c_add_9ea2d : MethodName := ⟨RJx4a65c, "add", "(Ljava/lang/Object;)Z"⟩
abbrev cJx4a65c_remove_915e3 : ByteArray := prog_28_method_29_code
def yJx4a65c_remove_915e3 : MethodName := ⟨RJx4a65c, "remove", "(I)Ljava/lang/Object;"⟩
abbrev cJx4a65c_fastRemove_b59b0 : ByteArray := prog_28_method_39_code
def yJx4a65c_fastRemove_b59b0 : MethodName := ⟨RJx4a65c, "fastRemove", "([Ljava/lang/Object;I)V"⟩
def RJ7 : String := "java/util/Arrays"
def TJ7 : u_T := fun k => match k with
  | _ => ("", "", "", false)
def tyJ7 : Nat → FieldType := fun k => match k with
  | _ => .int
abbrev wsJ70 : List Cond := u_ws RJ7 TJ7 0
theorem nmJ7 : ∀ a, a < 0 → ∀ b, b < 0 → a ≠ b → (TJ7 a).2.1 ≠ (TJ7 b).2.1 := by decide +kernel
theorem tyJ7_ok : ∀ k, k < 0 → parseFieldDescriptor (TJ7 k).2.2.1 = some (tyJ7 k) := by decide +kernel
abbrev cJ7_copyOf_1904c : ByteArray := prog_29_method_119_code
def yJ7_copyOf_1904c : MethodName := ⟨RJ7, "copyOf", "([Ljava/lang/Object;I)[Ljava/lang/Object;"⟩
abbrev cJ7_copyOf_6403c : ByteArray := prog_29_method_120_code
def yJ7_copyOf_6403c : MethodName := ⟨RJ7, "copyOf", "([Ljava/lang/Object;ILjava/lang/Class;)[Ljava/lang/Object;"⟩
def RJx5ef63 : String := "java/util/Collection"
def TJx5ef63 : u_T := fun k => match k with
  | _ => ("", "", "", false)
def tyJx5ef63 : Nat → FieldType := fun k => match k with
  | _ => .int
abbrev wsJx5ef630 : List Cond := u_ws RJx5ef63 TJx5ef63 0
theorem nmJx5ef63 : ∀ a, a < 0 → ∀ b, b < 0 → a ≠ b → (TJx5ef63 a).2.1 ≠ (TJx5ef63 b).2.1 := by decide +kernel
theorem tyJx5ef63_ok : ∀ k, k < 0 → parseFieldDescriptor (TJx5ef63 k).2.2.1 = some (tyJx5ef63 k) := by decide +kernel
def RJxbd725 : String := "java/util/List"
def TJxbd725 : u_T := fun k => match k with
  | _ => ("", "", "", false)
def tyJxbd725 : Nat → FieldType := fun k => match k with
  | _ => .int
abbrev wsJxbd7250 : List Cond := u_ws RJxbd725 TJxbd725 0
theorem nmJxbd725 : ∀ a, a < 0 → ∀ b, b < 0 → a ≠ b → (TJxbd725 a).2.1 ≠ (TJxbd725 b).2.1 := by decide +kernel
theorem tyJxbd725_ok : ∀ k, k < 0 → parseFieldDescriptor (TJxbd725 k).2.2.1 = some (tyJxbd725 k) := by decide +kernel
def RJ15 : String := "java/util/Objects"
def TJ15 : u_T := fun k => match k with
  | _ => ("", "", "", false)
def tyJ15 : Nat → FieldType := fun k => match k with
  | _ => .int
abbrev wsJ150 : List Cond := u_ws RJ15 TJ15 0
theorem nmJ15 : ∀ a, a < 0 → ∀ b, b < 0 → a ≠ b → (TJ15 a).2.1 ≠ (TJ15 b).2.1 := by decide +kernel
theorem tyJ15_ok : ∀ k, k < 0 → parseFieldDescriptor (TJ15 k).2.2.1 = some (tyJ15 k) := by decide +kernel
abbrev cJ15_checkIndex_7cf53 : ByteArray := prog_33_method_17_code
def yJ15_checkIndex_7cf53 : MethodName := ⟨RJ15, "checkIndex", "(II)I"⟩
def RJxf0a74 : String := "java/util/RandomAccess"
def TJxf0a74 : u_T := fun k => match k with
  | _ => ("", "", "", false)
def tyJxf0a74 : Nat → FieldType := fun k => match k with
  | _ => .int
abbrev wsJxf0a740 : List Cond := u_ws RJxf0a74 TJxf0a74 0
theorem nmJxf0a74 : ∀ a, a < 0 → ∀ b, b < 0 → a ≠ b → (TJxf0a74 a).2.1 ≠ (TJxf0a74 b).2.1 := by decide +kernel
theorem tyJxf0a74_ok : ∀ k, k < 0 → parseFieldDescriptor (TJxf0a74 k).2.2.1 = some (tyJxf0a74 k) := by decide +kernel
def RJxa66e6 : String := "java/util/SequencedCollection"
def TJxa66e6 : u_T := fun k => match k with
  | _ => ("", "", "", false)
def tyJxa66e6 : Nat → FieldType := fun k => match k with
  | _ => .int
abbrev wsJxa66e60 : List Cond := u_ws RJxa66e6 TJxa66e6 0
theorem nmJxa66e6 : ∀ a, a < 0 → ∀ b, b < 0 → a ≠ b → (TJxa66e6 a).2.1 ≠ (TJxa66e6 b).2.1 := by decide +kernel
theorem tyJxa66e6_ok : ∀ k, k < 0 → parseFieldDescriptor (TJxa66e6 k).2.2.1 = some (tyJxa66e6 k) := by decide +kernel
def RJ8 : String := "jdk/internal/util/ArraysSupport"
def TJ8 : u_T := fun k => match k with
  | _ => ("", "", "", false)
def tyJ8 : Nat → FieldType := fun k => match k with
  | _ => .int
abbrev wsJ80 : List Cond := u_ws RJ8 TJ8 0
theorem nmJ8 : ∀ a, a < 0 → ∀ b, b < 0 → a ≠ b → (TJ8 a).2.1 ≠ (TJ8 b).2.1 := by decide +kernel
theorem tyJ8_ok : ∀ k, k < 0 → parseFieldDescriptor (TJ8 k).2.2.1 = some (tyJ8 k) := by decide +kernel
abbrev cJ8_newLength_cabcc : ByteArray := prog_36_method_27_code
def yJ8_newLength_cabcc : MethodName := ⟨RJ8, "newLength", "(III)I"⟩
abbrev cJ8_hugeLength_7cf53 : ByteArray := prog_36_method_28_code
def yJ8_hugeLength_7cf53 : MethodName := ⟨RJ8, "hugeLength", "(II)I"⟩
def RJ3 : String := "jdk/internal/util/Preconditions"
def TJ3 : u_T := fun k => match k with
  | _ => ("", "", "", false)
def tyJ3 : Nat → FieldType := fun k => match k with
  | _ => .int
abbrev wsJ30 : List Cond := u_ws RJ3 TJ3 0
theorem nmJ3 : ∀ a, a < 0 → ∀ b, b < 0 → a ≠ b → (TJ3 a).2.1 ≠ (TJ3 b).2.1 := by decide +kernel
theorem tyJ3_ok : ∀ k, k < 0 → parseFieldDescriptor (TJ3 k).2.2.1 = some (tyJ3 k) := by decide +kernel
abbrev cJ3_checkIndex_8e157 : ByteArray := prog_37_method_11_code
def yJ3_checkIndex_8e157 : MethodName := ⟨RJ3, "checkIndex", "(IILjava/util/function/BiFunction;)I"⟩
def RL : String := "SwapyardLaw"
abbrev cL_addService : ByteArray := method_3_code
def yL_addService : MethodName := ⟨RL, "addService", "(LSwapyard;ICI[J)I"⟩
abbrev cL_addNeed : ByteArray := method_4_code
def yL_addNeed : MethodName := ⟨RL, "addNeed", "(LSwapyard;II[J)I"⟩
abbrev cL_setSize : ByteArray := method_5_code
def yL_setSize : MethodName := ⟨RL, "setSize", "(LSwapyard;III[J)I"⟩
abbrev cL_setFrames : ByteArray := method_6_code
def yL_setFrames : MethodName := ⟨RL, "setFrames", "(LSwapyard;I[J)I"⟩
abbrev cL_setRoom : ByteArray := method_7_code
def yL_setRoom : MethodName := ⟨RL, "setRoom", "(LSwapyard;I[J)I"⟩
abbrev cL_setLimit : ByteArray := method_8_code
def yL_setLimit : MethodName := ⟨RL, "setLimit", "(LSwapyard;I[J)I"⟩
abbrev cL_touch : ByteArray := method_9_code
def yL_touch : MethodName := ⟨RL, "touch", "(LSwapyard;II[J)I"⟩
abbrev cL_tick : ByteArray := method_10_code
def yL_tick : MethodName := ⟨RL, "tick", "(LSwapyard;I[J)I"⟩
abbrev cL_placeOf : ByteArray := method_11_code
def yL_placeOf : MethodName := ⟨RL, "placeOf", "(LSwapyard;II[J)I"⟩
abbrev cL_placeByEvents : ByteArray := method_12_code
def yL_placeByEvents : MethodName := ⟨RL, "placeByEvents", "(LSwapyard;II[J)I"⟩
abbrev cL_frameOf : ByteArray := method_13_code
def yL_frameOf : MethodName := ⟨RL, "frameOf", "(LSwapyard;II[J)I"⟩
abbrev cL_isReferenced : ByteArray := method_14_code
def yL_isReferenced : MethodName := ⟨RL, "isReferenced", "(LSwapyard;II[J)I"⟩
abbrev cL_storedAt : ByteArray := method_15_code
def yL_storedAt : MethodName := ⟨RL, "storedAt", "(LSwapyard;I[J)I"⟩
abbrev cL_pagesIn : ByteArray := method_16_code
def yL_pagesIn : MethodName := ⟨RL, "pagesIn", "(LSwapyard;IC[J)I"⟩
abbrev cL_stallsOf : ByteArray := method_17_code
def yL_stallsOf : MethodName := ⟨RL, "stallsOf", "(LSwapyard;I[J)I"⟩
abbrev cL_stateOf : ByteArray := method_18_code
def yL_stateOf : MethodName := ⟨RL, "stateOf", "(LSwapyard;I[J)I"⟩
abbrev cL_waitsFor : ByteArray := method_19_code
def yL_waitsFor : MethodName := ⟨RL, "waitsFor", "(LSwapyard;I[J)I"⟩
abbrev cL_isNeeded : ByteArray := method_20_code
def yL_isNeeded : MethodName := ⟨RL, "isNeeded", "(LSwapyard;I[J)I"⟩
abbrev cL_startsIn : ByteArray := method_21_code
def yL_startsIn : MethodName := ⟨RL, "startsIn", "(LSwapyard;I[J)I"⟩
abbrev cL_starts : ByteArray := method_22_code
def yL_starts : MethodName := ⟨RL, "starts", "(LSwapyard;I[J)I"⟩
abbrev cL_score : ByteArray := method_23_code
def yL_score : MethodName := ⟨RL, "score", "(LSwapyard;I[J)I"⟩
abbrev cL_victim : ByteArray := method_24_code
def yL_victim : MethodName := ⟨RL, "victim", "(LSwapyard;[J)I"⟩
abbrev cL_smoothShare : ByteArray := method_25_code
def yL_smoothShare : MethodName := ⟨RL, "smoothShare", "(LSwapyard;[D)I"⟩
abbrev cL_meanStalls : ByteArray := method_26_code
def yL_meanStalls : MethodName := ⟨RL, "meanStalls", "(LSwapyard;[D)I"⟩
abbrev cL_law : ByteArray := code
def yL_law : MethodName := ⟨RL, "law", "([I)Z"⟩
theorem dX0_init_0 : decode cX0_init 0 = .ok (.aload_n 0, 1) := by decide +kernel
theorem dX0_init_1 : decode cX0_init 1 = .ok (.invokespecial 3, 3) := by decide +kernel
theorem dX0_init_4 : decode cX0_init 4 = .ok (.aload_n 0, 1) := by decide +kernel
theorem dX0_init_5 : decode cX0_init 5 = .ok (.bipush 16, 2) := by decide +kernel
theorem dX0_init_7 : decode cX0_init 7 = .ok (.anewarray 9, 3) := by decide +kernel
theorem dX0_init_10 : decode cX0_init 10 = .ok (.putfield 11, 3) := by decide +kernel
theorem dX0_init_13 : decode cX0_init 13 = .ok (.aload_n 0, 1) := by decide +kernel
theorem dX0_init_14 : decode cX0_init 14 = .ok (.iconst 4, 1) := by decide +kernel
theorem dX0_init_15 : decode cX0_init 15 = .ok (.putfield 17, 3) := by decide +kernel
theorem dX0_init_18 : decode cX0_init 18 = .ok (.return_, 1) := by decide +kernel
theorem dX0_lowestFree_0 : decode cX0_lowestFree 0 = .ok (.iconst 0, 1) := by decide +kernel
theorem dX0_lowestFree_1 : decode cX0_lowestFree 1 = .ok (.istore_n 1, 1) := by decide +kernel
theorem dX0_lowestFree_2 : decode cX0_lowestFree 2 = .ok (.iload_n 1, 1) := by decide +kernel
theorem dX0_lowestFree_3 : decode cX0_lowestFree 3 = .ok (.aload_n 0, 1) := by decide +kernel
theorem dX0_lowestFree_4 : decode cX0_lowestFree 4 = .ok (.getfield 11, 3) := by decide +kernel
theorem dX0_lowestFree_7 : decode cX0_lowestFree 7 = .ok (.arraylength, 1) := by decide +kernel
theorem dX0_lowestFree_8 : decode cX0_lowestFree 8 = .ok (.if_icmp .ge 28, 3) := by decide +kernel
theorem dX0_lowestFree_11 : decode cX0_lowestFree 11 = .ok (.iload_n 1, 1) := by decide +kernel
theorem dX0_lowestFree_12 : decode cX0_lowestFree 12 = .ok (.aload_n 0, 1) := by decide +kernel
theorem dX0_lowestFree_13 : decode cX0_lowestFree 13 = .ok (.getfield 17, 3) := by decide +kernel
theorem dX0_lowestFree_16 : decode cX0_lowestFree 16 = .ok (.if_icmp .ge 20, 3) := by decide +kernel
theorem dX0_lowestFree_19 : decode cX0_lowestFree 19 = .ok (.aload_n 0, 1) := by decide +kernel
theorem dX0_lowestFree_20 : decode cX0_lowestFree 20 = .ok (.getfield 11, 3) := by decide +kernel
theorem dX0_lowestFree_23 : decode cX0_lowestFree 23 = .ok (.iload_n 1, 1) := by decide +kernel
theorem dX0_lowestFree_24 : decode cX0_lowestFree 24 = .ok (.aaload, 1) := by decide +kernel
theorem dX0_lowestFree_25 : decode cX0_lowestFree 25 = .ok (.ifnonnull 5, 3) := by decide +kernel
theorem dX0_lowestFree_28 : decode cX0_lowestFree 28 = .ok (.iload_n 1, 1) := by decide +kernel
theorem dX0_lowestFree_29 : decode cX0_lowestFree 29 = .ok (.ireturn, 1) := by decide +kernel
theorem dX0_lowestFree_30 : decode cX0_lowestFree 30 = .ok (.iinc 1 1, 3) := by decide +kernel
theorem dX0_lowestFree_33 : decode cX0_lowestFree 33 = .ok (.goto (-31), 3) := by decide +kernel
theorem dX0_lowestFree_36 : decode cX0_lowestFree 36 = .ok (.iconst (-1), 1) := by decide +kernel
theorem dX0_lowestFree_37 : decode cX0_lowestFree 37 = .ok (.ireturn, 1) := by decide +kernel
theorem dX0_countFree_0 : decode cX0_countFree 0 = .ok (.iconst 0, 1) := by decide +kernel
theorem dX0_countFree_1 : decode cX0_countFree 1 = .ok (.istore_n 1, 1) := by decide +kernel
theorem dX0_countFree_2 : decode cX0_countFree 2 = .ok (.iconst 0, 1) := by decide +kernel
theorem dX0_countFree_3 : decode cX0_countFree 3 = .ok (.istore_n 2, 1) := by decide +kernel
theorem dX0_countFree_4 : decode cX0_countFree 4 = .ok (.iload_n 2, 1) := by decide +kernel
theorem dX0_countFree_5 : decode cX0_countFree 5 = .ok (.aload_n 0, 1) := by decide +kernel
theorem dX0_countFree_6 : decode cX0_countFree 6 = .ok (.getfield 11, 3) := by decide +kernel
theorem dX0_countFree_9 : decode cX0_countFree 9 = .ok (.arraylength, 1) := by decide +kernel
theorem dX0_countFree_10 : decode cX0_countFree 10 = .ok (.if_icmp .ge 29, 3) := by decide +kernel
theorem dX0_countFree_13 : decode cX0_countFree 13 = .ok (.iload_n 2, 1) := by decide +kernel
theorem dX0_countFree_14 : decode cX0_countFree 14 = .ok (.aload_n 0, 1) := by decide +kernel
theorem dX0_countFree_15 : decode cX0_countFree 15 = .ok (.getfield 17, 3) := by decide +kernel
theorem dX0_countFree_18 : decode cX0_countFree 18 = .ok (.if_icmp .ge 21, 3) := by decide +kernel
theorem dX0_countFree_21 : decode cX0_countFree 21 = .ok (.aload_n 0, 1) := by decide +kernel
theorem dX0_countFree_22 : decode cX0_countFree 22 = .ok (.getfield 11, 3) := by decide +kernel
theorem dX0_countFree_25 : decode cX0_countFree 25 = .ok (.iload_n 2, 1) := by decide +kernel
theorem dX0_countFree_26 : decode cX0_countFree 26 = .ok (.aaload, 1) := by decide +kernel
theorem dX0_countFree_27 : decode cX0_countFree 27 = .ok (.ifnonnull 6, 3) := by decide +kernel
theorem dX0_countFree_30 : decode cX0_countFree 30 = .ok (.iinc 1 1, 3) := by decide +kernel
theorem dX0_countFree_33 : decode cX0_countFree 33 = .ok (.iinc 2 1, 3) := by decide +kernel
theorem dX0_countFree_36 : decode cX0_countFree 36 = .ok (.goto (-32), 3) := by decide +kernel
theorem dX0_countFree_39 : decode cX0_countFree 39 = .ok (.iload_n 1, 1) := by decide +kernel
theorem dX0_countFree_40 : decode cX0_countFree 40 = .ok (.ireturn, 1) := by decide +kernel
theorem dX0_put_0 : decode cX0_put 0 = .ok (.iload_n 2, 1) := by decide +kernel
theorem dX0_put_1 : decode cX0_put 1 = .ok (.ifCond .lt 24, 3) := by decide +kernel
theorem dX0_put_4 : decode cX0_put 4 = .ok (.iload_n 2, 1) := by decide +kernel
theorem dX0_put_5 : decode cX0_put 5 = .ok (.aload_n 0, 1) := by decide +kernel
theorem dX0_put_6 : decode cX0_put 6 = .ok (.getfield 11, 3) := by decide +kernel
theorem dX0_put_9 : decode cX0_put 9 = .ok (.arraylength, 1) := by decide +kernel
theorem dX0_put_10 : decode cX0_put 10 = .ok (.if_icmp .ge 15, 3) := by decide +kernel
theorem dX0_put_13 : decode cX0_put 13 = .ok (.aload_n 0, 1) := by decide +kernel
theorem dX0_put_14 : decode cX0_put 14 = .ok (.getfield 11, 3) := by decide +kernel
theorem dX0_put_17 : decode cX0_put 17 = .ok (.iload_n 2, 1) := by decide +kernel
theorem dX0_put_18 : decode cX0_put 18 = .ok (.aload_n 1, 1) := by decide +kernel
theorem dX0_put_19 : decode cX0_put 19 = .ok (.aastore, 1) := by decide +kernel
theorem dX0_put_20 : decode cX0_put 20 = .ok (.aload_n 1, 1) := by decide +kernel
theorem dX0_put_21 : decode cX0_put 21 = .ok (.iload_n 2, 1) := by decide +kernel
theorem dX0_put_22 : decode cX0_put 22 = .ok (.invokevirtual 21, 3) := by decide +kernel
theorem dX0_put_25 : decode cX0_put 25 = .ok (.return_, 1) := by decide +kernel
theorem dX0_takeOut_0 : decode cX0_takeOut 0 = .ok (.iload_n 1, 1) := by decide +kernel
theorem dX0_takeOut_1 : decode cX0_takeOut 1 = .ok (.ifCond .lt 12, 3) := by decide +kernel
theorem dX0_takeOut_4 : decode cX0_takeOut 4 = .ok (.iload_n 1, 1) := by decide +kernel
theorem dX0_takeOut_5 : decode cX0_takeOut 5 = .ok (.aload_n 0, 1) := by decide +kernel
theorem dX0_takeOut_6 : decode cX0_takeOut 6 = .ok (.getfield 11, 3) := by decide +kernel
theorem dX0_takeOut_9 : decode cX0_takeOut 9 = .ok (.arraylength, 1) := by decide +kernel
theorem dX0_takeOut_10 : decode cX0_takeOut 10 = .ok (.if_icmp .lt 5, 3) := by decide +kernel
theorem dX0_takeOut_13 : decode cX0_takeOut 13 = .ok (.aconst_null, 1) := by decide +kernel
theorem dX0_takeOut_14 : decode cX0_takeOut 14 = .ok (.areturn, 1) := by decide +kernel
theorem dX0_takeOut_15 : decode cX0_takeOut 15 = .ok (.aload_n 0, 1) := by decide +kernel
theorem dX0_takeOut_16 : decode cX0_takeOut 16 = .ok (.getfield 11, 3) := by decide +kernel
theorem dX0_takeOut_19 : decode cX0_takeOut 19 = .ok (.iload_n 1, 1) := by decide +kernel
theorem dX0_takeOut_20 : decode cX0_takeOut 20 = .ok (.aaload, 1) := by decide +kernel
theorem dX0_takeOut_21 : decode cX0_takeOut 21 = .ok (.astore_n 2, 1) := by decide +kernel
theorem dX0_takeOut_22 : decode cX0_takeOut 22 = .ok (.aload_n 0, 1) := by decide +kernel
theorem dX0_takeOut_23 : decode cX0_takeOut 23 = .ok (.getfield 11, 3) := by decide +kernel
theorem dX0_takeOut_26 : decode cX0_takeOut 26 = .ok (.iload_n 1, 1) := by decide +kernel
theorem dX0_takeOut_27 : decode cX0_takeOut 27 = .ok (.aconst_null, 1) := by decide +kernel
theorem dX0_takeOut_28 : decode cX0_takeOut 28 = .ok (.aastore, 1) := by decide +kernel
theorem dX0_takeOut_29 : decode cX0_takeOut 29 = .ok (.aload_n 2, 1) := by decide +kernel
theorem dX0_takeOut_30 : decode cX0_takeOut 30 = .ok (.areturn, 1) := by decide +kernel
theorem dX0_takeOutByClock_0 : decode cX0_takeOutByClock 0 = .ok (.iconst 0, 1) := by decide +kernel
theorem dX0_takeOutByClock_1 : decode cX0_takeOutByClock 1 = .ok (.istore_n 1, 1) := by decide +kernel
theorem dX0_takeOutByClock_2 : decode cX0_takeOutByClock 2 = .ok (.iload_n 1, 1) := by decide +kernel
theorem dX0_takeOutByClock_3 : decode cX0_takeOutByClock 3 = .ok (.aload_n 0, 1) := by decide +kernel
theorem dX0_takeOutByClock_4 : decode cX0_takeOutByClock 4 = .ok (.getfield 17, 3) := by decide +kernel
theorem dX0_takeOutByClock_7 : decode cX0_takeOutByClock 7 = .ok (.if_icmp .gt 49, 3) := by decide +kernel
theorem dX0_takeOutByClock_10 : decode cX0_takeOutByClock 10 = .ok (.aload_n 0, 1) := by decide +kernel
theorem dX0_takeOutByClock_11 : decode cX0_takeOutByClock 11 = .ok (.getfield 25, 3) := by decide +kernel
theorem dX0_takeOutByClock_14 : decode cX0_takeOutByClock 14 = .ok (.istore_n 2, 1) := by decide +kernel
theorem dX0_takeOutByClock_15 : decode cX0_takeOutByClock 15 = .ok (.aload_n 0, 1) := by decide +kernel
theorem dX0_takeOutByClock_16 : decode cX0_takeOutByClock 16 = .ok (.iload_n 2, 1) := by decide +kernel
theorem dX0_takeOutByClock_17 : decode cX0_takeOutByClock 17 = .ok (.iconst 1, 1) := by decide +kernel
theorem dX0_takeOutByClock_18 : decode cX0_takeOutByClock 18 = .ok (.iadd, 1) := by decide +kernel
theorem dX0_takeOutByClock_19 : decode cX0_takeOutByClock 19 = .ok (.aload_n 0, 1) := by decide +kernel
theorem dX0_takeOutByClock_20 : decode cX0_takeOutByClock 20 = .ok (.getfield 17, 3) := by decide +kernel
theorem dX0_takeOutByClock_23 : decode cX0_takeOutByClock 23 = .ok (.if_icmp .ge 9, 3) := by decide +kernel
theorem dX0_takeOutByClock_26 : decode cX0_takeOutByClock 26 = .ok (.iload_n 2, 1) := by decide +kernel
theorem dX0_takeOutByClock_27 : decode cX0_takeOutByClock 27 = .ok (.iconst 1, 1) := by decide +kernel
theorem dX0_takeOutByClock_28 : decode cX0_takeOutByClock 28 = .ok (.iadd, 1) := by decide +kernel
theorem dX0_takeOutByClock_29 : decode cX0_takeOutByClock 29 = .ok (.goto 4, 3) := by decide +kernel
theorem dX0_takeOutByClock_32 : decode cX0_takeOutByClock 32 = .ok (.iconst 0, 1) := by decide +kernel
theorem dX0_takeOutByClock_33 : decode cX0_takeOutByClock 33 = .ok (.putfield 25, 3) := by decide +kernel
theorem dX0_takeOutByClock_36 : decode cX0_takeOutByClock 36 = .ok (.aload_n 0, 1) := by decide +kernel
theorem dX0_takeOutByClock_37 : decode cX0_takeOutByClock 37 = .ok (.iload_n 2, 1) := by decide +kernel
theorem dX0_takeOutByClock_38 : decode cX0_takeOutByClock 38 = .ok (.invokevirtual 28, 3) := by decide +kernel
theorem dX0_takeOutByClock_41 : decode cX0_takeOutByClock 41 = .ok (.ifCond .ne 9, 3) := by decide +kernel
theorem dX0_takeOutByClock_44 : decode cX0_takeOutByClock 44 = .ok (.aload_n 0, 1) := by decide +kernel
theorem dX0_takeOutByClock_45 : decode cX0_takeOutByClock 45 = .ok (.iload_n 2, 1) := by decide +kernel
theorem dX0_takeOutByClock_46 : decode cX0_takeOutByClock 46 = .ok (.invokevirtual 32, 3) := by decide +kernel
theorem dX0_takeOutByClock_49 : decode cX0_takeOutByClock 49 = .ok (.areturn, 1) := by decide +kernel
theorem dX0_takeOutByClock_50 : decode cX0_takeOutByClock 50 = .ok (.iinc 1 1, 3) := by decide +kernel
theorem dX0_takeOutByClock_53 : decode cX0_takeOutByClock 53 = .ok (.goto (-51), 3) := by decide +kernel
theorem dX0_takeOutByClock_56 : decode cX0_takeOutByClock 56 = .ok (.aconst_null, 1) := by decide +kernel
theorem dX0_takeOutByClock_57 : decode cX0_takeOutByClock 57 = .ok (.areturn, 1) := by decide +kernel
theorem dX0_takeReference_0 : decode cX0_takeReference 0 = .ok (.iload_n 1, 1) := by decide +kernel
theorem dX0_takeReference_1 : decode cX0_takeReference 1 = .ok (.ifCond .lt 21, 3) := by decide +kernel
theorem dX0_takeReference_4 : decode cX0_takeReference 4 = .ok (.iload_n 1, 1) := by decide +kernel
theorem dX0_takeReference_5 : decode cX0_takeReference 5 = .ok (.aload_n 0, 1) := by decide +kernel
theorem dX0_takeReference_6 : decode cX0_takeReference 6 = .ok (.getfield 11, 3) := by decide +kernel
theorem dX0_takeReference_9 : decode cX0_takeReference 9 = .ok (.arraylength, 1) := by decide +kernel
theorem dX0_takeReference_10 : decode cX0_takeReference 10 = .ok (.if_icmp .ge 12, 3) := by decide +kernel
theorem dX0_takeReference_13 : decode cX0_takeReference 13 = .ok (.aload_n 0, 1) := by decide +kernel
theorem dX0_takeReference_14 : decode cX0_takeReference 14 = .ok (.getfield 11, 3) := by decide +kernel
theorem dX0_takeReference_17 : decode cX0_takeReference 17 = .ok (.iload_n 1, 1) := by decide +kernel
theorem dX0_takeReference_18 : decode cX0_takeReference 18 = .ok (.aaload, 1) := by decide +kernel
theorem dX0_takeReference_19 : decode cX0_takeReference 19 = .ok (.ifnonnull 5, 3) := by decide +kernel
theorem dX0_takeReference_22 : decode cX0_takeReference 22 = .ok (.iconst 0, 1) := by decide +kernel
theorem dX0_takeReference_23 : decode cX0_takeReference 23 = .ok (.ireturn, 1) := by decide +kernel
theorem dX0_takeReference_24 : decode cX0_takeReference 24 = .ok (.aload_n 0, 1) := by decide +kernel
theorem dX0_takeReference_25 : decode cX0_takeReference 25 = .ok (.getfield 11, 3) := by decide +kernel
theorem dX0_takeReference_28 : decode cX0_takeReference 28 = .ok (.iload_n 1, 1) := by decide +kernel
theorem dX0_takeReference_29 : decode cX0_takeReference 29 = .ok (.aaload, 1) := by decide +kernel
theorem dX0_takeReference_30 : decode cX0_takeReference 30 = .ok (.getfield 36, 3) := by decide +kernel
theorem dX0_takeReference_33 : decode cX0_takeReference 33 = .ok (.istore_n 2, 1) := by decide +kernel
theorem dX0_takeReference_34 : decode cX0_takeReference 34 = .ok (.aload_n 0, 1) := by decide +kernel
theorem dX0_takeReference_35 : decode cX0_takeReference 35 = .ok (.getfield 11, 3) := by decide +kernel
theorem dX0_takeReference_38 : decode cX0_takeReference 38 = .ok (.iload_n 1, 1) := by decide +kernel
theorem dX0_takeReference_39 : decode cX0_takeReference 39 = .ok (.aaload, 1) := by decide +kernel
theorem dX0_takeReference_40 : decode cX0_takeReference 40 = .ok (.iconst 0, 1) := by decide +kernel
theorem dX0_takeReference_41 : decode cX0_takeReference 41 = .ok (.putfield 36, 3) := by decide +kernel
theorem dX0_takeReference_44 : decode cX0_takeReference 44 = .ok (.iload_n 2, 1) := by decide +kernel
theorem dX0_takeReference_45 : decode cX0_takeReference 45 = .ok (.ireturn, 1) := by decide +kernel
theorem dX0_resize_0 : decode cX0_resize 0 = .ok (.aload_n 0, 1) := by decide +kernel
theorem dX0_resize_1 : decode cX0_resize 1 = .ok (.iload_n 1, 1) := by decide +kernel
theorem dX0_resize_2 : decode cX0_resize 2 = .ok (.putfield 17, 3) := by decide +kernel
theorem dX0_resize_5 : decode cX0_resize 5 = .ok (.aload_n 0, 1) := by decide +kernel
theorem dX0_resize_6 : decode cX0_resize 6 = .ok (.getfield 25, 3) := by decide +kernel
theorem dX0_resize_9 : decode cX0_resize 9 = .ok (.iload_n 1, 1) := by decide +kernel
theorem dX0_resize_10 : decode cX0_resize 10 = .ok (.if_icmp .lt 8, 3) := by decide +kernel
theorem dX0_resize_13 : decode cX0_resize 13 = .ok (.aload_n 0, 1) := by decide +kernel
theorem dX0_resize_14 : decode cX0_resize 14 = .ok (.iconst 0, 1) := by decide +kernel
theorem dX0_resize_15 : decode cX0_resize 15 = .ok (.putfield 25, 3) := by decide +kernel
theorem dX0_resize_18 : decode cX0_resize 18 = .ok (.return_, 1) := by decide +kernel
theorem dX1_init_0 : decode cX1_init 0 = .ok (.aload_n 0, 1) := by decide +kernel
theorem dX1_init_1 : decode cX1_init 1 = .ok (.invokespecial 3, 3) := by decide +kernel
theorem dX1_init_4 : decode cX1_init 4 = .ok (.aload_n 0, 1) := by decide +kernel
theorem dX1_init_5 : decode cX1_init 5 = .ok (.sipush 2048, 3) := by decide +kernel
theorem dX1_init_8 : decode cX1_init 8 = .ok (.newarray .int, 2) := by decide +kernel
theorem dX1_init_10 : decode cX1_init 10 = .ok (.putfield 9, 3) := by decide +kernel
theorem dX1_init_13 : decode cX1_init 13 = .ok (.aload_n 0, 1) := by decide +kernel
theorem dX1_init_14 : decode cX1_init 14 = .ok (.bipush 48, 2) := by decide +kernel
theorem dX1_init_16 : decode cX1_init 16 = .ok (.newarray .char, 2) := by decide +kernel
theorem dX1_init_18 : decode cX1_init 18 = .ok (.putfield 15, 3) := by decide +kernel
theorem dX1_init_21 : decode cX1_init 21 = .ok (.return_, 1) := by decide +kernel
theorem dX1_record_0 : decode cX1_record 0 = .ok (.aload_n 0, 1) := by decide +kernel
theorem dX1_record_1 : decode cX1_record 1 = .ok (.getfield 19, 3) := by decide +kernel
theorem dX1_record_4 : decode cX1_record 4 = .ok (.aload_n 0, 1) := by decide +kernel
theorem dX1_record_5 : decode cX1_record 5 = .ok (.getfield 9, 3) := by decide +kernel
theorem dX1_record_8 : decode cX1_record 8 = .ok (.arraylength, 1) := by decide +kernel
theorem dX1_record_9 : decode cX1_record 9 = .ok (.if_icmp .ge 28, 3) := by decide +kernel
theorem dX1_record_12 : decode cX1_record 12 = .ok (.aload_n 0, 1) := by decide +kernel
theorem dX1_record_13 : decode cX1_record 13 = .ok (.getfield 9, 3) := by decide +kernel
theorem dX1_record_16 : decode cX1_record 16 = .ok (.aload_n 0, 1) := by decide +kernel
theorem dX1_record_17 : decode cX1_record 17 = .ok (.getfield 19, 3) := by decide +kernel
theorem dX1_record_20 : decode cX1_record 20 = .ok (.iload_n 1, 1) := by decide +kernel
theorem dX1_record_21 : decode cX1_record 21 = .ok (.bipush 8, 2) := by decide +kernel
theorem dX1_record_23 : decode cX1_record 23 = .ok (.ishl, 1) := by decide +kernel
theorem dX1_record_24 : decode cX1_record 24 = .ok (.iload_n 2, 1) := by decide +kernel
theorem dX1_record_25 : decode cX1_record 25 = .ok (.ior, 1) := by decide +kernel
theorem dX1_record_26 : decode cX1_record 26 = .ok (.iastore, 1) := by decide +kernel
theorem dX1_record_27 : decode cX1_record 27 = .ok (.aload_n 0, 1) := by decide +kernel
theorem dX1_record_28 : decode cX1_record 28 = .ok (.dup, 1) := by decide +kernel
theorem dX1_record_29 : decode cX1_record 29 = .ok (.getfield 19, 3) := by decide +kernel
theorem dX1_record_32 : decode cX1_record 32 = .ok (.iconst 1, 1) := by decide +kernel
theorem dX1_record_33 : decode cX1_record 33 = .ok (.iadd, 1) := by decide +kernel
theorem dX1_record_34 : decode cX1_record 34 = .ok (.putfield 19, 3) := by decide +kernel
theorem dX1_record_37 : decode cX1_record 37 = .ok (.return_, 1) := by decide +kernel
theorem dX1_replay_0 : decode cX1_replay 0 = .ok (.iconst 0, 1) := by decide +kernel
theorem dX1_replay_1 : decode cX1_replay 1 = .ok (.istore_n 1, 1) := by decide +kernel
theorem dX1_replay_2 : decode cX1_replay 2 = .ok (.iload_n 1, 1) := by decide +kernel
theorem dX1_replay_3 : decode cX1_replay 3 = .ok (.aload_n 0, 1) := by decide +kernel
theorem dX1_replay_4 : decode cX1_replay 4 = .ok (.getfield 15, 3) := by decide +kernel
theorem dX1_replay_7 : decode cX1_replay 7 = .ok (.arraylength, 1) := by decide +kernel
theorem dX1_replay_8 : decode cX1_replay 8 = .ok (.if_icmp .ge 17, 3) := by decide +kernel
theorem dX1_replay_11 : decode cX1_replay 11 = .ok (.aload_n 0, 1) := by decide +kernel
theorem dX1_replay_12 : decode cX1_replay 12 = .ok (.getfield 15, 3) := by decide +kernel
theorem dX1_replay_15 : decode cX1_replay 15 = .ok (.iload_n 1, 1) := by decide +kernel
theorem dX1_replay_16 : decode cX1_replay 16 = .ok (.bipush 45, 2) := by decide +kernel
theorem dX1_replay_18 : decode cX1_replay 18 = .ok (.castore, 1) := by decide +kernel
theorem dX1_replay_19 : decode cX1_replay 19 = .ok (.iinc 1 1, 3) := by decide +kernel
theorem dX1_replay_22 : decode cX1_replay 22 = .ok (.goto (-20), 3) := by decide +kernel
theorem dX1_replay_25 : decode cX1_replay 25 = .ok (.iconst 0, 1) := by decide +kernel
theorem dX1_replay_26 : decode cX1_replay 26 = .ok (.istore_n 1, 1) := by decide +kernel
theorem dX1_replay_27 : decode cX1_replay 27 = .ok (.iload_n 1, 1) := by decide +kernel
theorem dX1_replay_28 : decode cX1_replay 28 = .ok (.aload_n 0, 1) := by decide +kernel
theorem dX1_replay_29 : decode cX1_replay 29 = .ok (.getfield 19, 3) := by decide +kernel
theorem dX1_replay_32 : decode cX1_replay 32 = .ok (.if_icmp .ge 58, 3) := by decide +kernel
theorem dX1_replay_35 : decode cX1_replay 35 = .ok (.iload_n 1, 1) := by decide +kernel
theorem dX1_replay_36 : decode cX1_replay 36 = .ok (.aload_n 0, 1) := by decide +kernel
theorem dX1_replay_37 : decode cX1_replay 37 = .ok (.getfield 9, 3) := by decide +kernel
theorem dX1_replay_40 : decode cX1_replay 40 = .ok (.arraylength, 1) := by decide +kernel
theorem dX1_replay_41 : decode cX1_replay 41 = .ok (.if_icmp .ge 49, 3) := by decide +kernel
theorem dX1_replay_44 : decode cX1_replay 44 = .ok (.aload_n 0, 1) := by decide +kernel
theorem dX1_replay_45 : decode cX1_replay 45 = .ok (.getfield 9, 3) := by decide +kernel
theorem dX1_replay_48 : decode cX1_replay 48 = .ok (.iload_n 1, 1) := by decide +kernel
theorem dX1_replay_49 : decode cX1_replay 49 = .ok (.iaload, 1) := by decide +kernel
theorem dX1_replay_50 : decode cX1_replay 50 = .ok (.bipush 8, 2) := by decide +kernel
theorem dX1_replay_52 : decode cX1_replay 52 = .ok (.ishr, 1) := by decide +kernel
theorem dX1_replay_53 : decode cX1_replay 53 = .ok (.istore_n 2, 1) := by decide +kernel
theorem dX1_replay_54 : decode cX1_replay 54 = .ok (.iload_n 2, 1) := by decide +kernel
theorem dX1_replay_55 : decode cX1_replay 55 = .ok (.ifCond .lt 29, 3) := by decide +kernel
theorem dX1_replay_58 : decode cX1_replay 58 = .ok (.iload_n 2, 1) := by decide +kernel
theorem dX1_replay_59 : decode cX1_replay 59 = .ok (.aload_n 0, 1) := by decide +kernel
theorem dX1_replay_60 : decode cX1_replay 60 = .ok (.getfield 15, 3) := by decide +kernel
theorem dX1_replay_63 : decode cX1_replay 63 = .ok (.arraylength, 1) := by decide +kernel
theorem dX1_replay_64 : decode cX1_replay 64 = .ok (.if_icmp .ge 20, 3) := by decide +kernel
theorem dX1_replay_67 : decode cX1_replay 67 = .ok (.aload_n 0, 1) := by decide +kernel
theorem dX1_replay_68 : decode cX1_replay 68 = .ok (.getfield 15, 3) := by decide +kernel
theorem dX1_replay_71 : decode cX1_replay 71 = .ok (.iload_n 2, 1) := by decide +kernel
theorem dX1_replay_72 : decode cX1_replay 72 = .ok (.aload_n 0, 1) := by decide +kernel
theorem dX1_replay_73 : decode cX1_replay 73 = .ok (.getfield 9, 3) := by decide +kernel
theorem dX1_replay_76 : decode cX1_replay 76 = .ok (.iload_n 1, 1) := by decide +kernel
theorem dX1_replay_77 : decode cX1_replay 77 = .ok (.iaload, 1) := by decide +kernel
theorem dX1_replay_78 : decode cX1_replay 78 = .ok (.sipush 255, 3) := by decide +kernel
theorem dX1_replay_81 : decode cX1_replay 81 = .ok (.iand, 1) := by decide +kernel
theorem dX1_replay_82 : decode cX1_replay 82 = .ok (.i2c, 1) := by decide +kernel
theorem dX1_replay_83 : decode cX1_replay 83 = .ok (.castore, 1) := by decide +kernel
theorem dX1_replay_84 : decode cX1_replay 84 = .ok (.iinc 1 1, 3) := by decide +kernel
theorem dX1_replay_87 : decode cX1_replay 87 = .ok (.goto (-60), 3) := by decide +kernel
theorem dX1_replay_90 : decode cX1_replay 90 = .ok (.return_, 1) := by decide +kernel
theorem dX1_replayedPlace_0 : decode cX1_replayedPlace 0 = .ok (.iload_n 1, 1) := by decide +kernel
theorem dX1_replayedPlace_1 : decode cX1_replayedPlace 1 = .ok (.ifCond .lt 21, 3) := by decide +kernel
theorem dX1_replayedPlace_4 : decode cX1_replayedPlace 4 = .ok (.iload_n 1, 1) := by decide +kernel
theorem dX1_replayedPlace_5 : decode cX1_replayedPlace 5 = .ok (.aload_n 0, 1) := by decide +kernel
theorem dX1_replayedPlace_6 : decode cX1_replayedPlace 6 = .ok (.getfield 15, 3) := by decide +kernel
theorem dX1_replayedPlace_9 : decode cX1_replayedPlace 9 = .ok (.arraylength, 1) := by decide +kernel
theorem dX1_replayedPlace_10 : decode cX1_replayedPlace 10 = .ok (.if_icmp .ge 12, 3) := by decide +kernel
theorem dX1_replayedPlace_13 : decode cX1_replayedPlace 13 = .ok (.aload_n 0, 1) := by decide +kernel
theorem dX1_replayedPlace_14 : decode cX1_replayedPlace 14 = .ok (.getfield 15, 3) := by decide +kernel
theorem dX1_replayedPlace_17 : decode cX1_replayedPlace 17 = .ok (.iload_n 1, 1) := by decide +kernel
theorem dX1_replayedPlace_18 : decode cX1_replayedPlace 18 = .ok (.caload, 1) := by decide +kernel
theorem dX1_replayedPlace_19 : decode cX1_replayedPlace 19 = .ok (.goto 5, 3) := by decide +kernel
theorem dX1_replayedPlace_22 : decode cX1_replayedPlace 22 = .ok (.bipush 45, 2) := by decide +kernel
theorem dX1_replayedPlace_24 : decode cX1_replayedPlace 24 = .ok (.ireturn, 1) := by decide +kernel
theorem dX2_init_0 : decode cX2_init 0 = .ok (.aload_n 0, 1) := by decide +kernel
theorem dX2_init_1 : decode cX2_init 1 = .ok (.invokespecial 3, 3) := by decide +kernel
theorem dX2_init_4 : decode cX2_init 4 = .ok (.aload_n 0, 1) := by decide +kernel
theorem dX2_init_5 : decode cX2_init 5 = .ok (.iconst 2, 1) := by decide +kernel
theorem dX2_init_6 : decode cX2_init 6 = .ok (.putfield 9, 3) := by decide +kernel
theorem dX2_init_9 : decode cX2_init 9 = .ok (.aload_n 0, 1) := by decide +kernel
theorem dX2_init_10 : decode cX2_init 10 = .ok (.bipush 45, 2) := by decide +kernel
theorem dX2_init_12 : decode cX2_init 12 = .ok (.putfield 15, 3) := by decide +kernel
theorem dX2_init_15 : decode cX2_init 15 = .ok (.aload_n 0, 1) := by decide +kernel
theorem dX2_init_16 : decode cX2_init 16 = .ok (.iconst (-1), 1) := by decide +kernel
theorem dX2_init_17 : decode cX2_init 17 = .ok (.putfield 19, 3) := by decide +kernel
theorem dX2_init_20 : decode cX2_init 20 = .ok (.aload_n 0, 1) := by decide +kernel
theorem dX2_init_21 : decode cX2_init 21 = .ok (.iload_n 1, 1) := by decide +kernel
theorem dX2_init_22 : decode cX2_init 22 = .ok (.putfield 22, 3) := by decide +kernel
theorem dX2_init_25 : decode cX2_init 25 = .ok (.aload_n 0, 1) := by decide +kernel
theorem dX2_init_26 : decode cX2_init 26 = .ok (.aload_n 2, 1) := by decide +kernel
theorem dX2_init_27 : decode cX2_init 27 = .ok (.putfield 25, 3) := by decide +kernel
theorem dX2_init_30 : decode cX2_init 30 = .ok (.return_, 1) := by decide +kernel
theorem dX2_moveIntoFrame_0 : decode cX2_moveIntoFrame 0 = .ok (.aload_n 0, 1) := by decide +kernel
theorem dX2_moveIntoFrame_1 : decode cX2_moveIntoFrame 1 = .ok (.bipush 102, 2) := by decide +kernel
theorem dX2_moveIntoFrame_3 : decode cX2_moveIntoFrame 3 = .ok (.invokevirtual 29, 3) := by decide +kernel
theorem dX2_moveIntoFrame_6 : decode cX2_moveIntoFrame 6 = .ok (.aload_n 0, 1) := by decide +kernel
theorem dX2_moveIntoFrame_7 : decode cX2_moveIntoFrame 7 = .ok (.iload_n 1, 1) := by decide +kernel
theorem dX2_moveIntoFrame_8 : decode cX2_moveIntoFrame 8 = .ok (.putfield 19, 3) := by decide +kernel
theorem dX2_moveIntoFrame_11 : decode cX2_moveIntoFrame 11 = .ok (.aload_n 0, 1) := by decide +kernel
theorem dX2_moveIntoFrame_12 : decode cX2_moveIntoFrame 12 = .ok (.iconst 1, 1) := by decide +kernel
theorem dX2_moveIntoFrame_13 : decode cX2_moveIntoFrame 13 = .ok (.putfield 33, 3) := by decide +kernel
theorem dX2_moveIntoFrame_16 : decode cX2_moveIntoFrame 16 = .ok (.return_, 1) := by decide +kernel
theorem dX2_moveTo_0 : decode cX2_moveTo 0 = .ok (.aload_n 0, 1) := by decide +kernel
theorem dX2_moveTo_1 : decode cX2_moveTo 1 = .ok (.iload_n 1, 1) := by decide +kernel
theorem dX2_moveTo_2 : decode cX2_moveTo 2 = .ok (.putfield 15, 3) := by decide +kernel
theorem dX2_moveTo_5 : decode cX2_moveTo 5 = .ok (.aload_n 0, 1) := by decide +kernel
theorem dX2_moveTo_6 : decode cX2_moveTo 6 = .ok (.iconst (-1), 1) := by decide +kernel
theorem dX2_moveTo_7 : decode cX2_moveTo 7 = .ok (.putfield 19, 3) := by decide +kernel
theorem dX2_moveTo_10 : decode cX2_moveTo 10 = .ok (.aload_n 0, 1) := by decide +kernel
theorem dX2_moveTo_11 : decode cX2_moveTo 11 = .ok (.iconst 0, 1) := by decide +kernel
theorem dX2_moveTo_12 : decode cX2_moveTo 12 = .ok (.putfield 33, 3) := by decide +kernel
theorem dX2_moveTo_15 : decode cX2_moveTo 15 = .ok (.aload_n 0, 1) := by decide +kernel
theorem dX2_moveTo_16 : decode cX2_moveTo 16 = .ok (.getfield 25, 3) := by decide +kernel
theorem dX2_moveTo_19 : decode cX2_moveTo 19 = .ok (.aload_n 0, 1) := by decide +kernel
theorem dX2_moveTo_20 : decode cX2_moveTo 20 = .ok (.getfield 22, 3) := by decide +kernel
theorem dX2_moveTo_23 : decode cX2_moveTo 23 = .ok (.iload_n 1, 1) := by decide +kernel
theorem dX2_moveTo_24 : decode cX2_moveTo 24 = .ok (.invokevirtual 37, 3) := by decide +kernel
theorem dX2_moveTo_27 : decode cX2_moveTo 27 = .ok (.return_, 1) := by decide +kernel
theorem dX3_init_0 : decode cX3_init 0 = .ok (.aload_n 0, 1) := by decide +kernel
theorem dX3_init_1 : decode cX3_init 1 = .ok (.invokespecial 1, 3) := by decide +kernel
theorem dX3_init_4 : decode cX3_init 4 = .ok (.aload_n 0, 1) := by decide +kernel
theorem dX3_init_5 : decode cX3_init 5 = .ok (.iconst 4, 1) := by decide +kernel
theorem dX3_init_6 : decode cX3_init 6 = .ok (.newarray .int, 2) := by decide +kernel
theorem dX3_init_8 : decode cX3_init 8 = .ok (.putfield 7, 3) := by decide +kernel
theorem dX3_init_11 : decode cX3_init 11 = .ok (.return_, 1) := by decide +kernel
theorem dX3_add_0 : decode cX3_add 0 = .ok (.aload_n 0, 1) := by decide +kernel
theorem dX3_add_1 : decode cX3_add 1 = .ok (.getfield 7, 3) := by decide +kernel
theorem dX3_add_4 : decode cX3_add 4 = .ok (.iconst 0, 1) := by decide +kernel
theorem dX3_add_5 : decode cX3_add 5 = .ok (.dup2, 1) := by decide +kernel
theorem dX3_add_6 : decode cX3_add 6 = .ok (.iaload, 1) := by decide +kernel
theorem dX3_add_7 : decode cX3_add 7 = .ok (.iload_n 1, 1) := by decide +kernel
theorem dX3_add_8 : decode cX3_add 8 = .ok (.iadd, 1) := by decide +kernel
theorem dX3_add_9 : decode cX3_add 9 = .ok (.iastore, 1) := by decide +kernel
theorem dX3_add_10 : decode cX3_add 10 = .ok (.return_, 1) := by decide +kernel
theorem dX3_sum_0 : decode cX3_sum 0 = .ok (.iconst 0, 1) := by decide +kernel
theorem dX3_sum_1 : decode cX3_sum 1 = .ok (.istore_n 1, 1) := by decide +kernel
theorem dX3_sum_2 : decode cX3_sum 2 = .ok (.aload_n 0, 1) := by decide +kernel
theorem dX3_sum_3 : decode cX3_sum 3 = .ok (.getfield 7, 3) := by decide +kernel
theorem dX3_sum_6 : decode cX3_sum 6 = .ok (.astore_n 2, 1) := by decide +kernel
theorem dX3_sum_7 : decode cX3_sum 7 = .ok (.aload_n 2, 1) := by decide +kernel
theorem dX3_sum_8 : decode cX3_sum 8 = .ok (.arraylength, 1) := by decide +kernel
theorem dX3_sum_9 : decode cX3_sum 9 = .ok (.istore_n 3, 1) := by decide +kernel
theorem dX3_sum_10 : decode cX3_sum 10 = .ok (.iconst 0, 1) := by decide +kernel
theorem dX3_sum_11 : decode cX3_sum 11 = .ok (.istore 4, 2) := by decide +kernel
theorem dX3_sum_13 : decode cX3_sum 13 = .ok (.iload 4, 2) := by decide +kernel
theorem dX3_sum_15 : decode cX3_sum 15 = .ok (.iload_n 3, 1) := by decide +kernel
theorem dX3_sum_16 : decode cX3_sum 16 = .ok (.if_icmp .ge 20, 3) := by decide +kernel
theorem dX3_sum_19 : decode cX3_sum 19 = .ok (.aload_n 2, 1) := by decide +kernel
theorem dX3_sum_20 : decode cX3_sum 20 = .ok (.iload 4, 2) := by decide +kernel
theorem dX3_sum_22 : decode cX3_sum 22 = .ok (.iaload, 1) := by decide +kernel
theorem dX3_sum_23 : decode cX3_sum 23 = .ok (.istore 5, 2) := by decide +kernel
theorem dX3_sum_25 : decode cX3_sum 25 = .ok (.iload_n 1, 1) := by decide +kernel
theorem dX3_sum_26 : decode cX3_sum 26 = .ok (.iload 5, 2) := by decide +kernel
theorem dX3_sum_28 : decode cX3_sum 28 = .ok (.iadd, 1) := by decide +kernel
theorem dX3_sum_29 : decode cX3_sum 29 = .ok (.istore_n 1, 1) := by decide +kernel
theorem dX3_sum_30 : decode cX3_sum 30 = .ok (.iinc 4 1, 3) := by decide +kernel
theorem dX3_sum_33 : decode cX3_sum 33 = .ok (.goto (-20), 3) := by decide +kernel
theorem dX3_sum_36 : decode cX3_sum 36 = .ok (.iload_n 1, 1) := by decide +kernel
theorem dX3_sum_37 : decode cX3_sum 37 = .ok (.ireturn, 1) := by decide +kernel
theorem dX3_forget_0 : decode cX3_forget 0 = .ok (.iconst 0, 1) := by decide +kernel
theorem dX3_forget_1 : decode cX3_forget 1 = .ok (.istore_n 1, 1) := by decide +kernel
theorem dX3_forget_2 : decode cX3_forget 2 = .ok (.iload_n 1, 1) := by decide +kernel
theorem dX3_forget_3 : decode cX3_forget 3 = .ok (.aload_n 0, 1) := by decide +kernel
theorem dX3_forget_4 : decode cX3_forget 4 = .ok (.getfield 7, 3) := by decide +kernel
theorem dX3_forget_7 : decode cX3_forget 7 = .ok (.arraylength, 1) := by decide +kernel
theorem dX3_forget_8 : decode cX3_forget 8 = .ok (.if_icmp .ge 16, 3) := by decide +kernel
theorem dX3_forget_11 : decode cX3_forget 11 = .ok (.aload_n 0, 1) := by decide +kernel
theorem dX3_forget_12 : decode cX3_forget 12 = .ok (.getfield 7, 3) := by decide +kernel
theorem dX3_forget_15 : decode cX3_forget 15 = .ok (.iload_n 1, 1) := by decide +kernel
theorem dX3_forget_16 : decode cX3_forget 16 = .ok (.iconst 0, 1) := by decide +kernel
theorem dX3_forget_17 : decode cX3_forget 17 = .ok (.iastore, 1) := by decide +kernel
theorem dX3_forget_18 : decode cX3_forget 18 = .ok (.iinc 1 1, 3) := by decide +kernel
theorem dX3_forget_21 : decode cX3_forget 21 = .ok (.goto (-19), 3) := by decide +kernel
theorem dX3_forget_24 : decode cX3_forget 24 = .ok (.return_, 1) := by decide +kernel
theorem dX3_beginTick_0 : decode cX3_beginTick 0 = .ok (.aload_n 0, 1) := by decide +kernel
theorem dX3_beginTick_1 : decode cX3_beginTick 1 = .ok (.getfield 7, 3) := by decide +kernel
theorem dX3_beginTick_4 : decode cX3_beginTick 4 = .ok (.arraylength, 1) := by decide +kernel
theorem dX3_beginTick_5 : decode cX3_beginTick 5 = .ok (.iconst 1, 1) := by decide +kernel
theorem dX3_beginTick_6 : decode cX3_beginTick 6 = .ok (.isub, 1) := by decide +kernel
theorem dX3_beginTick_7 : decode cX3_beginTick 7 = .ok (.istore_n 1, 1) := by decide +kernel
theorem dX3_beginTick_8 : decode cX3_beginTick 8 = .ok (.iload_n 1, 1) := by decide +kernel
theorem dX3_beginTick_9 : decode cX3_beginTick 9 = .ok (.ifCond .le 23, 3) := by decide +kernel
theorem dX3_beginTick_12 : decode cX3_beginTick 12 = .ok (.aload_n 0, 1) := by decide +kernel
theorem dX3_beginTick_13 : decode cX3_beginTick 13 = .ok (.getfield 7, 3) := by decide +kernel
theorem dX3_beginTick_16 : decode cX3_beginTick 16 = .ok (.iload_n 1, 1) := by decide +kernel
theorem dX3_beginTick_17 : decode cX3_beginTick 17 = .ok (.aload_n 0, 1) := by decide +kernel
theorem dX3_beginTick_18 : decode cX3_beginTick 18 = .ok (.getfield 7, 3) := by decide +kernel
theorem dX3_beginTick_21 : decode cX3_beginTick 21 = .ok (.iload_n 1, 1) := by decide +kernel
theorem dX3_beginTick_22 : decode cX3_beginTick 22 = .ok (.iconst 1, 1) := by decide +kernel
theorem dX3_beginTick_23 : decode cX3_beginTick 23 = .ok (.isub, 1) := by decide +kernel
theorem dX3_beginTick_24 : decode cX3_beginTick 24 = .ok (.iaload, 1) := by decide +kernel
theorem dX3_beginTick_25 : decode cX3_beginTick 25 = .ok (.iastore, 1) := by decide +kernel
theorem dX3_beginTick_26 : decode cX3_beginTick 26 = .ok (.iinc 1 (-1), 3) := by decide +kernel
theorem dX3_beginTick_29 : decode cX3_beginTick 29 = .ok (.goto (-21), 3) := by decide +kernel
theorem dX3_beginTick_32 : decode cX3_beginTick 32 = .ok (.aload_n 0, 1) := by decide +kernel
theorem dX3_beginTick_33 : decode cX3_beginTick 33 = .ok (.getfield 7, 3) := by decide +kernel
theorem dX3_beginTick_36 : decode cX3_beginTick 36 = .ok (.iconst 0, 1) := by decide +kernel
theorem dX3_beginTick_37 : decode cX3_beginTick 37 = .ok (.iconst 0, 1) := by decide +kernel
theorem dX3_beginTick_38 : decode cX3_beginTick 38 = .ok (.iastore, 1) := by decide +kernel
theorem dX3_beginTick_39 : decode cX3_beginTick 39 = .ok (.return_, 1) := by decide +kernel
theorem dX4_init_0 : decode cX4_init 0 = .ok (.aload_n 0, 1) := by decide +kernel
theorem dX4_init_1 : decode cX4_init 1 = .ok (.invokespecial 3, 3) := by decide +kernel
theorem dX4_init_4 : decode cX4_init 4 = .ok (.aload_n 0, 1) := by decide +kernel
theorem dX4_init_5 : decode cX4_init 5 = .ok (.bipush 8, 2) := by decide +kernel
theorem dX4_init_7 : decode cX4_init 7 = .ok (.anewarray 9, 3) := by decide +kernel
theorem dX4_init_10 : decode cX4_init 10 = .ok (.putfield 11, 3) := by decide +kernel
theorem dX4_init_13 : decode cX4_init 13 = .ok (.aload_n 0, 1) := by decide +kernel
theorem dX4_init_14 : decode cX4_init 14 = .ok (.iload_n 1, 1) := by decide +kernel
theorem dX4_init_15 : decode cX4_init 15 = .ok (.putfield 17, 3) := by decide +kernel
theorem dX4_init_18 : decode cX4_init 18 = .ok (.aload_n 0, 1) := by decide +kernel
theorem dX4_init_19 : decode cX4_init 19 = .ok (.iload_n 2, 1) := by decide +kernel
theorem dX4_init_20 : decode cX4_init 20 = .ok (.putfield 21, 3) := by decide +kernel
theorem dX4_init_23 : decode cX4_init 23 = .ok (.aload_n 0, 1) := by decide +kernel
theorem dX4_init_24 : decode cX4_init 24 = .ok (.iload_n 3, 1) := by decide +kernel
theorem dX4_init_25 : decode cX4_init 25 = .ok (.putfield 24, 3) := by decide +kernel
theorem dX4_init_28 : decode cX4_init 28 = .ok (.aload_n 0, 1) := by decide +kernel
theorem dX4_init_29 : decode cX4_init 29 = .ok (.iload 4, 2) := by decide +kernel
theorem dX4_init_31 : decode cX4_init 31 = .ok (.putfield 28, 3) := by decide +kernel
theorem dX4_init_34 : decode cX4_init 34 = .ok (.iconst 0, 1) := by decide +kernel
theorem dX4_init_35 : decode cX4_init 35 = .ok (.istore 6, 2) := by decide +kernel
theorem dX4_init_37 : decode cX4_init 37 = .ok (.iload 6, 2) := by decide +kernel
theorem dX4_init_39 : decode cX4_init 39 = .ok (.aload_n 0, 1) := by decide +kernel
theorem dX4_init_40 : decode cX4_init 40 = .ok (.getfield 11, 3) := by decide +kernel
theorem dX4_init_43 : decode cX4_init 43 = .ok (.arraylength, 1) := by decide +kernel
theorem dX4_init_44 : decode cX4_init 44 = .ok (.if_icmp .ge 32, 3) := by decide +kernel
theorem dX4_init_47 : decode cX4_init 47 = .ok (.aload_n 0, 1) := by decide +kernel
theorem dX4_init_48 : decode cX4_init 48 = .ok (.getfield 11, 3) := by decide +kernel
theorem dX4_init_51 : decode cX4_init 51 = .ok (.iload 6, 2) := by decide +kernel
theorem dX4_init_53 : decode cX4_init 53 = .ok (.new 9, 3) := by decide +kernel
theorem dX4_init_56 : decode cX4_init 56 = .ok (.dup, 1) := by decide +kernel
theorem dX4_init_57 : decode cX4_init 57 = .ok (.bipush 8, 2) := by decide +kernel
theorem dX4_init_59 : decode cX4_init 59 = .ok (.iload_n 1, 1) := by decide +kernel
theorem dX4_init_60 : decode cX4_init 60 = .ok (.imul, 1) := by decide +kernel
theorem dX4_init_61 : decode cX4_init 61 = .ok (.iload 6, 2) := by decide +kernel
theorem dX4_init_63 : decode cX4_init 63 = .ok (.iadd, 1) := by decide +kernel
theorem dX4_init_64 : decode cX4_init 64 = .ok (.aload 5, 2) := by decide +kernel
theorem dX4_init_66 : decode cX4_init 66 = .ok (.invokespecial 31, 3) := by decide +kernel
theorem dX4_init_69 : decode cX4_init 69 = .ok (.aastore, 1) := by decide +kernel
theorem dX4_init_70 : decode cX4_init 70 = .ok (.iinc 6 1, 3) := by decide +kernel
theorem dX4_init_73 : decode cX4_init 73 = .ok (.goto (-36), 3) := by decide +kernel
theorem dX4_init_76 : decode cX4_init 76 = .ok (.return_, 1) := by decide +kernel
theorem dX4_countPages_0 : decode cX4_countPages 0 = .ok (.iconst 0, 1) := by decide +kernel
theorem dX4_countPages_1 : decode cX4_countPages 1 = .ok (.istore_n 2, 1) := by decide +kernel
theorem dX4_countPages_2 : decode cX4_countPages 2 = .ok (.aload_n 0, 1) := by decide +kernel
theorem dX4_countPages_3 : decode cX4_countPages 3 = .ok (.getfield 11, 3) := by decide +kernel
theorem dX4_countPages_6 : decode cX4_countPages 6 = .ok (.astore_n 3, 1) := by decide +kernel
theorem dX4_countPages_7 : decode cX4_countPages 7 = .ok (.aload_n 3, 1) := by decide +kernel
theorem dX4_countPages_8 : decode cX4_countPages 8 = .ok (.arraylength, 1) := by decide +kernel
theorem dX4_countPages_9 : decode cX4_countPages 9 = .ok (.istore 4, 2) := by decide +kernel
theorem dX4_countPages_11 : decode cX4_countPages 11 = .ok (.iconst 0, 1) := by decide +kernel
theorem dX4_countPages_12 : decode cX4_countPages 12 = .ok (.istore 5, 2) := by decide +kernel
theorem dX4_countPages_14 : decode cX4_countPages 14 = .ok (.iload 5, 2) := by decide +kernel
theorem dX4_countPages_16 : decode cX4_countPages 16 = .ok (.iload 4, 2) := by decide +kernel
theorem dX4_countPages_18 : decode cX4_countPages 18 = .ok (.if_icmp .ge 27, 3) := by decide +kernel
theorem dX4_countPages_21 : decode cX4_countPages 21 = .ok (.aload_n 3, 1) := by decide +kernel
theorem dX4_countPages_22 : decode cX4_countPages 22 = .ok (.iload 5, 2) := by decide +kernel
theorem dX4_countPages_24 : decode cX4_countPages 24 = .ok (.aaload, 1) := by decide +kernel
theorem dX4_countPages_25 : decode cX4_countPages 25 = .ok (.astore 6, 2) := by decide +kernel
theorem dX4_countPages_27 : decode cX4_countPages 27 = .ok (.aload 6, 2) := by decide +kernel
theorem dX4_countPages_29 : decode cX4_countPages 29 = .ok (.getfield 34, 3) := by decide +kernel
theorem dX4_countPages_32 : decode cX4_countPages 32 = .ok (.iload_n 1, 1) := by decide +kernel
theorem dX4_countPages_33 : decode cX4_countPages 33 = .ok (.if_icmp .ne 6, 3) := by decide +kernel
theorem dX4_countPages_36 : decode cX4_countPages 36 = .ok (.iinc 2 1, 3) := by decide +kernel
theorem dX4_countPages_39 : decode cX4_countPages 39 = .ok (.iinc 5 1, 3) := by decide +kernel
theorem dX4_countPages_42 : decode cX4_countPages 42 = .ok (.goto (-28), 3) := by decide +kernel
theorem dX4_countPages_45 : decode cX4_countPages 45 = .ok (.iload_n 2, 1) := by decide +kernel
theorem dX4_countPages_46 : decode cX4_countPages 46 = .ok (.ireturn, 1) := by decide +kernel
theorem dX4_killScore_0 : decode cX4_killScore 0 = .ok (.bipush 10, 2) := by decide +kernel
theorem dX4_killScore_2 : decode cX4_killScore 2 = .ok (.aload_n 0, 1) := by decide +kernel
theorem dX4_killScore_3 : decode cX4_killScore 3 = .ok (.bipush 102, 2) := by decide +kernel
theorem dX4_killScore_5 : decode cX4_killScore 5 = .ok (.invokevirtual 37, 3) := by decide +kernel
theorem dX4_killScore_8 : decode cX4_killScore 8 = .ok (.imul, 1) := by decide +kernel
theorem dX4_killScore_9 : decode cX4_killScore 9 = .ok (.iconst 3, 1) := by decide +kernel
theorem dX4_killScore_10 : decode cX4_killScore 10 = .ok (.aload_n 0, 1) := by decide +kernel
theorem dX4_killScore_11 : decode cX4_killScore 11 = .ok (.bipush 115, 2) := by decide +kernel
theorem dX4_killScore_13 : decode cX4_killScore 13 = .ok (.invokevirtual 37, 3) := by decide +kernel
theorem dX4_killScore_16 : decode cX4_killScore 16 = .ok (.imul, 1) := by decide +kernel
theorem dX4_killScore_17 : decode cX4_killScore 17 = .ok (.iadd, 1) := by decide +kernel
theorem dX4_killScore_18 : decode cX4_killScore 18 = .ok (.aload_n 0, 1) := by decide +kernel
theorem dX4_killScore_19 : decode cX4_killScore 19 = .ok (.bipush 100, 2) := by decide +kernel
theorem dX4_killScore_21 : decode cX4_killScore 21 = .ok (.invokevirtual 37, 3) := by decide +kernel
theorem dX4_killScore_24 : decode cX4_killScore 24 = .ok (.iadd, 1) := by decide +kernel
theorem dX4_killScore_25 : decode cX4_killScore 25 = .ok (.aload_n 0, 1) := by decide +kernel
theorem dX4_killScore_26 : decode cX4_killScore 26 = .ok (.getfield 21, 3) := by decide +kernel
theorem dX4_killScore_29 : decode cX4_killScore 29 = .ok (.isub, 1) := by decide +kernel
theorem dX4_killScore_30 : decode cX4_killScore 30 = .ok (.bipush 20, 2) := by decide +kernel
theorem dX4_killScore_32 : decode cX4_killScore 32 = .ok (.aload_n 0, 1) := by decide +kernel
theorem dX4_killScore_33 : decode cX4_killScore 33 = .ok (.getfield 41, 3) := by decide +kernel
theorem dX4_killScore_36 : decode cX4_killScore 36 = .ok (.imul, 1) := by decide +kernel
theorem dX4_killScore_37 : decode cX4_killScore 37 = .ok (.isub, 1) := by decide +kernel
theorem dX4_killScore_38 : decode cX4_killScore 38 = .ok (.ireturn, 1) := by decide +kernel
theorem dX4_delayLeft_0 : decode cX4_delayLeft 0 = .ok (.aload_n 0, 1) := by decide +kernel
theorem dX4_delayLeft_1 : decode cX4_delayLeft 1 = .ok (.getfield 28, 3) := by decide +kernel
theorem dX4_delayLeft_4 : decode cX4_delayLeft 4 = .ok (.iload_n 1, 1) := by decide +kernel
theorem dX4_delayLeft_5 : decode cX4_delayLeft 5 = .ok (.aload_n 0, 1) := by decide +kernel
theorem dX4_delayLeft_6 : decode cX4_delayLeft 6 = .ok (.getfield 44, 3) := by decide +kernel
theorem dX4_delayLeft_9 : decode cX4_delayLeft 9 = .ok (.isub, 1) := by decide +kernel
theorem dX4_delayLeft_10 : decode cX4_delayLeft 10 = .ok (.isub, 1) := by decide +kernel
theorem dX4_delayLeft_11 : decode cX4_delayLeft 11 = .ok (.ireturn, 1) := by decide +kernel
theorem dX5_init_0 : decode cX5_init 0 = .ok (.aload_n 0, 1) := by decide +kernel
theorem dX5_init_1 : decode cX5_init 1 = .ok (.invokespecial 3, 3) := by decide +kernel
theorem dX5_init_4 : decode cX5_init 4 = .ok (.aload_n 0, 1) := by decide +kernel
theorem dX5_init_5 : decode cX5_init 5 = .ok (.new 9, 3) := by decide +kernel
theorem dX5_init_8 : decode cX5_init 8 = .ok (.dup, 1) := by decide +kernel
theorem dX5_init_9 : decode cX5_init 9 = .ok (.invokespecial 11, 3) := by decide +kernel
theorem dX5_init_12 : decode cX5_init 12 = .ok (.putfield 12, 3) := by decide +kernel
theorem dX5_init_15 : decode cX5_init 15 = .ok (.aload_n 0, 1) := by decide +kernel
theorem dX5_init_16 : decode cX5_init 16 = .ok (.bipush 6, 2) := by decide +kernel
theorem dX5_init_18 : decode cX5_init 18 = .ok (.putfield 18, 3) := by decide +kernel
theorem dX5_init_21 : decode cX5_init 21 = .ok (.return_, 1) := by decide +kernel
theorem dX5_takenRoom_0 : decode cX5_takenRoom 0 = .ok (.iconst 0, 1) := by decide +kernel
theorem dX5_takenRoom_1 : decode cX5_takenRoom 1 = .ok (.istore_n 1, 1) := by decide +kernel
theorem dX5_takenRoom_2 : decode cX5_takenRoom 2 = .ok (.iconst 0, 1) := by decide +kernel
theorem dX5_takenRoom_3 : decode cX5_takenRoom 3 = .ok (.istore_n 2, 1) := by decide +kernel
theorem dX5_takenRoom_4 : decode cX5_takenRoom 4 = .ok (.iload_n 2, 1) := by decide +kernel
theorem dX5_takenRoom_5 : decode cX5_takenRoom 5 = .ok (.aload_n 0, 1) := by decide +kernel
theorem dX5_takenRoom_6 : decode cX5_takenRoom 6 = .ok (.getfield 12, 3) := by decide +kernel
theorem dX5_takenRoom_9 : decode cX5_takenRoom 9 = .ok (.invokevirtual 22, 3) := by decide +kernel
theorem dX5_takenRoom_12 : decode cX5_takenRoom 12 = .ok (.if_icmp .ge 26, 3) := by decide +kernel
theorem dX5_takenRoom_15 : decode cX5_takenRoom 15 = .ok (.iload_n 1, 1) := by decide +kernel
theorem dX5_takenRoom_16 : decode cX5_takenRoom 16 = .ok (.aload_n 0, 1) := by decide +kernel
theorem dX5_takenRoom_17 : decode cX5_takenRoom 17 = .ok (.getfield 12, 3) := by decide +kernel
theorem dX5_takenRoom_20 : decode cX5_takenRoom 20 = .ok (.iload_n 2, 1) := by decide +kernel
theorem dX5_takenRoom_21 : decode cX5_takenRoom 21 = .ok (.invokevirtual 26, 3) := by decide +kernel
theorem dX5_takenRoom_24 : decode cX5_takenRoom 24 = .ok (.checkcast 30, 3) := by decide +kernel
theorem dX5_takenRoom_27 : decode cX5_takenRoom 27 = .ok (.getfield 32, 3) := by decide +kernel
theorem dX5_takenRoom_30 : decode cX5_takenRoom 30 = .ok (.iadd, 1) := by decide +kernel
theorem dX5_takenRoom_31 : decode cX5_takenRoom 31 = .ok (.istore_n 1, 1) := by decide +kernel
theorem dX5_takenRoom_32 : decode cX5_takenRoom 32 = .ok (.iinc 2 1, 3) := by decide +kernel
theorem dX5_takenRoom_35 : decode cX5_takenRoom 35 = .ok (.goto (-31), 3) := by decide +kernel
theorem dX5_takenRoom_38 : decode cX5_takenRoom 38 = .ok (.iload_n 1, 1) := by decide +kernel
theorem dX5_takenRoom_39 : decode cX5_takenRoom 39 = .ok (.ireturn, 1) := by decide +kernel
theorem dX5_takeIn_0 : decode cX5_takeIn 0 = .ok (.aload_n 1, 1) := by decide +kernel
theorem dX5_takeIn_1 : decode cX5_takeIn 1 = .ok (.getfield 32, 3) := by decide +kernel
theorem dX5_takeIn_4 : decode cX5_takeIn 4 = .ok (.aload_n 0, 1) := by decide +kernel
theorem dX5_takeIn_5 : decode cX5_takeIn 5 = .ok (.getfield 18, 3) := by decide +kernel
theorem dX5_takeIn_8 : decode cX5_takeIn 8 = .ok (.if_icmp .le 11, 3) := by decide +kernel
theorem dX5_takeIn_11 : decode cX5_takeIn 11 = .ok (.aload_n 1, 1) := by decide +kernel
theorem dX5_takeIn_12 : decode cX5_takeIn 12 = .ok (.bipush 100, 2) := by decide +kernel
theorem dX5_takeIn_14 : decode cX5_takeIn 14 = .ok (.invokevirtual 34, 3) := by decide +kernel
theorem dX5_takeIn_17 : decode cX5_takeIn 17 = .ok (.iconst 5, 1) := by decide +kernel
theorem dX5_takeIn_18 : decode cX5_takeIn 18 = .ok (.ireturn, 1) := by decide +kernel
theorem dX5_takeIn_19 : decode cX5_takeIn 19 = .ok (.aload_n 0, 1) := by decide +kernel
theorem dX5_takeIn_20 : decode cX5_takeIn 20 = .ok (.aload_n 1, 1) := by decide +kernel
theorem dX5_takeIn_21 : decode cX5_takeIn 21 = .ok (.getfield 32, 3) := by decide +kernel
theorem dX5_takeIn_24 : decode cX5_takeIn 24 = .ok (.invokevirtual 38, 3) := by decide +kernel
theorem dX5_takeIn_27 : decode cX5_takeIn 27 = .ok (.istore_n 2, 1) := by decide +kernel
theorem dX5_takeIn_28 : decode cX5_takeIn 28 = .ok (.aload_n 0, 1) := by decide +kernel
theorem dX5_takeIn_29 : decode cX5_takeIn 29 = .ok (.getfield 12, 3) := by decide +kernel
theorem dX5_takeIn_32 : decode cX5_takeIn 32 = .ok (.aload_n 1, 1) := by decide +kernel
theorem dX5_takeIn_33 : decode cX5_takeIn 33 = .ok (.invokevirtual 42, 3) := by decide +kernel
theorem dX5_takeIn_36 : decode cX5_takeIn 36 = .ok (.pop, 1) := by decide +kernel
theorem dX5_takeIn_37 : decode cX5_takeIn 37 = .ok (.aload_n 1, 1) := by decide +kernel
theorem dX5_takeIn_38 : decode cX5_takeIn 38 = .ok (.bipush 115, 2) := by decide +kernel
theorem dX5_takeIn_40 : decode cX5_takeIn 40 = .ok (.invokevirtual 34, 3) := by decide +kernel
theorem dX5_takeIn_43 : decode cX5_takeIn 43 = .ok (.iconst 1, 1) := by decide +kernel
theorem dX5_takeIn_44 : decode cX5_takeIn 44 = .ok (.iconst 5, 1) := by decide +kernel
theorem dX5_takeIn_45 : decode cX5_takeIn 45 = .ok (.iload_n 2, 1) := by decide +kernel
theorem dX5_takeIn_46 : decode cX5_takeIn 46 = .ok (.imul, 1) := by decide +kernel
theorem dX5_takeIn_47 : decode cX5_takeIn 47 = .ok (.iadd, 1) := by decide +kernel
theorem dX5_takeIn_48 : decode cX5_takeIn 48 = .ok (.ireturn, 1) := by decide +kernel
theorem dX5_makeRoomFor_0 : decode cX5_makeRoomFor 0 = .ok (.iconst 0, 1) := by decide +kernel
theorem dX5_makeRoomFor_1 : decode cX5_makeRoomFor 1 = .ok (.istore_n 2, 1) := by decide +kernel
theorem dX5_makeRoomFor_2 : decode cX5_makeRoomFor 2 = .ok (.aload_n 0, 1) := by decide +kernel
theorem dX5_makeRoomFor_3 : decode cX5_makeRoomFor 3 = .ok (.getfield 12, 3) := by decide +kernel
theorem dX5_makeRoomFor_6 : decode cX5_makeRoomFor 6 = .ok (.invokevirtual 22, 3) := by decide +kernel
theorem dX5_makeRoomFor_9 : decode cX5_makeRoomFor 9 = .ok (.istore_n 3, 1) := by decide +kernel
theorem dX5_makeRoomFor_10 : decode cX5_makeRoomFor 10 = .ok (.iload_n 3, 1) := by decide +kernel
theorem dX5_makeRoomFor_11 : decode cX5_makeRoomFor 11 = .ok (.ifCond .le 41, 3) := by decide +kernel
theorem dX5_makeRoomFor_14 : decode cX5_makeRoomFor 14 = .ok (.aload_n 0, 1) := by decide +kernel
theorem dX5_makeRoomFor_15 : decode cX5_makeRoomFor 15 = .ok (.invokevirtual 46, 3) := by decide +kernel
theorem dX5_makeRoomFor_18 : decode cX5_makeRoomFor 18 = .ok (.iload_n 1, 1) := by decide +kernel
theorem dX5_makeRoomFor_19 : decode cX5_makeRoomFor 19 = .ok (.iadd, 1) := by decide +kernel
theorem dX5_makeRoomFor_20 : decode cX5_makeRoomFor 20 = .ok (.aload_n 0, 1) := by decide +kernel
theorem dX5_makeRoomFor_21 : decode cX5_makeRoomFor 21 = .ok (.getfield 18, 3) := by decide +kernel
theorem dX5_makeRoomFor_24 : decode cX5_makeRoomFor 24 = .ok (.if_icmp .le 28, 3) := by decide +kernel
theorem dX5_makeRoomFor_27 : decode cX5_makeRoomFor 27 = .ok (.aload_n 0, 1) := by decide +kernel
theorem dX5_makeRoomFor_28 : decode cX5_makeRoomFor 28 = .ok (.getfield 12, 3) := by decide +kernel
theorem dX5_makeRoomFor_31 : decode cX5_makeRoomFor 31 = .ok (.iconst 0, 1) := by decide +kernel
theorem dX5_makeRoomFor_32 : decode cX5_makeRoomFor 32 = .ok (.invokevirtual 49, 3) := by decide +kernel
theorem dX5_makeRoomFor_35 : decode cX5_makeRoomFor 35 = .ok (.checkcast 30, 3) := by decide +kernel
theorem dX5_makeRoomFor_38 : decode cX5_makeRoomFor 38 = .ok (.bipush 100, 2) := by decide +kernel
theorem dX5_makeRoomFor_40 : decode cX5_makeRoomFor 40 = .ok (.invokevirtual 34, 3) := by decide +kernel
theorem dX5_makeRoomFor_43 : decode cX5_makeRoomFor 43 = .ok (.iinc 2 1, 3) := by decide +kernel
theorem dX5_makeRoomFor_46 : decode cX5_makeRoomFor 46 = .ok (.iinc 3 (-1), 3) := by decide +kernel
theorem dX5_makeRoomFor_49 : decode cX5_makeRoomFor 49 = .ok (.goto (-39), 3) := by decide +kernel
theorem dX5_makeRoomFor_52 : decode cX5_makeRoomFor 52 = .ok (.iload_n 2, 1) := by decide +kernel
theorem dX5_makeRoomFor_53 : decode cX5_makeRoomFor 53 = .ok (.ireturn, 1) := by decide +kernel
theorem dX5_drop_0 : decode cX5_drop 0 = .ok (.iconst 0, 1) := by decide +kernel
theorem dX5_drop_1 : decode cX5_drop 1 = .ok (.istore_n 2, 1) := by decide +kernel
theorem dX5_drop_2 : decode cX5_drop 2 = .ok (.iload_n 2, 1) := by decide +kernel
theorem dX5_drop_3 : decode cX5_drop 3 = .ok (.aload_n 0, 1) := by decide +kernel
theorem dX5_drop_4 : decode cX5_drop 4 = .ok (.getfield 12, 3) := by decide +kernel
theorem dX5_drop_7 : decode cX5_drop 7 = .ok (.invokevirtual 22, 3) := by decide +kernel
theorem dX5_drop_10 : decode cX5_drop 10 = .ok (.if_icmp .ge 31, 3) := by decide +kernel
theorem dX5_drop_13 : decode cX5_drop 13 = .ok (.aload_n 0, 1) := by decide +kernel
theorem dX5_drop_14 : decode cX5_drop 14 = .ok (.getfield 12, 3) := by decide +kernel
theorem dX5_drop_17 : decode cX5_drop 17 = .ok (.iload_n 2, 1) := by decide +kernel
theorem dX5_drop_18 : decode cX5_drop 18 = .ok (.invokevirtual 26, 3) := by decide +kernel
theorem dX5_drop_21 : decode cX5_drop 21 = .ok (.aload_n 1, 1) := by decide +kernel
theorem dX5_drop_22 : decode cX5_drop 22 = .ok (.if_acmp .ne 13, 3) := by decide +kernel
theorem dX5_drop_25 : decode cX5_drop 25 = .ok (.aload_n 0, 1) := by decide +kernel
theorem dX5_drop_26 : decode cX5_drop 26 = .ok (.getfield 12, 3) := by decide +kernel
theorem dX5_drop_29 : decode cX5_drop 29 = .ok (.iload_n 2, 1) := by decide +kernel
theorem dX5_drop_30 : decode cX5_drop 30 = .ok (.invokevirtual 49, 3) := by decide +kernel
theorem dX5_drop_33 : decode cX5_drop 33 = .ok (.pop, 1) := by decide +kernel
theorem dX5_drop_34 : decode cX5_drop 34 = .ok (.return_, 1) := by decide +kernel
theorem dX5_drop_35 : decode cX5_drop 35 = .ok (.iinc 2 1, 3) := by decide +kernel
theorem dX5_drop_38 : decode cX5_drop 38 = .ok (.goto (-36), 3) := by decide +kernel
theorem dX5_drop_41 : decode cX5_drop 41 = .ok (.return_, 1) := by decide +kernel
theorem dX6_init_0 : decode cX6_init 0 = .ok (.aload_n 0, 1) := by decide +kernel
theorem dX6_init_1 : decode cX6_init 1 = .ok (.invokespecial 3, 3) := by decide +kernel
theorem dX6_init_4 : decode cX6_init 4 = .ok (.aload_n 0, 1) := by decide +kernel
theorem dX6_init_5 : decode cX6_init 5 = .ok (.new 9, 3) := by decide +kernel
theorem dX6_init_8 : decode cX6_init 8 = .ok (.dup, 1) := by decide +kernel
theorem dX6_init_9 : decode cX6_init 9 = .ok (.invokespecial 11, 3) := by decide +kernel
theorem dX6_init_12 : decode cX6_init 12 = .ok (.putfield 12, 3) := by decide +kernel
theorem dX6_init_15 : decode cX6_init 15 = .ok (.aload_n 0, 1) := by decide +kernel
theorem dX6_init_16 : decode cX6_init 16 = .ok (.new 16, 3) := by decide +kernel
theorem dX6_init_19 : decode cX6_init 19 = .ok (.dup, 1) := by decide +kernel
theorem dX6_init_20 : decode cX6_init 20 = .ok (.invokespecial 18, 3) := by decide +kernel
theorem dX6_init_23 : decode cX6_init 23 = .ok (.putfield 19, 3) := by decide +kernel
theorem dX6_init_26 : decode cX6_init 26 = .ok (.aload_n 0, 1) := by decide +kernel
theorem dX6_init_27 : decode cX6_init 27 = .ok (.new 23, 3) := by decide +kernel
theorem dX6_init_30 : decode cX6_init 30 = .ok (.dup, 1) := by decide +kernel
theorem dX6_init_31 : decode cX6_init 31 = .ok (.invokespecial 25, 3) := by decide +kernel
theorem dX6_init_34 : decode cX6_init 34 = .ok (.putfield 26, 3) := by decide +kernel
theorem dX6_init_37 : decode cX6_init 37 = .ok (.aload_n 0, 1) := by decide +kernel
theorem dX6_init_38 : decode cX6_init 38 = .ok (.new 30, 3) := by decide +kernel
theorem dX6_init_41 : decode cX6_init 41 = .ok (.dup, 1) := by decide +kernel
theorem dX6_init_42 : decode cX6_init 42 = .ok (.invokespecial 32, 3) := by decide +kernel
theorem dX6_init_45 : decode cX6_init 45 = .ok (.putfield 33, 3) := by decide +kernel
theorem dX6_init_48 : decode cX6_init 48 = .ok (.aload_n 0, 1) := by decide +kernel
theorem dX6_init_49 : decode cX6_init 49 = .ok (.new 37, 3) := by decide +kernel
theorem dX6_init_52 : decode cX6_init 52 = .ok (.dup, 1) := by decide +kernel
theorem dX6_init_53 : decode cX6_init 53 = .ok (.invokespecial 39, 3) := by decide +kernel
theorem dX6_init_56 : decode cX6_init 56 = .ok (.putfield 40, 3) := by decide +kernel
theorem dX6_init_59 : decode cX6_init 59 = .ok (.aload_n 0, 1) := by decide +kernel
theorem dX6_init_60 : decode cX6_init 60 = .ok (.bipush 40, 2) := by decide +kernel
theorem dX6_init_62 : decode cX6_init 62 = .ok (.putfield 44, 3) := by decide +kernel
theorem dX6_init_65 : decode cX6_init 65 = .ok (.return_, 1) := by decide +kernel
theorem dX6_addService_0 : decode cX6_addService 0 = .ok (.iload_n 1, 1) := by decide +kernel
theorem dX6_addService_1 : decode cX6_addService 1 = .ok (.iconst 0, 1) := by decide +kernel
theorem dX6_addService_2 : decode cX6_addService 2 = .ok (.bipush 100, 2) := by decide +kernel
theorem dX6_addService_4 : decode cX6_addService 4 = .ok (.invokestatic 48, 3) := by decide +kernel
theorem dX6_addService_7 : decode cX6_addService 7 = .ok (.iload_n 2, 1) := by decide +kernel
theorem dX6_addService_8 : decode cX6_addService 8 = .ok (.bipush 97, 2) := by decide +kernel
theorem dX6_addService_10 : decode cX6_addService 10 = .ok (.if_icmp .eq 19, 3) := by decide +kernel
theorem dX6_addService_13 : decode cX6_addService 13 = .ok (.iload_n 2, 1) := by decide +kernel
theorem dX6_addService_14 : decode cX6_addService 14 = .ok (.bipush 110, 2) := by decide +kernel
theorem dX6_addService_16 : decode cX6_addService 16 = .ok (.if_icmp .eq 13, 3) := by decide +kernel
theorem dX6_addService_19 : decode cX6_addService 19 = .ok (.new 52, 3) := by decide +kernel
theorem dX6_addService_22 : decode cX6_addService 22 = .ok (.dup, 1) := by decide +kernel
theorem dX6_addService_23 : decode cX6_addService 23 = .ok (.ldc 54, 2) := by decide +kernel
theorem dX6_addService_25 : decode cX6_addService 25 = .ok (.invokespecial 56, 3) := by decide +kernel
theorem dX6_addService_28 : decode cX6_addService 28 = .ok (.athrow, 1) := by decide +kernel
theorem dX6_addService_29 : decode cX6_addService 29 = .ok (.iload_n 3, 1) := by decide +kernel
theorem dX6_addService_30 : decode cX6_addService 30 = .ok (.iconst 1, 1) := by decide +kernel
theorem dX6_addService_31 : decode cX6_addService 31 = .ok (.bipush 20, 2) := by decide +kernel
theorem dX6_addService_33 : decode cX6_addService 33 = .ok (.invokestatic 48, 3) := by decide +kernel
theorem dX6_addService_36 : decode cX6_addService 36 = .ok (.aload_n 0, 1) := by decide +kernel
theorem dX6_addService_37 : decode cX6_addService 37 = .ok (.getfield 40, 3) := by decide +kernel
theorem dX6_addService_40 : decode cX6_addService 40 = .ok (.invokevirtual 59, 3) := by decide +kernel
theorem dX6_addService_43 : decode cX6_addService 43 = .ok (.istore 4, 2) := by decide +kernel
theorem dX6_addService_45 : decode cX6_addService 45 = .ok (.iload 4, 2) := by decide +kernel
theorem dX6_addService_47 : decode cX6_addService 47 = .ok (.bipush 6, 2) := by decide +kernel
theorem dX6_addService_49 : decode cX6_addService 49 = .ok (.if_icmp .lt 13, 3) := by decide +kernel
theorem dX6_addService_52 : decode cX6_addService 52 = .ok (.new 63, 3) := by decide +kernel
theorem dX6_addService_55 : decode cX6_addService 55 = .ok (.dup, 1) := by decide +kernel
theorem dX6_addService_56 : decode cX6_addService 56 = .ok (.ldc 65, 2) := by decide +kernel
theorem dX6_addService_58 : decode cX6_addService 58 = .ok (.invokespecial 67, 3) := by decide +kernel
theorem dX6_addService_61 : decode cX6_addService 61 = .ok (.athrow, 1) := by decide +kernel
theorem dX6_addService_62 : decode cX6_addService 62 = .ok (.aload_n 0, 1) := by decide +kernel
theorem dX6_addService_63 : decode cX6_addService 63 = .ok (.getfield 40, 3) := by decide +kernel
theorem dX6_addService_66 : decode cX6_addService 66 = .ok (.new 68, 3) := by decide +kernel
theorem dX6_addService_69 : decode cX6_addService 69 = .ok (.dup, 1) := by decide +kernel
theorem dX6_addService_70 : decode cX6_addService 70 = .ok (.iload 4, 2) := by decide +kernel
theorem dX6_addService_72 : decode cX6_addService 72 = .ok (.iload_n 1, 1) := by decide +kernel
theorem dX6_addService_73 : decode cX6_addService 73 = .ok (.iload_n 2, 1) := by decide +kernel
theorem dX6_addService_74 : decode cX6_addService 74 = .ok (.iload_n 3, 1) := by decide +kernel
theorem dX6_addService_75 : decode cX6_addService 75 = .ok (.aload_n 0, 1) := by decide +kernel
theorem dX6_addService_76 : decode cX6_addService 76 = .ok (.getfield 12, 3) := by decide +kernel
theorem dX6_addService_79 : decode cX6_addService 79 = .ok (.invokespecial 70, 3) := by decide +kernel
theorem dX6_addService_82 : decode cX6_addService 82 = .ok (.invokevirtual 73, 3) := by decide +kernel
theorem dX6_addService_85 : decode cX6_addService 85 = .ok (.pop, 1) := by decide +kernel
theorem dX6_addService_86 : decode cX6_addService 86 = .ok (.iload 4, 2) := by decide +kernel
theorem dX6_addService_88 : decode cX6_addService 88 = .ok (.ireturn, 1) := by decide +kernel
theorem dX6_addNeed_0 : decode cX6_addNeed 0 = .ok (.aload_n 0, 1) := by decide +kernel
theorem dX6_addNeed_1 : decode cX6_addNeed 1 = .ok (.iload_n 1, 1) := by decide +kernel
theorem dX6_addNeed_2 : decode cX6_addNeed 2 = .ok (.invokevirtual 77, 3) := by decide +kernel
theorem dX6_addNeed_5 : decode cX6_addNeed 5 = .ok (.astore_n 3, 1) := by decide +kernel
theorem dX6_addNeed_6 : decode cX6_addNeed 6 = .ok (.aload_n 0, 1) := by decide +kernel
theorem dX6_addNeed_7 : decode cX6_addNeed 7 = .ok (.iload_n 2, 1) := by decide +kernel
theorem dX6_addNeed_8 : decode cX6_addNeed 8 = .ok (.invokevirtual 81, 3) := by decide +kernel
theorem dX6_addNeed_11 : decode cX6_addNeed 11 = .ok (.iload_n 1, 1) := by decide +kernel
theorem dX6_addNeed_12 : decode cX6_addNeed 12 = .ok (.iload_n 2, 1) := by decide +kernel
theorem dX6_addNeed_13 : decode cX6_addNeed 13 = .ok (.if_icmp .ne 13, 3) := by decide +kernel
theorem dX6_addNeed_16 : decode cX6_addNeed 16 = .ok (.new 52, 3) := by decide +kernel
theorem dX6_addNeed_19 : decode cX6_addNeed 19 = .ok (.dup, 1) := by decide +kernel
theorem dX6_addNeed_20 : decode cX6_addNeed 20 = .ok (.ldc 85, 2) := by decide +kernel
theorem dX6_addNeed_22 : decode cX6_addNeed 22 = .ok (.invokespecial 56, 3) := by decide +kernel
theorem dX6_addNeed_25 : decode cX6_addNeed 25 = .ok (.athrow, 1) := by decide +kernel
theorem dX6_addNeed_26 : decode cX6_addNeed 26 = .ok (.aload_n 0, 1) := by decide +kernel
theorem dX6_addNeed_27 : decode cX6_addNeed 27 = .ok (.iload_n 2, 1) := by decide +kernel
theorem dX6_addNeed_28 : decode cX6_addNeed 28 = .ok (.invokevirtual 87, 3) := by decide +kernel
theorem dX6_addNeed_31 : decode cX6_addNeed 31 = .ok (.iload_n 1, 1) := by decide +kernel
theorem dX6_addNeed_32 : decode cX6_addNeed 32 = .ok (.invokestatic 91, 3) := by decide +kernel
theorem dX6_addNeed_35 : decode cX6_addNeed 35 = .ok (.ifCond .eq 13, 3) := by decide +kernel
theorem dX6_addNeed_38 : decode cX6_addNeed 38 = .ok (.new 95, 3) := by decide +kernel
theorem dX6_addNeed_41 : decode cX6_addNeed 41 = .ok (.dup, 1) := by decide +kernel
theorem dX6_addNeed_42 : decode cX6_addNeed 42 = .ok (.ldc 97, 2) := by decide +kernel
theorem dX6_addNeed_44 : decode cX6_addNeed 44 = .ok (.invokespecial 99, 3) := by decide +kernel
theorem dX6_addNeed_47 : decode cX6_addNeed 47 = .ok (.athrow, 1) := by decide +kernel
theorem dX6_addNeed_48 : decode cX6_addNeed 48 = .ok (.aload_n 3, 1) := by decide +kernel
theorem dX6_addNeed_49 : decode cX6_addNeed 49 = .ok (.dup, 1) := by decide +kernel
theorem dX6_addNeed_50 : decode cX6_addNeed 50 = .ok (.getfield 100, 3) := by decide +kernel
theorem dX6_addNeed_53 : decode cX6_addNeed 53 = .ok (.iconst 1, 1) := by decide +kernel
theorem dX6_addNeed_54 : decode cX6_addNeed 54 = .ok (.iload_n 2, 1) := by decide +kernel
theorem dX6_addNeed_55 : decode cX6_addNeed 55 = .ok (.ishl, 1) := by decide +kernel
theorem dX6_addNeed_56 : decode cX6_addNeed 56 = .ok (.ior, 1) := by decide +kernel
theorem dX6_addNeed_57 : decode cX6_addNeed 57 = .ok (.putfield 100, 3) := by decide +kernel
theorem dX6_addNeed_60 : decode cX6_addNeed 60 = .ok (.aload_n 3, 1) := by decide +kernel
theorem dX6_addNeed_61 : decode cX6_addNeed 61 = .ok (.getfield 100, 3) := by decide +kernel
theorem dX6_addNeed_64 : decode cX6_addNeed 64 = .ok (.invokestatic 103, 3) := by decide +kernel
theorem dX6_addNeed_67 : decode cX6_addNeed 67 = .ok (.ireturn, 1) := by decide +kernel
theorem dX6_setSize_0 : decode cX6_setSize 0 = .ok (.aload_n 0, 1) := by decide +kernel
theorem dX6_setSize_1 : decode cX6_setSize 1 = .ok (.iload_n 1, 1) := by decide +kernel
theorem dX6_setSize_2 : decode cX6_setSize 2 = .ok (.iload_n 2, 1) := by decide +kernel
theorem dX6_setSize_3 : decode cX6_setSize 3 = .ok (.invokevirtual 108, 3) := by decide +kernel
theorem dX6_setSize_6 : decode cX6_setSize 6 = .ok (.astore 4, 2) := by decide +kernel
theorem dX6_setSize_8 : decode cX6_setSize 8 = .ok (.iload_n 3, 1) := by decide +kernel
theorem dX6_setSize_9 : decode cX6_setSize 9 = .ok (.iconst 1, 1) := by decide +kernel
theorem dX6_setSize_10 : decode cX6_setSize 10 = .ok (.iconst 4, 1) := by decide +kernel
theorem dX6_setSize_11 : decode cX6_setSize 11 = .ok (.invokestatic 48, 3) := by decide +kernel
theorem dX6_setSize_14 : decode cX6_setSize 14 = .ok (.aload 4, 2) := by decide +kernel
theorem dX6_setSize_16 : decode cX6_setSize 16 = .ok (.getfield 112, 3) := by decide +kernel
theorem dX6_setSize_19 : decode cX6_setSize 19 = .ok (.bipush 115, 2) := by decide +kernel
theorem dX6_setSize_21 : decode cX6_setSize 21 = .ok (.if_icmp .ne 13, 3) := by decide +kernel
theorem dX6_setSize_24 : decode cX6_setSize 24 = .ok (.new 63, 3) := by decide +kernel
theorem dX6_setSize_27 : decode cX6_setSize 27 = .ok (.dup, 1) := by decide +kernel
theorem dX6_setSize_28 : decode cX6_setSize 28 = .ok (.ldc 118, 2) := by decide +kernel
theorem dX6_setSize_30 : decode cX6_setSize 30 = .ok (.invokespecial 67, 3) := by decide +kernel
theorem dX6_setSize_33 : decode cX6_setSize 33 = .ok (.athrow, 1) := by decide +kernel
theorem dX6_setSize_34 : decode cX6_setSize 34 = .ok (.aload 4, 2) := by decide +kernel
theorem dX6_setSize_36 : decode cX6_setSize 36 = .ok (.getfield 120, 3) := by decide +kernel
theorem dX6_setSize_39 : decode cX6_setSize 39 = .ok (.istore 5, 2) := by decide +kernel
theorem dX6_setSize_41 : decode cX6_setSize 41 = .ok (.aload 4, 2) := by decide +kernel
theorem dX6_setSize_43 : decode cX6_setSize 43 = .ok (.iload_n 3, 1) := by decide +kernel
theorem dX6_setSize_44 : decode cX6_setSize 44 = .ok (.putfield 120, 3) := by decide +kernel
theorem dX6_setSize_47 : decode cX6_setSize 47 = .ok (.iload 5, 2) := by decide +kernel
theorem dX6_setSize_49 : decode cX6_setSize 49 = .ok (.ireturn, 1) := by decide +kernel
theorem dX6_setFrames_0 : decode cX6_setFrames 0 = .ok (.iload_n 1, 1) := by decide +kernel
theorem dX6_setFrames_1 : decode cX6_setFrames 1 = .ok (.iconst 1, 1) := by decide +kernel
theorem dX6_setFrames_2 : decode cX6_setFrames 2 = .ok (.bipush 16, 2) := by decide +kernel
theorem dX6_setFrames_4 : decode cX6_setFrames 4 = .ok (.invokestatic 48, 3) := by decide +kernel
theorem dX6_setFrames_7 : decode cX6_setFrames 7 = .ok (.aload_n 0, 1) := by decide +kernel
theorem dX6_setFrames_8 : decode cX6_setFrames 8 = .ok (.getfield 19, 3) := by decide +kernel
theorem dX6_setFrames_11 : decode cX6_setFrames 11 = .ok (.getfield 122, 3) := by decide +kernel
theorem dX6_setFrames_14 : decode cX6_setFrames 14 = .ok (.istore_n 2, 1) := by decide +kernel
theorem dX6_setFrames_15 : decode cX6_setFrames 15 = .ok (.iload_n 1, 1) := by decide +kernel
theorem dX6_setFrames_16 : decode cX6_setFrames 16 = .ok (.istore_n 3, 1) := by decide +kernel
theorem dX6_setFrames_17 : decode cX6_setFrames 17 = .ok (.iload_n 3, 1) := by decide +kernel
theorem dX6_setFrames_18 : decode cX6_setFrames 18 = .ok (.iload_n 2, 1) := by decide +kernel
theorem dX6_setFrames_19 : decode cX6_setFrames 19 = .ok (.if_icmp .ge 34, 3) := by decide +kernel
theorem dX6_setFrames_22 : decode cX6_setFrames 22 = .ok (.aload_n 0, 1) := by decide +kernel
theorem dX6_setFrames_23 : decode cX6_setFrames 23 = .ok (.getfield 19, 3) := by decide +kernel
theorem dX6_setFrames_26 : decode cX6_setFrames 26 = .ok (.iload_n 3, 1) := by decide +kernel
theorem dX6_setFrames_27 : decode cX6_setFrames 27 = .ok (.invokevirtual 125, 3) := by decide +kernel
theorem dX6_setFrames_30 : decode cX6_setFrames 30 = .ok (.astore 4, 2) := by decide +kernel
theorem dX6_setFrames_32 : decode cX6_setFrames 32 = .ok (.aload 4, 2) := by decide +kernel
theorem dX6_setFrames_34 : decode cX6_setFrames 34 = .ok (.ifnull 13, 3) := by decide +kernel
theorem dX6_setFrames_37 : decode cX6_setFrames 37 = .ok (.aload_n 0, 1) := by decide +kernel
theorem dX6_setFrames_38 : decode cX6_setFrames 38 = .ok (.getfield 26, 3) := by decide +kernel
theorem dX6_setFrames_41 : decode cX6_setFrames 41 = .ok (.aload 4, 2) := by decide +kernel
theorem dX6_setFrames_43 : decode cX6_setFrames 43 = .ok (.invokevirtual 129, 3) := by decide +kernel
theorem dX6_setFrames_46 : decode cX6_setFrames 46 = .ok (.pop, 1) := by decide +kernel
theorem dX6_setFrames_47 : decode cX6_setFrames 47 = .ok (.iinc 3 1, 3) := by decide +kernel
theorem dX6_setFrames_50 : decode cX6_setFrames 50 = .ok (.goto (-33), 3) := by decide +kernel
theorem dX6_setFrames_53 : decode cX6_setFrames 53 = .ok (.aload_n 0, 1) := by decide +kernel
theorem dX6_setFrames_54 : decode cX6_setFrames 54 = .ok (.getfield 19, 3) := by decide +kernel
theorem dX6_setFrames_57 : decode cX6_setFrames 57 = .ok (.iload_n 1, 1) := by decide +kernel
theorem dX6_setFrames_58 : decode cX6_setFrames 58 = .ok (.invokevirtual 133, 3) := by decide +kernel
theorem dX6_setFrames_61 : decode cX6_setFrames 61 = .ok (.iload_n 2, 1) := by decide +kernel
theorem dX6_setFrames_62 : decode cX6_setFrames 62 = .ok (.ireturn, 1) := by decide +kernel
theorem dX6_setRoom_0 : decode cX6_setRoom 0 = .ok (.iload_n 1, 1) := by decide +kernel
theorem dX6_setRoom_1 : decode cX6_setRoom 1 = .ok (.iconst 0, 1) := by decide +kernel
theorem dX6_setRoom_2 : decode cX6_setRoom 2 = .ok (.bipush 60, 2) := by decide +kernel
theorem dX6_setRoom_4 : decode cX6_setRoom 4 = .ok (.invokestatic 48, 3) := by decide +kernel
theorem dX6_setRoom_7 : decode cX6_setRoom 7 = .ok (.aload_n 0, 1) := by decide +kernel
theorem dX6_setRoom_8 : decode cX6_setRoom 8 = .ok (.getfield 26, 3) := by decide +kernel
theorem dX6_setRoom_11 : decode cX6_setRoom 11 = .ok (.getfield 136, 3) := by decide +kernel
theorem dX6_setRoom_14 : decode cX6_setRoom 14 = .ok (.istore_n 2, 1) := by decide +kernel
theorem dX6_setRoom_15 : decode cX6_setRoom 15 = .ok (.aload_n 0, 1) := by decide +kernel
theorem dX6_setRoom_16 : decode cX6_setRoom 16 = .ok (.getfield 26, 3) := by decide +kernel
theorem dX6_setRoom_19 : decode cX6_setRoom 19 = .ok (.iload_n 1, 1) := by decide +kernel
theorem dX6_setRoom_20 : decode cX6_setRoom 20 = .ok (.putfield 136, 3) := by decide +kernel
theorem dX6_setRoom_23 : decode cX6_setRoom 23 = .ok (.aload_n 0, 1) := by decide +kernel
theorem dX6_setRoom_24 : decode cX6_setRoom 24 = .ok (.getfield 26, 3) := by decide +kernel
theorem dX6_setRoom_27 : decode cX6_setRoom 27 = .ok (.iconst 0, 1) := by decide +kernel
theorem dX6_setRoom_28 : decode cX6_setRoom 28 = .ok (.invokevirtual 139, 3) := by decide +kernel
theorem dX6_setRoom_31 : decode cX6_setRoom 31 = .ok (.pop, 1) := by decide +kernel
theorem dX6_setRoom_32 : decode cX6_setRoom 32 = .ok (.iload_n 2, 1) := by decide +kernel
theorem dX6_setRoom_33 : decode cX6_setRoom 33 = .ok (.ireturn, 1) := by decide +kernel
theorem dX6_setLimit_0 : decode cX6_setLimit 0 = .ok (.iload_n 1, 1) := by decide +kernel
theorem dX6_setLimit_1 : decode cX6_setLimit 1 = .ok (.iconst 0, 1) := by decide +kernel
theorem dX6_setLimit_2 : decode cX6_setLimit 2 = .ok (.sipush 999, 3) := by decide +kernel
theorem dX6_setLimit_5 : decode cX6_setLimit 5 = .ok (.invokestatic 48, 3) := by decide +kernel
theorem dX6_setLimit_8 : decode cX6_setLimit 8 = .ok (.aload_n 0, 1) := by decide +kernel
theorem dX6_setLimit_9 : decode cX6_setLimit 9 = .ok (.getfield 44, 3) := by decide +kernel
theorem dX6_setLimit_12 : decode cX6_setLimit 12 = .ok (.istore_n 2, 1) := by decide +kernel
theorem dX6_setLimit_13 : decode cX6_setLimit 13 = .ok (.aload_n 0, 1) := by decide +kernel
theorem dX6_setLimit_14 : decode cX6_setLimit 14 = .ok (.iload_n 1, 1) := by decide +kernel
theorem dX6_setLimit_15 : decode cX6_setLimit 15 = .ok (.putfield 44, 3) := by decide +kernel
theorem dX6_setLimit_18 : decode cX6_setLimit 18 = .ok (.iload_n 2, 1) := by decide +kernel
theorem dX6_setLimit_19 : decode cX6_setLimit 19 = .ok (.ireturn, 1) := by decide +kernel
theorem dX6_touch_0 : decode cX6_touch 0 = .ok (.aload_n 0, 1) := by decide +kernel
theorem dX6_touch_1 : decode cX6_touch 1 = .ok (.iload_n 1, 1) := by decide +kernel
theorem dX6_touch_2 : decode cX6_touch 2 = .ok (.iload_n 2, 1) := by decide +kernel
theorem dX6_touch_3 : decode cX6_touch 3 = .ok (.invokevirtual 108, 3) := by decide +kernel
theorem dX6_touch_6 : decode cX6_touch 6 = .ok (.astore_n 3, 1) := by decide +kernel
theorem dX6_touch_7 : decode cX6_touch 7 = .ok (.aload_n 0, 1) := by decide +kernel
theorem dX6_touch_8 : decode cX6_touch 8 = .ok (.iload_n 1, 1) := by decide +kernel
theorem dX6_touch_9 : decode cX6_touch 9 = .ok (.invokevirtual 142, 3) := by decide +kernel
theorem dX6_touch_12 : decode cX6_touch 12 = .ok (.ifCond .ne 13, 3) := by decide +kernel
theorem dX6_touch_15 : decode cX6_touch 15 = .ok (.new 63, 3) := by decide +kernel
theorem dX6_touch_18 : decode cX6_touch 18 = .ok (.dup, 1) := by decide +kernel
theorem dX6_touch_19 : decode cX6_touch 19 = .ok (.ldc 146, 2) := by decide +kernel
theorem dX6_touch_21 : decode cX6_touch 21 = .ok (.invokespecial 67, 3) := by decide +kernel
theorem dX6_touch_24 : decode cX6_touch 24 = .ok (.athrow, 1) := by decide +kernel
theorem dX6_touch_25 : decode cX6_touch 25 = .ok (.iconst 0, 1) := by decide +kernel
theorem dX6_touch_26 : decode cX6_touch 26 = .ok (.istore 4, 2) := by decide +kernel
theorem dX6_touch_28 : decode cX6_touch 28 = .ok (.aload_n 3, 1) := by decide +kernel
theorem dX6_touch_29 : decode cX6_touch 29 = .ok (.getfield 112, 3) := by decide +kernel
theorem dX6_touch_32 : decode cX6_touch 32 = .ok (.bipush 102, 2) := by decide +kernel
theorem dX6_touch_34 : decode cX6_touch 34 = .ok (.if_icmp .ne 11, 3) := by decide +kernel
theorem dX6_touch_37 : decode cX6_touch 37 = .ok (.aload_n 3, 1) := by decide +kernel
theorem dX6_touch_38 : decode cX6_touch 38 = .ok (.iconst 1, 1) := by decide +kernel
theorem dX6_touch_39 : decode cX6_touch 39 = .ok (.putfield 148, 3) := by decide +kernel
theorem dX6_touch_42 : decode cX6_touch 42 = .ok (.goto 10, 3) := by decide +kernel
theorem dX6_touch_45 : decode cX6_touch 45 = .ok (.aload_n 0, 1) := by decide +kernel
theorem dX6_touch_46 : decode cX6_touch 46 = .ok (.aload_n 3, 1) := by decide +kernel
theorem dX6_touch_47 : decode cX6_touch 47 = .ok (.invokevirtual 152, 3) := by decide +kernel
theorem dX6_touch_50 : decode cX6_touch 50 = .ok (.istore 4, 2) := by decide +kernel
theorem dX6_touch_52 : decode cX6_touch 52 = .ok (.aload_n 0, 1) := by decide +kernel
theorem dX6_touch_53 : decode cX6_touch 53 = .ok (.aload_n 0, 1) := by decide +kernel
theorem dX6_touch_54 : decode cX6_touch 54 = .ok (.iload_n 1, 1) := by decide +kernel
theorem dX6_touch_55 : decode cX6_touch 55 = .ok (.invokevirtual 77, 3) := by decide +kernel
theorem dX6_touch_58 : decode cX6_touch 58 = .ok (.iload 4, 2) := by decide +kernel
theorem dX6_touch_60 : decode cX6_touch 60 = .ok (.invokevirtual 155, 3) := by decide +kernel
theorem dX6_touch_63 : decode cX6_touch 63 = .ok (.iload 4, 2) := by decide +kernel
theorem dX6_touch_65 : decode cX6_touch 65 = .ok (.ireturn, 1) := by decide +kernel
theorem dX6_tick_0 : decode cX6_tick 0 = .ok (.iload_n 1, 1) := by decide +kernel
theorem dX6_tick_1 : decode cX6_tick 1 = .ok (.iconst 1, 1) := by decide +kernel
theorem dX6_tick_2 : decode cX6_tick 2 = .ok (.bipush 50, 2) := by decide +kernel
theorem dX6_tick_4 : decode cX6_tick 4 = .ok (.invokestatic 48, 3) := by decide +kernel
theorem dX6_tick_7 : decode cX6_tick 7 = .ok (.aload_n 0, 1) := by decide +kernel
theorem dX6_tick_8 : decode cX6_tick 8 = .ok (.getfield 159, 3) := by decide +kernel
theorem dX6_tick_11 : decode cX6_tick 11 = .ok (.istore_n 2, 1) := by decide +kernel
theorem dX6_tick_12 : decode cX6_tick 12 = .ok (.iconst 0, 1) := by decide +kernel
theorem dX6_tick_13 : decode cX6_tick 13 = .ok (.istore_n 3, 1) := by decide +kernel
theorem dX6_tick_14 : decode cX6_tick 14 = .ok (.iload_n 3, 1) := by decide +kernel
theorem dX6_tick_15 : decode cX6_tick 15 = .ok (.iload_n 1, 1) := by decide +kernel
theorem dX6_tick_16 : decode cX6_tick 16 = .ok (.if_icmp .ge 13, 3) := by decide +kernel
theorem dX6_tick_19 : decode cX6_tick 19 = .ok (.aload_n 0, 1) := by decide +kernel
theorem dX6_tick_20 : decode cX6_tick 20 = .ok (.invokevirtual 162, 3) := by decide +kernel
theorem dX6_tick_23 : decode cX6_tick 23 = .ok (.iinc 3 1, 3) := by decide +kernel
theorem dX6_tick_26 : decode cX6_tick 26 = .ok (.goto (-12), 3) := by decide +kernel
theorem dX6_tick_29 : decode cX6_tick 29 = .ok (.aload_n 0, 1) := by decide +kernel
theorem dX6_tick_30 : decode cX6_tick 30 = .ok (.getfield 159, 3) := by decide +kernel
theorem dX6_tick_33 : decode cX6_tick 33 = .ok (.iload_n 2, 1) := by decide +kernel
theorem dX6_tick_34 : decode cX6_tick 34 = .ok (.isub, 1) := by decide +kernel
theorem dX6_tick_35 : decode cX6_tick 35 = .ok (.ireturn, 1) := by decide +kernel
theorem dX6_time_0 : decode cX6_time 0 = .ok (.aload_n 0, 1) := by decide +kernel
theorem dX6_time_1 : decode cX6_time 1 = .ok (.getfield 165, 3) := by decide +kernel
theorem dX6_time_4 : decode cX6_time 4 = .ok (.ireturn, 1) := by decide +kernel
theorem dX6_placeOf_0 : decode cX6_placeOf 0 = .ok (.aload_n 0, 1) := by decide +kernel
theorem dX6_placeOf_1 : decode cX6_placeOf 1 = .ok (.iload_n 1, 1) := by decide +kernel
theorem dX6_placeOf_2 : decode cX6_placeOf 2 = .ok (.iload_n 2, 1) := by decide +kernel
theorem dX6_placeOf_3 : decode cX6_placeOf 3 = .ok (.invokevirtual 108, 3) := by decide +kernel
theorem dX6_placeOf_6 : decode cX6_placeOf 6 = .ok (.getfield 112, 3) := by decide +kernel
theorem dX6_placeOf_9 : decode cX6_placeOf 9 = .ok (.ireturn, 1) := by decide +kernel
theorem dX6_placeByEvents_0 : decode cX6_placeByEvents 0 = .ok (.aload_n 0, 1) := by decide +kernel
theorem dX6_placeByEvents_1 : decode cX6_placeByEvents 1 = .ok (.iload_n 1, 1) := by decide +kernel
theorem dX6_placeByEvents_2 : decode cX6_placeByEvents 2 = .ok (.iload_n 2, 1) := by decide +kernel
theorem dX6_placeByEvents_3 : decode cX6_placeByEvents 3 = .ok (.invokevirtual 108, 3) := by decide +kernel
theorem dX6_placeByEvents_6 : decode cX6_placeByEvents 6 = .ok (.astore_n 3, 1) := by decide +kernel
theorem dX6_placeByEvents_7 : decode cX6_placeByEvents 7 = .ok (.aload_n 0, 1) := by decide +kernel
theorem dX6_placeByEvents_8 : decode cX6_placeByEvents 8 = .ok (.getfield 12, 3) := by decide +kernel
theorem dX6_placeByEvents_11 : decode cX6_placeByEvents 11 = .ok (.invokevirtual 168, 3) := by decide +kernel
theorem dX6_placeByEvents_14 : decode cX6_placeByEvents 14 = .ok (.aload_n 0, 1) := by decide +kernel
theorem dX6_placeByEvents_15 : decode cX6_placeByEvents 15 = .ok (.getfield 12, 3) := by decide +kernel
theorem dX6_placeByEvents_18 : decode cX6_placeByEvents 18 = .ok (.aload_n 3, 1) := by decide +kernel
theorem dX6_placeByEvents_19 : decode cX6_placeByEvents 19 = .ok (.getfield 171, 3) := by decide +kernel
theorem dX6_placeByEvents_22 : decode cX6_placeByEvents 22 = .ok (.invokevirtual 174, 3) := by decide +kernel
theorem dX6_placeByEvents_25 : decode cX6_placeByEvents 25 = .ok (.ireturn, 1) := by decide +kernel
theorem dX6_frameOf_0 : decode cX6_frameOf 0 = .ok (.aload_n 0, 1) := by decide +kernel
theorem dX6_frameOf_1 : decode cX6_frameOf 1 = .ok (.iload_n 1, 1) := by decide +kernel
theorem dX6_frameOf_2 : decode cX6_frameOf 2 = .ok (.iload_n 2, 1) := by decide +kernel
theorem dX6_frameOf_3 : decode cX6_frameOf 3 = .ok (.invokevirtual 108, 3) := by decide +kernel
theorem dX6_frameOf_6 : decode cX6_frameOf 6 = .ok (.astore_n 3, 1) := by decide +kernel
theorem dX6_frameOf_7 : decode cX6_frameOf 7 = .ok (.aload_n 3, 1) := by decide +kernel
theorem dX6_frameOf_8 : decode cX6_frameOf 8 = .ok (.getfield 112, 3) := by decide +kernel
theorem dX6_frameOf_11 : decode cX6_frameOf 11 = .ok (.bipush 102, 2) := by decide +kernel
theorem dX6_frameOf_13 : decode cX6_frameOf 13 = .ok (.if_icmp .eq 13, 3) := by decide +kernel
theorem dX6_frameOf_16 : decode cX6_frameOf 16 = .ok (.new 178, 3) := by decide +kernel
theorem dX6_frameOf_19 : decode cX6_frameOf 19 = .ok (.dup, 1) := by decide +kernel
theorem dX6_frameOf_20 : decode cX6_frameOf 20 = .ok (.ldc 180, 2) := by decide +kernel
theorem dX6_frameOf_22 : decode cX6_frameOf 22 = .ok (.invokespecial 182, 3) := by decide +kernel
theorem dX6_frameOf_25 : decode cX6_frameOf 25 = .ok (.athrow, 1) := by decide +kernel
theorem dX6_frameOf_26 : decode cX6_frameOf 26 = .ok (.aload_n 3, 1) := by decide +kernel
theorem dX6_frameOf_27 : decode cX6_frameOf 27 = .ok (.getfield 183, 3) := by decide +kernel
theorem dX6_frameOf_30 : decode cX6_frameOf 30 = .ok (.ireturn, 1) := by decide +kernel
theorem dX6_isReferenced_0 : decode cX6_isReferenced 0 = .ok (.aload_n 0, 1) := by decide +kernel
theorem dX6_isReferenced_1 : decode cX6_isReferenced 1 = .ok (.iload_n 1, 1) := by decide +kernel
theorem dX6_isReferenced_2 : decode cX6_isReferenced 2 = .ok (.iload_n 2, 1) := by decide +kernel
theorem dX6_isReferenced_3 : decode cX6_isReferenced 3 = .ok (.invokevirtual 108, 3) := by decide +kernel
theorem dX6_isReferenced_6 : decode cX6_isReferenced 6 = .ok (.getfield 148, 3) := by decide +kernel
theorem dX6_isReferenced_9 : decode cX6_isReferenced 9 = .ok (.ireturn, 1) := by decide +kernel
theorem dX6_hand_0 : decode cX6_hand 0 = .ok (.aload_n 0, 1) := by decide +kernel
theorem dX6_hand_1 : decode cX6_hand 1 = .ok (.getfield 19, 3) := by decide +kernel
theorem dX6_hand_4 : decode cX6_hand 4 = .ok (.getfield 186, 3) := by decide +kernel
theorem dX6_hand_7 : decode cX6_hand 7 = .ok (.ireturn, 1) := by decide +kernel
theorem dX6_free_0 : decode cX6_free 0 = .ok (.aload_n 0, 1) := by decide +kernel
theorem dX6_free_1 : decode cX6_free 1 = .ok (.getfield 19, 3) := by decide +kernel
theorem dX6_free_4 : decode cX6_free 4 = .ok (.invokevirtual 189, 3) := by decide +kernel
theorem dX6_free_7 : decode cX6_free 7 = .ok (.ireturn, 1) := by decide +kernel
theorem dX6_stored_0 : decode cX6_stored 0 = .ok (.aload_n 0, 1) := by decide +kernel
theorem dX6_stored_1 : decode cX6_stored 1 = .ok (.getfield 26, 3) := by decide +kernel
theorem dX6_stored_4 : decode cX6_stored 4 = .ok (.invokevirtual 192, 3) := by decide +kernel
theorem dX6_stored_7 : decode cX6_stored 7 = .ok (.ireturn, 1) := by decide +kernel
theorem dX6_storedAt_0 : decode cX6_storedAt 0 = .ok (.iload_n 1, 1) := by decide +kernel
theorem dX6_storedAt_1 : decode cX6_storedAt 1 = .ok (.ifCond .lt 17, 3) := by decide +kernel
theorem dX6_storedAt_4 : decode cX6_storedAt 4 = .ok (.iload_n 1, 1) := by decide +kernel
theorem dX6_storedAt_5 : decode cX6_storedAt 5 = .ok (.aload_n 0, 1) := by decide +kernel
theorem dX6_storedAt_6 : decode cX6_storedAt 6 = .ok (.getfield 26, 3) := by decide +kernel
theorem dX6_storedAt_9 : decode cX6_storedAt 9 = .ok (.getfield 195, 3) := by decide +kernel
theorem dX6_storedAt_12 : decode cX6_storedAt 12 = .ok (.invokevirtual 59, 3) := by decide +kernel
theorem dX6_storedAt_15 : decode cX6_storedAt 15 = .ok (.if_icmp .lt 13, 3) := by decide +kernel
theorem dX6_storedAt_18 : decode cX6_storedAt 18 = .ok (.new 178, 3) := by decide +kernel
theorem dX6_storedAt_21 : decode cX6_storedAt 21 = .ok (.dup, 1) := by decide +kernel
theorem dX6_storedAt_22 : decode cX6_storedAt 22 = .ok (.ldc 198, 2) := by decide +kernel
theorem dX6_storedAt_24 : decode cX6_storedAt 24 = .ok (.invokespecial 182, 3) := by decide +kernel
theorem dX6_storedAt_27 : decode cX6_storedAt 27 = .ok (.athrow, 1) := by decide +kernel
theorem dX6_storedAt_28 : decode cX6_storedAt 28 = .ok (.aload_n 0, 1) := by decide +kernel
theorem dX6_storedAt_29 : decode cX6_storedAt 29 = .ok (.getfield 26, 3) := by decide +kernel
theorem dX6_storedAt_32 : decode cX6_storedAt 32 = .ok (.getfield 195, 3) := by decide +kernel
theorem dX6_storedAt_35 : decode cX6_storedAt 35 = .ok (.iload_n 1, 1) := by decide +kernel
theorem dX6_storedAt_36 : decode cX6_storedAt 36 = .ok (.invokevirtual 200, 3) := by decide +kernel
theorem dX6_storedAt_39 : decode cX6_storedAt 39 = .ok (.checkcast 113, 3) := by decide +kernel
theorem dX6_storedAt_42 : decode cX6_storedAt 42 = .ok (.getfield 171, 3) := by decide +kernel
theorem dX6_storedAt_45 : decode cX6_storedAt 45 = .ok (.ireturn, 1) := by decide +kernel
theorem dX6_onDisk_0 : decode cX6_onDisk 0 = .ok (.iconst 0, 1) := by decide +kernel
theorem dX6_onDisk_1 : decode cX6_onDisk 1 = .ok (.istore_n 1, 1) := by decide +kernel
theorem dX6_onDisk_2 : decode cX6_onDisk 2 = .ok (.iconst 0, 1) := by decide +kernel
theorem dX6_onDisk_3 : decode cX6_onDisk 3 = .ok (.istore_n 2, 1) := by decide +kernel
theorem dX6_onDisk_4 : decode cX6_onDisk 4 = .ok (.iload_n 2, 1) := by decide +kernel
theorem dX6_onDisk_5 : decode cX6_onDisk 5 = .ok (.aload_n 0, 1) := by decide +kernel
theorem dX6_onDisk_6 : decode cX6_onDisk 6 = .ok (.getfield 40, 3) := by decide +kernel
theorem dX6_onDisk_9 : decode cX6_onDisk 9 = .ok (.invokevirtual 59, 3) := by decide +kernel
theorem dX6_onDisk_12 : decode cX6_onDisk 12 = .ok (.if_icmp .ge 28, 3) := by decide +kernel
theorem dX6_onDisk_15 : decode cX6_onDisk 15 = .ok (.iload_n 1, 1) := by decide +kernel
theorem dX6_onDisk_16 : decode cX6_onDisk 16 = .ok (.aload_n 0, 1) := by decide +kernel
theorem dX6_onDisk_17 : decode cX6_onDisk 17 = .ok (.getfield 40, 3) := by decide +kernel
theorem dX6_onDisk_20 : decode cX6_onDisk 20 = .ok (.iload_n 2, 1) := by decide +kernel
theorem dX6_onDisk_21 : decode cX6_onDisk 21 = .ok (.invokevirtual 200, 3) := by decide +kernel
theorem dX6_onDisk_24 : decode cX6_onDisk 24 = .ok (.checkcast 68, 3) := by decide +kernel
theorem dX6_onDisk_27 : decode cX6_onDisk 27 = .ok (.bipush 100, 2) := by decide +kernel
theorem dX6_onDisk_29 : decode cX6_onDisk 29 = .ok (.invokevirtual 204, 3) := by decide +kernel
theorem dX6_onDisk_32 : decode cX6_onDisk 32 = .ok (.iadd, 1) := by decide +kernel
theorem dX6_onDisk_33 : decode cX6_onDisk 33 = .ok (.istore_n 1, 1) := by decide +kernel
theorem dX6_onDisk_34 : decode cX6_onDisk 34 = .ok (.iinc 2 1, 3) := by decide +kernel
theorem dX6_onDisk_37 : decode cX6_onDisk 37 = .ok (.goto (-33), 3) := by decide +kernel
theorem dX6_onDisk_40 : decode cX6_onDisk 40 = .ok (.iload_n 1, 1) := by decide +kernel
theorem dX6_onDisk_41 : decode cX6_onDisk 41 = .ok (.ireturn, 1) := by decide +kernel
theorem dX6_pagesIn_0 : decode cX6_pagesIn 0 = .ok (.aload_n 0, 1) := by decide +kernel
theorem dX6_pagesIn_1 : decode cX6_pagesIn 1 = .ok (.iload_n 1, 1) := by decide +kernel
theorem dX6_pagesIn_2 : decode cX6_pagesIn 2 = .ok (.invokevirtual 77, 3) := by decide +kernel
theorem dX6_pagesIn_5 : decode cX6_pagesIn 5 = .ok (.astore_n 3, 1) := by decide +kernel
theorem dX6_pagesIn_6 : decode cX6_pagesIn 6 = .ok (.iload_n 2, 1) := by decide +kernel
theorem dX6_pagesIn_7 : decode cX6_pagesIn 7 = .ok (.bipush 102, 2) := by decide +kernel
theorem dX6_pagesIn_9 : decode cX6_pagesIn 9 = .ok (.if_icmp .eq 31, 3) := by decide +kernel
theorem dX6_pagesIn_12 : decode cX6_pagesIn 12 = .ok (.iload_n 2, 1) := by decide +kernel
theorem dX6_pagesIn_13 : decode cX6_pagesIn 13 = .ok (.bipush 115, 2) := by decide +kernel
theorem dX6_pagesIn_15 : decode cX6_pagesIn 15 = .ok (.if_icmp .eq 25, 3) := by decide +kernel
theorem dX6_pagesIn_18 : decode cX6_pagesIn 18 = .ok (.iload_n 2, 1) := by decide +kernel
theorem dX6_pagesIn_19 : decode cX6_pagesIn 19 = .ok (.bipush 100, 2) := by decide +kernel
theorem dX6_pagesIn_21 : decode cX6_pagesIn 21 = .ok (.if_icmp .eq 19, 3) := by decide +kernel
theorem dX6_pagesIn_24 : decode cX6_pagesIn 24 = .ok (.iload_n 2, 1) := by decide +kernel
theorem dX6_pagesIn_25 : decode cX6_pagesIn 25 = .ok (.bipush 45, 2) := by decide +kernel
theorem dX6_pagesIn_27 : decode cX6_pagesIn 27 = .ok (.if_icmp .eq 13, 3) := by decide +kernel
theorem dX6_pagesIn_30 : decode cX6_pagesIn 30 = .ok (.new 52, 3) := by decide +kernel
theorem dX6_pagesIn_33 : decode cX6_pagesIn 33 = .ok (.dup, 1) := by decide +kernel
theorem dX6_pagesIn_34 : decode cX6_pagesIn 34 = .ok (.ldc 208, 2) := by decide +kernel
theorem dX6_pagesIn_36 : decode cX6_pagesIn 36 = .ok (.invokespecial 56, 3) := by decide +kernel
theorem dX6_pagesIn_39 : decode cX6_pagesIn 39 = .ok (.athrow, 1) := by decide +kernel
theorem dX6_pagesIn_40 : decode cX6_pagesIn 40 = .ok (.aload_n 3, 1) := by decide +kernel
theorem dX6_pagesIn_41 : decode cX6_pagesIn 41 = .ok (.iload_n 2, 1) := by decide +kernel
theorem dX6_pagesIn_42 : decode cX6_pagesIn 42 = .ok (.invokevirtual 204, 3) := by decide +kernel
theorem dX6_pagesIn_45 : decode cX6_pagesIn 45 = .ok (.ireturn, 1) := by decide +kernel
theorem dX6_pressure_0 : decode cX6_pressure 0 = .ok (.aload_n 0, 1) := by decide +kernel
theorem dX6_pressure_1 : decode cX6_pressure 1 = .ok (.getfield 33, 3) := by decide +kernel
theorem dX6_pressure_4 : decode cX6_pressure 4 = .ok (.invokevirtual 210, 3) := by decide +kernel
theorem dX6_pressure_7 : decode cX6_pressure 7 = .ok (.ireturn, 1) := by decide +kernel
theorem dX6_stallsOf_0 : decode cX6_stallsOf 0 = .ok (.aload_n 0, 1) := by decide +kernel
theorem dX6_stallsOf_1 : decode cX6_stallsOf 1 = .ok (.iload_n 1, 1) := by decide +kernel
theorem dX6_stallsOf_2 : decode cX6_stallsOf 2 = .ok (.invokevirtual 77, 3) := by decide +kernel
theorem dX6_stallsOf_5 : decode cX6_stallsOf 5 = .ok (.getfield 213, 3) := by decide +kernel
theorem dX6_stallsOf_8 : decode cX6_stallsOf 8 = .ok (.lreturn, 1) := by decide +kernel
theorem dX6_stateOf_0 : decode cX6_stateOf 0 = .ok (.aload_n 0, 1) := by decide +kernel
theorem dX6_stateOf_1 : decode cX6_stateOf 1 = .ok (.iload_n 1, 1) := by decide +kernel
theorem dX6_stateOf_2 : decode cX6_stateOf 2 = .ok (.invokevirtual 77, 3) := by decide +kernel
theorem dX6_stateOf_5 : decode cX6_stateOf 5 = .ok (.getfield 217, 3) := by decide +kernel
theorem dX6_stateOf_8 : decode cX6_stateOf 8 = .ok (.ifCond .eq 6, 3) := by decide +kernel
theorem dX6_stateOf_11 : decode cX6_stateOf 11 = .ok (.bipush 100, 2) := by decide +kernel
theorem dX6_stateOf_13 : decode cX6_stateOf 13 = .ok (.ireturn, 1) := by decide +kernel
theorem dX6_stateOf_14 : decode cX6_stateOf 14 = .ok (.aload_n 0, 1) := by decide +kernel
theorem dX6_stateOf_15 : decode cX6_stateOf 15 = .ok (.iload_n 1, 1) := by decide +kernel
theorem dX6_stateOf_16 : decode cX6_stateOf 16 = .ok (.invokevirtual 142, 3) := by decide +kernel
theorem dX6_stateOf_19 : decode cX6_stateOf 19 = .ok (.ifCond .eq 8, 3) := by decide +kernel
theorem dX6_stateOf_22 : decode cX6_stateOf 22 = .ok (.bipush 114, 2) := by decide +kernel
theorem dX6_stateOf_24 : decode cX6_stateOf 24 = .ok (.goto 5, 3) := by decide +kernel
theorem dX6_stateOf_27 : decode cX6_stateOf 27 = .ok (.bipush 119, 2) := by decide +kernel
theorem dX6_stateOf_29 : decode cX6_stateOf 29 = .ok (.ireturn, 1) := by decide +kernel
theorem dX6_waitsFor_0 : decode cX6_waitsFor 0 = .ok (.aload_n 0, 1) := by decide +kernel
theorem dX6_waitsFor_1 : decode cX6_waitsFor 1 = .ok (.iload_n 1, 1) := by decide +kernel
theorem dX6_waitsFor_2 : decode cX6_waitsFor 2 = .ok (.invokevirtual 77, 3) := by decide +kernel
theorem dX6_waitsFor_5 : decode cX6_waitsFor 5 = .ok (.astore_n 2, 1) := by decide +kernel
theorem dX6_waitsFor_6 : decode cX6_waitsFor 6 = .ok (.iconst 0, 1) := by decide +kernel
theorem dX6_waitsFor_7 : decode cX6_waitsFor 7 = .ok (.istore_n 3, 1) := by decide +kernel
theorem dX6_waitsFor_8 : decode cX6_waitsFor 8 = .ok (.iload_n 3, 1) := by decide +kernel
theorem dX6_waitsFor_9 : decode cX6_waitsFor 9 = .ok (.aload_n 0, 1) := by decide +kernel
theorem dX6_waitsFor_10 : decode cX6_waitsFor 10 = .ok (.getfield 40, 3) := by decide +kernel
theorem dX6_waitsFor_13 : decode cX6_waitsFor 13 = .ok (.invokevirtual 59, 3) := by decide +kernel
theorem dX6_waitsFor_16 : decode cX6_waitsFor 16 = .ok (.if_icmp .ge 30, 3) := by decide +kernel
theorem dX6_waitsFor_19 : decode cX6_waitsFor 19 = .ok (.aload_n 2, 1) := by decide +kernel
theorem dX6_waitsFor_20 : decode cX6_waitsFor 20 = .ok (.getfield 100, 3) := by decide +kernel
theorem dX6_waitsFor_23 : decode cX6_waitsFor 23 = .ok (.iload_n 3, 1) := by decide +kernel
theorem dX6_waitsFor_24 : decode cX6_waitsFor 24 = .ok (.invokestatic 91, 3) := by decide +kernel
theorem dX6_waitsFor_27 : decode cX6_waitsFor 27 = .ok (.ifCond .eq 13, 3) := by decide +kernel
theorem dX6_waitsFor_30 : decode cX6_waitsFor 30 = .ok (.aload_n 0, 1) := by decide +kernel
theorem dX6_waitsFor_31 : decode cX6_waitsFor 31 = .ok (.iload_n 3, 1) := by decide +kernel
theorem dX6_waitsFor_32 : decode cX6_waitsFor 32 = .ok (.invokevirtual 142, 3) := by decide +kernel
theorem dX6_waitsFor_35 : decode cX6_waitsFor 35 = .ok (.ifCond .ne 5, 3) := by decide +kernel
theorem dX6_waitsFor_38 : decode cX6_waitsFor 38 = .ok (.iload_n 3, 1) := by decide +kernel
theorem dX6_waitsFor_39 : decode cX6_waitsFor 39 = .ok (.ireturn, 1) := by decide +kernel
theorem dX6_waitsFor_40 : decode cX6_waitsFor 40 = .ok (.iinc 3 1, 3) := by decide +kernel
theorem dX6_waitsFor_43 : decode cX6_waitsFor 43 = .ok (.goto (-35), 3) := by decide +kernel
theorem dX6_waitsFor_46 : decode cX6_waitsFor 46 = .ok (.new 178, 3) := by decide +kernel
theorem dX6_waitsFor_49 : decode cX6_waitsFor 49 = .ok (.dup, 1) := by decide +kernel
theorem dX6_waitsFor_50 : decode cX6_waitsFor 50 = .ok (.ldc 220, 2) := by decide +kernel
theorem dX6_waitsFor_52 : decode cX6_waitsFor 52 = .ok (.invokespecial 182, 3) := by decide +kernel
theorem dX6_waitsFor_55 : decode cX6_waitsFor 55 = .ok (.athrow, 1) := by decide +kernel
theorem dX6_isNeeded_0 : decode cX6_isNeeded 0 = .ok (.aload_n 0, 1) := by decide +kernel
theorem dX6_isNeeded_1 : decode cX6_isNeeded 1 = .ok (.iload_n 1, 1) := by decide +kernel
theorem dX6_isNeeded_2 : decode cX6_isNeeded 2 = .ok (.invokevirtual 81, 3) := by decide +kernel
theorem dX6_isNeeded_5 : decode cX6_isNeeded 5 = .ok (.aload_n 0, 1) := by decide +kernel
theorem dX6_isNeeded_6 : decode cX6_isNeeded 6 = .ok (.iload_n 1, 1) := by decide +kernel
theorem dX6_isNeeded_7 : decode cX6_isNeeded 7 = .ok (.invokevirtual 222, 3) := by decide +kernel
theorem dX6_isNeeded_10 : decode cX6_isNeeded 10 = .ok (.ireturn, 1) := by decide +kernel
theorem dX6_startsIn_0 : decode cX6_startsIn 0 = .ok (.aload_n 0, 1) := by decide +kernel
theorem dX6_startsIn_1 : decode cX6_startsIn 1 = .ok (.iload_n 1, 1) := by decide +kernel
theorem dX6_startsIn_2 : decode cX6_startsIn 2 = .ok (.invokevirtual 77, 3) := by decide +kernel
theorem dX6_startsIn_5 : decode cX6_startsIn 5 = .ok (.astore_n 2, 1) := by decide +kernel
theorem dX6_startsIn_6 : decode cX6_startsIn 6 = .ok (.aload_n 2, 1) := by decide +kernel
theorem dX6_startsIn_7 : decode cX6_startsIn 7 = .ok (.getfield 217, 3) := by decide +kernel
theorem dX6_startsIn_10 : decode cX6_startsIn 10 = .ok (.ifCond .ne 13, 3) := by decide +kernel
theorem dX6_startsIn_13 : decode cX6_startsIn 13 = .ok (.new 63, 3) := by decide +kernel
theorem dX6_startsIn_16 : decode cX6_startsIn 16 = .ok (.dup, 1) := by decide +kernel
theorem dX6_startsIn_17 : decode cX6_startsIn 17 = .ok (.ldc 225, 2) := by decide +kernel
theorem dX6_startsIn_19 : decode cX6_startsIn 19 = .ok (.invokespecial 67, 3) := by decide +kernel
theorem dX6_startsIn_22 : decode cX6_startsIn 22 = .ok (.athrow, 1) := by decide +kernel
theorem dX6_startsIn_23 : decode cX6_startsIn 23 = .ok (.iconst 1, 1) := by decide +kernel
theorem dX6_startsIn_24 : decode cX6_startsIn 24 = .ok (.aload_n 2, 1) := by decide +kernel
theorem dX6_startsIn_25 : decode cX6_startsIn 25 = .ok (.aload_n 0, 1) := by decide +kernel
theorem dX6_startsIn_26 : decode cX6_startsIn 26 = .ok (.getfield 165, 3) := by decide +kernel
theorem dX6_startsIn_29 : decode cX6_startsIn 29 = .ok (.invokevirtual 227, 3) := by decide +kernel
theorem dX6_startsIn_32 : decode cX6_startsIn 32 = .ok (.invokestatic 230, 3) := by decide +kernel
theorem dX6_startsIn_35 : decode cX6_startsIn 35 = .ok (.ireturn, 1) := by decide +kernel
theorem dX6_starts_0 : decode cX6_starts 0 = .ok (.aload_n 0, 1) := by decide +kernel
theorem dX6_starts_1 : decode cX6_starts 1 = .ok (.iload_n 1, 1) := by decide +kernel
theorem dX6_starts_2 : decode cX6_starts 2 = .ok (.invokevirtual 77, 3) := by decide +kernel
theorem dX6_starts_5 : decode cX6_starts 5 = .ok (.getfield 236, 3) := by decide +kernel
theorem dX6_starts_8 : decode cX6_starts 8 = .ok (.ireturn, 1) := by decide +kernel
theorem dX6_score_0 : decode cX6_score 0 = .ok (.aload_n 0, 1) := by decide +kernel
theorem dX6_score_1 : decode cX6_score 1 = .ok (.iload_n 1, 1) := by decide +kernel
theorem dX6_score_2 : decode cX6_score 2 = .ok (.invokevirtual 77, 3) := by decide +kernel
theorem dX6_score_5 : decode cX6_score 5 = .ok (.invokevirtual 239, 3) := by decide +kernel
theorem dX6_score_8 : decode cX6_score 8 = .ok (.ireturn, 1) := by decide +kernel
theorem dX6_victim_0 : decode cX6_victim 0 = .ok (.aload_n 0, 1) := by decide +kernel
theorem dX6_victim_1 : decode cX6_victim 1 = .ok (.invokevirtual 242, 3) := by decide +kernel
theorem dX6_victim_4 : decode cX6_victim 4 = .ok (.astore_n 1, 1) := by decide +kernel
theorem dX6_victim_5 : decode cX6_victim 5 = .ok (.aload_n 1, 1) := by decide +kernel
theorem dX6_victim_6 : decode cX6_victim 6 = .ok (.ifnonnull 13, 3) := by decide +kernel
theorem dX6_victim_9 : decode cX6_victim 9 = .ok (.new 178, 3) := by decide +kernel
theorem dX6_victim_12 : decode cX6_victim 12 = .ok (.dup, 1) := by decide +kernel
theorem dX6_victim_13 : decode cX6_victim 13 = .ok (.ldc 246, 2) := by decide +kernel
theorem dX6_victim_15 : decode cX6_victim 15 = .ok (.invokespecial 182, 3) := by decide +kernel
theorem dX6_victim_18 : decode cX6_victim 18 = .ok (.athrow, 1) := by decide +kernel
theorem dX6_victim_19 : decode cX6_victim 19 = .ok (.aload_n 1, 1) := by decide +kernel
theorem dX6_victim_20 : decode cX6_victim 20 = .ok (.getfield 248, 3) := by decide +kernel
theorem dX6_victim_23 : decode cX6_victim 23 = .ok (.ireturn, 1) := by decide +kernel
theorem dX6_deaths_0 : decode cX6_deaths 0 = .ok (.aload_n 0, 1) := by decide +kernel
theorem dX6_deaths_1 : decode cX6_deaths 1 = .ok (.getfield 159, 3) := by decide +kernel
theorem dX6_deaths_4 : decode cX6_deaths 4 = .ok (.ireturn, 1) := by decide +kernel
theorem dX6_smoothShare_0 : decode cX6_smoothShare 0 = .ok (.aload_n 0, 1) := by decide +kernel
theorem dX6_smoothShare_1 : decode cX6_smoothShare 1 = .ok (.getfield 251, 3) := by decide +kernel
theorem dX6_smoothShare_4 : decode cX6_smoothShare 4 = .ok (.ifCond .ne 14, 3) := by decide +kernel
theorem dX6_smoothShare_7 : decode cX6_smoothShare 7 = .ok (.new 254, 3) := by decide +kernel
theorem dX6_smoothShare_10 : decode cX6_smoothShare 10 = .ok (.dup, 1) := by decide +kernel
theorem dX6_smoothShare_11 : decode cX6_smoothShare 11 = .ok (.ldc_w 256, 3) := by decide +kernel
theorem dX6_smoothShare_14 : decode cX6_smoothShare 14 = .ok (.invokespecial 258, 3) := by decide +kernel
theorem dX6_smoothShare_17 : decode cX6_smoothShare 17 = .ok (.athrow, 1) := by decide +kernel
theorem dX6_smoothShare_18 : decode cX6_smoothShare 18 = .ok (.aload_n 0, 1) := by decide +kernel
theorem dX6_smoothShare_19 : decode cX6_smoothShare 19 = .ok (.getfield 259, 3) := by decide +kernel
theorem dX6_smoothShare_22 : decode cX6_smoothShare 22 = .ok (.i2f, 1) := by decide +kernel
theorem dX6_smoothShare_23 : decode cX6_smoothShare 23 = .ok (.aload_n 0, 1) := by decide +kernel
theorem dX6_smoothShare_24 : decode cX6_smoothShare 24 = .ok (.getfield 251, 3) := by decide +kernel
theorem dX6_smoothShare_27 : decode cX6_smoothShare 27 = .ok (.i2f, 1) := by decide +kernel
theorem dX6_smoothShare_28 : decode cX6_smoothShare 28 = .ok (.fdiv, 1) := by decide +kernel
theorem dX6_smoothShare_29 : decode cX6_smoothShare 29 = .ok (.freturn, 1) := by decide +kernel
theorem dX6_meanStalls_0 : decode cX6_meanStalls 0 = .ok (.aload_n 0, 1) := by decide +kernel
theorem dX6_meanStalls_1 : decode cX6_meanStalls 1 = .ok (.getfield 251, 3) := by decide +kernel
theorem dX6_meanStalls_4 : decode cX6_meanStalls 4 = .ok (.ifCond .ne 14, 3) := by decide +kernel
theorem dX6_meanStalls_7 : decode cX6_meanStalls 7 = .ok (.new 254, 3) := by decide +kernel
theorem dX6_meanStalls_10 : decode cX6_meanStalls 10 = .ok (.dup, 1) := by decide +kernel
theorem dX6_meanStalls_11 : decode cX6_meanStalls 11 = .ok (.ldc_w 256, 3) := by decide +kernel
theorem dX6_meanStalls_14 : decode cX6_meanStalls 14 = .ok (.invokespecial 258, 3) := by decide +kernel
theorem dX6_meanStalls_17 : decode cX6_meanStalls 17 = .ok (.athrow, 1) := by decide +kernel
theorem dX6_meanStalls_18 : decode cX6_meanStalls 18 = .ok (.aload_n 0, 1) := by decide +kernel
theorem dX6_meanStalls_19 : decode cX6_meanStalls 19 = .ok (.getfield 262, 3) := by decide +kernel
theorem dX6_meanStalls_22 : decode cX6_meanStalls 22 = .ok (.l2d, 1) := by decide +kernel
theorem dX6_meanStalls_23 : decode cX6_meanStalls 23 = .ok (.aload_n 0, 1) := by decide +kernel
theorem dX6_meanStalls_24 : decode cX6_meanStalls 24 = .ok (.getfield 251, 3) := by decide +kernel
theorem dX6_meanStalls_27 : decode cX6_meanStalls 27 = .ok (.i2d, 1) := by decide +kernel
theorem dX6_meanStalls_28 : decode cX6_meanStalls 28 = .ok (.ddiv, 1) := by decide +kernel
theorem dX6_meanStalls_29 : decode cX6_meanStalls 29 = .ok (.dreturn, 1) := by decide +kernel
theorem dX6_isSound_0 : decode cX6_isSound 0 = .ok (.aload_n 0, 1) := by decide +kernel
theorem dX6_isSound_1 : decode cX6_isSound 1 = .ok (.invokevirtual 265, 3) := by decide +kernel
theorem dX6_isSound_4 : decode cX6_isSound 4 = .ok (.ifCond .eq 31, 3) := by decide +kernel
theorem dX6_isSound_7 : decode cX6_isSound 7 = .ok (.aload_n 0, 1) := by decide +kernel
theorem dX6_isSound_8 : decode cX6_isSound 8 = .ok (.invokevirtual 269, 3) := by decide +kernel
theorem dX6_isSound_11 : decode cX6_isSound 11 = .ok (.ifCond .eq 24, 3) := by decide +kernel
theorem dX6_isSound_14 : decode cX6_isSound 14 = .ok (.aload_n 0, 1) := by decide +kernel
theorem dX6_isSound_15 : decode cX6_isSound 15 = .ok (.getfield 26, 3) := by decide +kernel
theorem dX6_isSound_18 : decode cX6_isSound 18 = .ok (.invokevirtual 192, 3) := by decide +kernel
theorem dX6_isSound_21 : decode cX6_isSound 21 = .ok (.aload_n 0, 1) := by decide +kernel
theorem dX6_isSound_22 : decode cX6_isSound 22 = .ok (.getfield 26, 3) := by decide +kernel
theorem dX6_isSound_25 : decode cX6_isSound 25 = .ok (.getfield 136, 3) := by decide +kernel
theorem dX6_isSound_28 : decode cX6_isSound 28 = .ok (.if_icmp .gt 7, 3) := by decide +kernel
theorem dX6_isSound_31 : decode cX6_isSound 31 = .ok (.iconst 1, 1) := by decide +kernel
theorem dX6_isSound_32 : decode cX6_isSound 32 = .ok (.goto 4, 3) := by decide +kernel
theorem dX6_isSound_35 : decode cX6_isSound 35 = .ok (.iconst 0, 1) := by decide +kernel
theorem dX6_isSound_36 : decode cX6_isSound 36 = .ok (.ireturn, 1) := by decide +kernel
theorem dX6_requireRange_0 : decode cX6_requireRange 0 = .ok (.iload_n 0, 1) := by decide +kernel
theorem dX6_requireRange_1 : decode cX6_requireRange 1 = .ok (.iload_n 1, 1) := by decide +kernel
theorem dX6_requireRange_2 : decode cX6_requireRange 2 = .ok (.if_icmp .lt 8, 3) := by decide +kernel
theorem dX6_requireRange_5 : decode cX6_requireRange 5 = .ok (.iload_n 0, 1) := by decide +kernel
theorem dX6_requireRange_6 : decode cX6_requireRange 6 = .ok (.iload_n 2, 1) := by decide +kernel
theorem dX6_requireRange_7 : decode cX6_requireRange 7 = .ok (.if_icmp .le 14, 3) := by decide +kernel
theorem dX6_requireRange_10 : decode cX6_requireRange 10 = .ok (.new 52, 3) := by decide +kernel
theorem dX6_requireRange_13 : decode cX6_requireRange 13 = .ok (.dup, 1) := by decide +kernel
theorem dX6_requireRange_14 : decode cX6_requireRange 14 = .ok (.ldc_w 272, 3) := by decide +kernel
theorem dX6_requireRange_17 : decode cX6_requireRange 17 = .ok (.invokespecial 56, 3) := by decide +kernel
theorem dX6_requireRange_20 : decode cX6_requireRange 20 = .ok (.athrow, 1) := by decide +kernel
theorem dX6_requireRange_21 : decode cX6_requireRange 21 = .ok (.return_, 1) := by decide +kernel
theorem dX6_requireService_0 : decode cX6_requireService 0 = .ok (.iload_n 1, 1) := by decide +kernel
theorem dX6_requireService_1 : decode cX6_requireService 1 = .ok (.ifCond .lt 14, 3) := by decide +kernel
theorem dX6_requireService_4 : decode cX6_requireService 4 = .ok (.iload_n 1, 1) := by decide +kernel
theorem dX6_requireService_5 : decode cX6_requireService 5 = .ok (.aload_n 0, 1) := by decide +kernel
theorem dX6_requireService_6 : decode cX6_requireService 6 = .ok (.getfield 40, 3) := by decide +kernel
theorem dX6_requireService_9 : decode cX6_requireService 9 = .ok (.invokevirtual 59, 3) := by decide +kernel
theorem dX6_requireService_12 : decode cX6_requireService 12 = .ok (.if_icmp .lt 14, 3) := by decide +kernel
theorem dX6_requireService_15 : decode cX6_requireService 15 = .ok (.new 274, 3) := by decide +kernel
theorem dX6_requireService_18 : decode cX6_requireService 18 = .ok (.dup, 1) := by decide +kernel
theorem dX6_requireService_19 : decode cX6_requireService 19 = .ok (.ldc_w 276, 3) := by decide +kernel
theorem dX6_requireService_22 : decode cX6_requireService 22 = .ok (.invokespecial 278, 3) := by decide +kernel
theorem dX6_requireService_25 : decode cX6_requireService 25 = .ok (.athrow, 1) := by decide +kernel
theorem dX6_requireService_26 : decode cX6_requireService 26 = .ok (.return_, 1) := by decide +kernel
theorem dX6_serviceAt_0 : decode cX6_serviceAt 0 = .ok (.aload_n 0, 1) := by decide +kernel
theorem dX6_serviceAt_1 : decode cX6_serviceAt 1 = .ok (.iload_n 1, 1) := by decide +kernel
theorem dX6_serviceAt_2 : decode cX6_serviceAt 2 = .ok (.invokevirtual 81, 3) := by decide +kernel
theorem dX6_serviceAt_5 : decode cX6_serviceAt 5 = .ok (.aload_n 0, 1) := by decide +kernel
theorem dX6_serviceAt_6 : decode cX6_serviceAt 6 = .ok (.getfield 40, 3) := by decide +kernel
theorem dX6_serviceAt_9 : decode cX6_serviceAt 9 = .ok (.iload_n 1, 1) := by decide +kernel
theorem dX6_serviceAt_10 : decode cX6_serviceAt 10 = .ok (.invokevirtual 200, 3) := by decide +kernel
theorem dX6_serviceAt_13 : decode cX6_serviceAt 13 = .ok (.checkcast 68, 3) := by decide +kernel
theorem dX6_serviceAt_16 : decode cX6_serviceAt 16 = .ok (.areturn, 1) := by decide +kernel
theorem dX6_pageAt_0 : decode cX6_pageAt 0 = .ok (.aload_n 0, 1) := by decide +kernel
theorem dX6_pageAt_1 : decode cX6_pageAt 1 = .ok (.iload_n 1, 1) := by decide +kernel
theorem dX6_pageAt_2 : decode cX6_pageAt 2 = .ok (.invokevirtual 77, 3) := by decide +kernel
theorem dX6_pageAt_5 : decode cX6_pageAt 5 = .ok (.astore_n 3, 1) := by decide +kernel
theorem dX6_pageAt_6 : decode cX6_pageAt 6 = .ok (.iload_n 2, 1) := by decide +kernel
theorem dX6_pageAt_7 : decode cX6_pageAt 7 = .ok (.ifCond .lt 12, 3) := by decide +kernel
theorem dX6_pageAt_10 : decode cX6_pageAt 10 = .ok (.iload_n 2, 1) := by decide +kernel
theorem dX6_pageAt_11 : decode cX6_pageAt 11 = .ok (.aload_n 3, 1) := by decide +kernel
theorem dX6_pageAt_12 : decode cX6_pageAt 12 = .ok (.getfield 279, 3) := by decide +kernel
theorem dX6_pageAt_15 : decode cX6_pageAt 15 = .ok (.arraylength, 1) := by decide +kernel
theorem dX6_pageAt_16 : decode cX6_pageAt 16 = .ok (.if_icmp .lt 14, 3) := by decide +kernel
theorem dX6_pageAt_19 : decode cX6_pageAt 19 = .ok (.new 274, 3) := by decide +kernel
theorem dX6_pageAt_22 : decode cX6_pageAt 22 = .ok (.dup, 1) := by decide +kernel
theorem dX6_pageAt_23 : decode cX6_pageAt 23 = .ok (.ldc_w 283, 3) := by decide +kernel
theorem dX6_pageAt_26 : decode cX6_pageAt 26 = .ok (.invokespecial 278, 3) := by decide +kernel
theorem dX6_pageAt_29 : decode cX6_pageAt 29 = .ok (.athrow, 1) := by decide +kernel
theorem dX6_pageAt_30 : decode cX6_pageAt 30 = .ok (.aload_n 3, 1) := by decide +kernel
theorem dX6_pageAt_31 : decode cX6_pageAt 31 = .ok (.getfield 279, 3) := by decide +kernel
theorem dX6_pageAt_34 : decode cX6_pageAt 34 = .ok (.iload_n 2, 1) := by decide +kernel
theorem dX6_pageAt_35 : decode cX6_pageAt 35 = .ok (.aaload, 1) := by decide +kernel
theorem dX6_pageAt_36 : decode cX6_pageAt 36 = .ok (.areturn, 1) := by decide +kernel
theorem dX6_hasBit_0 : decode cX6_hasBit 0 = .ok (.iload_n 0, 1) := by decide +kernel
theorem dX6_hasBit_1 : decode cX6_hasBit 1 = .ok (.iload_n 1, 1) := by decide +kernel
theorem dX6_hasBit_2 : decode cX6_hasBit 2 = .ok (.ishr, 1) := by decide +kernel
theorem dX6_hasBit_3 : decode cX6_hasBit 3 = .ok (.iconst 1, 1) := by decide +kernel
theorem dX6_hasBit_4 : decode cX6_hasBit 4 = .ok (.iand, 1) := by decide +kernel
theorem dX6_hasBit_5 : decode cX6_hasBit 5 = .ok (.ifCond .eq 7, 3) := by decide +kernel
theorem dX6_hasBit_8 : decode cX6_hasBit 8 = .ok (.iconst 1, 1) := by decide +kernel
theorem dX6_hasBit_9 : decode cX6_hasBit 9 = .ok (.goto 4, 3) := by decide +kernel
theorem dX6_hasBit_12 : decode cX6_hasBit 12 = .ok (.iconst 0, 1) := by decide +kernel
theorem dX6_hasBit_13 : decode cX6_hasBit 13 = .ok (.ireturn, 1) := by decide +kernel
theorem dX6_allNeedsOf_0 : decode cX6_allNeedsOf 0 = .ok (.aload_n 0, 1) := by decide +kernel
theorem dX6_allNeedsOf_1 : decode cX6_allNeedsOf 1 = .ok (.iload_n 1, 1) := by decide +kernel
theorem dX6_allNeedsOf_2 : decode cX6_allNeedsOf 2 = .ok (.invokevirtual 77, 3) := by decide +kernel
theorem dX6_allNeedsOf_5 : decode cX6_allNeedsOf 5 = .ok (.getfield 100, 3) := by decide +kernel
theorem dX6_allNeedsOf_8 : decode cX6_allNeedsOf 8 = .ok (.istore_n 2, 1) := by decide +kernel
theorem dX6_allNeedsOf_9 : decode cX6_allNeedsOf 9 = .ok (.iconst 0, 1) := by decide +kernel
theorem dX6_allNeedsOf_10 : decode cX6_allNeedsOf 10 = .ok (.istore_n 3, 1) := by decide +kernel
theorem dX6_allNeedsOf_11 : decode cX6_allNeedsOf 11 = .ok (.iload_n 3, 1) := by decide +kernel
theorem dX6_allNeedsOf_12 : decode cX6_allNeedsOf 12 = .ok (.bipush 6, 2) := by decide +kernel
theorem dX6_allNeedsOf_14 : decode cX6_allNeedsOf 14 = .ok (.if_icmp .ge 57, 3) := by decide +kernel
theorem dX6_allNeedsOf_17 : decode cX6_allNeedsOf 17 = .ok (.iconst 0, 1) := by decide +kernel
theorem dX6_allNeedsOf_18 : decode cX6_allNeedsOf 18 = .ok (.istore 4, 2) := by decide +kernel
theorem dX6_allNeedsOf_20 : decode cX6_allNeedsOf 20 = .ok (.iload 4, 2) := by decide +kernel
theorem dX6_allNeedsOf_22 : decode cX6_allNeedsOf 22 = .ok (.aload_n 0, 1) := by decide +kernel
theorem dX6_allNeedsOf_23 : decode cX6_allNeedsOf 23 = .ok (.getfield 40, 3) := by decide +kernel
theorem dX6_allNeedsOf_26 : decode cX6_allNeedsOf 26 = .ok (.invokevirtual 59, 3) := by decide +kernel
theorem dX6_allNeedsOf_29 : decode cX6_allNeedsOf 29 = .ok (.if_icmp .ge 36, 3) := by decide +kernel
theorem dX6_allNeedsOf_32 : decode cX6_allNeedsOf 32 = .ok (.iload_n 2, 1) := by decide +kernel
theorem dX6_allNeedsOf_33 : decode cX6_allNeedsOf 33 = .ok (.iload 4, 2) := by decide +kernel
theorem dX6_allNeedsOf_35 : decode cX6_allNeedsOf 35 = .ok (.invokestatic 91, 3) := by decide +kernel
theorem dX6_allNeedsOf_38 : decode cX6_allNeedsOf 38 = .ok (.ifCond .eq 21, 3) := by decide +kernel
theorem dX6_allNeedsOf_41 : decode cX6_allNeedsOf 41 = .ok (.iload_n 2, 1) := by decide +kernel
theorem dX6_allNeedsOf_42 : decode cX6_allNeedsOf 42 = .ok (.aload_n 0, 1) := by decide +kernel
theorem dX6_allNeedsOf_43 : decode cX6_allNeedsOf 43 = .ok (.getfield 40, 3) := by decide +kernel
theorem dX6_allNeedsOf_46 : decode cX6_allNeedsOf 46 = .ok (.iload 4, 2) := by decide +kernel
theorem dX6_allNeedsOf_48 : decode cX6_allNeedsOf 48 = .ok (.invokevirtual 200, 3) := by decide +kernel
theorem dX6_allNeedsOf_51 : decode cX6_allNeedsOf 51 = .ok (.checkcast 68, 3) := by decide +kernel
theorem dX6_allNeedsOf_54 : decode cX6_allNeedsOf 54 = .ok (.getfield 100, 3) := by decide +kernel
theorem dX6_allNeedsOf_57 : decode cX6_allNeedsOf 57 = .ok (.ior, 1) := by decide +kernel
theorem dX6_allNeedsOf_58 : decode cX6_allNeedsOf 58 = .ok (.istore_n 2, 1) := by decide +kernel
theorem dX6_allNeedsOf_59 : decode cX6_allNeedsOf 59 = .ok (.iinc 4 1, 3) := by decide +kernel
theorem dX6_allNeedsOf_62 : decode cX6_allNeedsOf 62 = .ok (.goto (-42), 3) := by decide +kernel
theorem dX6_allNeedsOf_65 : decode cX6_allNeedsOf 65 = .ok (.iinc 3 1, 3) := by decide +kernel
theorem dX6_allNeedsOf_68 : decode cX6_allNeedsOf 68 = .ok (.goto (-57), 3) := by decide +kernel
theorem dX6_allNeedsOf_71 : decode cX6_allNeedsOf 71 = .ok (.iload_n 2, 1) := by decide +kernel
theorem dX6_allNeedsOf_72 : decode cX6_allNeedsOf 72 = .ok (.ireturn, 1) := by decide +kernel
theorem dX6_isRunning_0 : decode cX6_isRunning 0 = .ok (.aload_n 0, 1) := by decide +kernel
theorem dX6_isRunning_1 : decode cX6_isRunning 1 = .ok (.iload_n 1, 1) := by decide +kernel
theorem dX6_isRunning_2 : decode cX6_isRunning 2 = .ok (.invokevirtual 87, 3) := by decide +kernel
theorem dX6_isRunning_5 : decode cX6_isRunning 5 = .ok (.iconst 1, 1) := by decide +kernel
theorem dX6_isRunning_6 : decode cX6_isRunning 6 = .ok (.iload_n 1, 1) := by decide +kernel
theorem dX6_isRunning_7 : decode cX6_isRunning 7 = .ok (.ishl, 1) := by decide +kernel
theorem dX6_isRunning_8 : decode cX6_isRunning 8 = .ok (.ior, 1) := by decide +kernel
theorem dX6_isRunning_9 : decode cX6_isRunning 9 = .ok (.istore_n 2, 1) := by decide +kernel
theorem dX6_isRunning_10 : decode cX6_isRunning 10 = .ok (.iconst 0, 1) := by decide +kernel
theorem dX6_isRunning_11 : decode cX6_isRunning 11 = .ok (.istore_n 3, 1) := by decide +kernel
theorem dX6_isRunning_12 : decode cX6_isRunning 12 = .ok (.iload_n 3, 1) := by decide +kernel
theorem dX6_isRunning_13 : decode cX6_isRunning 13 = .ok (.aload_n 0, 1) := by decide +kernel
theorem dX6_isRunning_14 : decode cX6_isRunning 14 = .ok (.getfield 40, 3) := by decide +kernel
theorem dX6_isRunning_17 : decode cX6_isRunning 17 = .ok (.invokevirtual 59, 3) := by decide +kernel
theorem dX6_isRunning_20 : decode cX6_isRunning 20 = .ok (.if_icmp .ge 36, 3) := by decide +kernel
theorem dX6_isRunning_23 : decode cX6_isRunning 23 = .ok (.iload_n 2, 1) := by decide +kernel
theorem dX6_isRunning_24 : decode cX6_isRunning 24 = .ok (.iload_n 3, 1) := by decide +kernel
theorem dX6_isRunning_25 : decode cX6_isRunning 25 = .ok (.invokestatic 91, 3) := by decide +kernel
theorem dX6_isRunning_28 : decode cX6_isRunning 28 = .ok (.ifCond .eq 22, 3) := by decide +kernel
theorem dX6_isRunning_31 : decode cX6_isRunning 31 = .ok (.aload_n 0, 1) := by decide +kernel
theorem dX6_isRunning_32 : decode cX6_isRunning 32 = .ok (.getfield 40, 3) := by decide +kernel
theorem dX6_isRunning_35 : decode cX6_isRunning 35 = .ok (.iload_n 3, 1) := by decide +kernel
theorem dX6_isRunning_36 : decode cX6_isRunning 36 = .ok (.invokevirtual 200, 3) := by decide +kernel
theorem dX6_isRunning_39 : decode cX6_isRunning 39 = .ok (.checkcast 68, 3) := by decide +kernel
theorem dX6_isRunning_42 : decode cX6_isRunning 42 = .ok (.getfield 217, 3) := by decide +kernel
theorem dX6_isRunning_45 : decode cX6_isRunning 45 = .ok (.ifCond .eq 5, 3) := by decide +kernel
theorem dX6_isRunning_48 : decode cX6_isRunning 48 = .ok (.iconst 0, 1) := by decide +kernel
theorem dX6_isRunning_49 : decode cX6_isRunning 49 = .ok (.ireturn, 1) := by decide +kernel
theorem dX6_isRunning_50 : decode cX6_isRunning 50 = .ok (.iinc 3 1, 3) := by decide +kernel
theorem dX6_isRunning_53 : decode cX6_isRunning 53 = .ok (.goto (-41), 3) := by decide +kernel
theorem dX6_isRunning_56 : decode cX6_isRunning 56 = .ok (.iconst 1, 1) := by decide +kernel
theorem dX6_isRunning_57 : decode cX6_isRunning 57 = .ok (.ireturn, 1) := by decide +kernel
theorem dX6_isNeededByLiving_0 : decode cX6_isNeededByLiving 0 = .ok (.iconst 0, 1) := by decide +kernel
theorem dX6_isNeededByLiving_1 : decode cX6_isNeededByLiving 1 = .ok (.istore_n 2, 1) := by decide +kernel
theorem dX6_isNeededByLiving_2 : decode cX6_isNeededByLiving 2 = .ok (.iload_n 2, 1) := by decide +kernel
theorem dX6_isNeededByLiving_3 : decode cX6_isNeededByLiving 3 = .ok (.aload_n 0, 1) := by decide +kernel
theorem dX6_isNeededByLiving_4 : decode cX6_isNeededByLiving 4 = .ok (.getfield 40, 3) := by decide +kernel
theorem dX6_isNeededByLiving_7 : decode cX6_isNeededByLiving 7 = .ok (.invokevirtual 59, 3) := by decide +kernel
theorem dX6_isNeededByLiving_10 : decode cX6_isNeededByLiving 10 = .ok (.if_icmp .ge 41, 3) := by decide +kernel
theorem dX6_isNeededByLiving_13 : decode cX6_isNeededByLiving 13 = .ok (.aload_n 0, 1) := by decide +kernel
theorem dX6_isNeededByLiving_14 : decode cX6_isNeededByLiving 14 = .ok (.getfield 40, 3) := by decide +kernel
theorem dX6_isNeededByLiving_17 : decode cX6_isNeededByLiving 17 = .ok (.iload_n 2, 1) := by decide +kernel
theorem dX6_isNeededByLiving_18 : decode cX6_isNeededByLiving 18 = .ok (.invokevirtual 200, 3) := by decide +kernel
theorem dX6_isNeededByLiving_21 : decode cX6_isNeededByLiving 21 = .ok (.checkcast 68, 3) := by decide +kernel
theorem dX6_isNeededByLiving_24 : decode cX6_isNeededByLiving 24 = .ok (.astore_n 3, 1) := by decide +kernel
theorem dX6_isNeededByLiving_25 : decode cX6_isNeededByLiving 25 = .ok (.aload_n 3, 1) := by decide +kernel
theorem dX6_isNeededByLiving_26 : decode cX6_isNeededByLiving 26 = .ok (.getfield 217, 3) := by decide +kernel
theorem dX6_isNeededByLiving_29 : decode cX6_isNeededByLiving 29 = .ok (.ifCond .ne 16, 3) := by decide +kernel
theorem dX6_isNeededByLiving_32 : decode cX6_isNeededByLiving 32 = .ok (.aload_n 3, 1) := by decide +kernel
theorem dX6_isNeededByLiving_33 : decode cX6_isNeededByLiving 33 = .ok (.getfield 100, 3) := by decide +kernel
theorem dX6_isNeededByLiving_36 : decode cX6_isNeededByLiving 36 = .ok (.iload_n 1, 1) := by decide +kernel
theorem dX6_isNeededByLiving_37 : decode cX6_isNeededByLiving 37 = .ok (.invokestatic 91, 3) := by decide +kernel
theorem dX6_isNeededByLiving_40 : decode cX6_isNeededByLiving 40 = .ok (.ifCond .eq 5, 3) := by decide +kernel
theorem dX6_isNeededByLiving_43 : decode cX6_isNeededByLiving 43 = .ok (.iconst 1, 1) := by decide +kernel
theorem dX6_isNeededByLiving_44 : decode cX6_isNeededByLiving 44 = .ok (.ireturn, 1) := by decide +kernel
theorem dX6_isNeededByLiving_45 : decode cX6_isNeededByLiving 45 = .ok (.iinc 2 1, 3) := by decide +kernel
theorem dX6_isNeededByLiving_48 : decode cX6_isNeededByLiving 48 = .ok (.goto (-46), 3) := by decide +kernel
theorem dX6_isNeededByLiving_51 : decode cX6_isNeededByLiving 51 = .ok (.iconst 0, 1) := by decide +kernel
theorem dX6_isNeededByLiving_52 : decode cX6_isNeededByLiving 52 = .ok (.ireturn, 1) := by decide +kernel
theorem dX6_bringIntoFrame_0 : decode cX6_bringIntoFrame 0 = .ok (.aload_n 1, 1) := by decide +kernel
theorem dX6_bringIntoFrame_1 : decode cX6_bringIntoFrame 1 = .ok (.getfield 112, 3) := by decide +kernel
theorem dX6_bringIntoFrame_4 : decode cX6_bringIntoFrame 4 = .ok (.invokestatic 285, 3) := by decide +kernel
theorem dX6_bringIntoFrame_7 : decode cX6_bringIntoFrame 7 = .ok (.istore_n 2, 1) := by decide +kernel
theorem dX6_bringIntoFrame_8 : decode cX6_bringIntoFrame 8 = .ok (.aload_n 0, 1) := by decide +kernel
theorem dX6_bringIntoFrame_9 : decode cX6_bringIntoFrame 9 = .ok (.aload_n 1, 1) := by decide +kernel
theorem dX6_bringIntoFrame_10 : decode cX6_bringIntoFrame 10 = .ok (.invokevirtual 288, 3) := by decide +kernel
theorem dX6_bringIntoFrame_13 : decode cX6_bringIntoFrame 13 = .ok (.aload_n 0, 1) := by decide +kernel
theorem dX6_bringIntoFrame_14 : decode cX6_bringIntoFrame 14 = .ok (.getfield 19, 3) := by decide +kernel
theorem dX6_bringIntoFrame_17 : decode cX6_bringIntoFrame 17 = .ok (.invokevirtual 292, 3) := by decide +kernel
theorem dX6_bringIntoFrame_20 : decode cX6_bringIntoFrame 20 = .ok (.istore_n 3, 1) := by decide +kernel
theorem dX6_bringIntoFrame_21 : decode cX6_bringIntoFrame 21 = .ok (.iload_n 3, 1) := by decide +kernel
theorem dX6_bringIntoFrame_22 : decode cX6_bringIntoFrame 22 = .ok (.iconst (-1), 1) := by decide +kernel
theorem dX6_bringIntoFrame_23 : decode cX6_bringIntoFrame 23 = .ok (.if_icmp .ne 18, 3) := by decide +kernel
theorem dX6_bringIntoFrame_26 : decode cX6_bringIntoFrame 26 = .ok (.iload_n 2, 1) := by decide +kernel
theorem dX6_bringIntoFrame_27 : decode cX6_bringIntoFrame 27 = .ok (.aload_n 0, 1) := by decide +kernel
theorem dX6_bringIntoFrame_28 : decode cX6_bringIntoFrame 28 = .ok (.invokevirtual 295, 3) := by decide +kernel
theorem dX6_bringIntoFrame_31 : decode cX6_bringIntoFrame 31 = .ok (.iadd, 1) := by decide +kernel
theorem dX6_bringIntoFrame_32 : decode cX6_bringIntoFrame 32 = .ok (.istore_n 2, 1) := by decide +kernel
theorem dX6_bringIntoFrame_33 : decode cX6_bringIntoFrame 33 = .ok (.aload_n 0, 1) := by decide +kernel
theorem dX6_bringIntoFrame_34 : decode cX6_bringIntoFrame 34 = .ok (.getfield 19, 3) := by decide +kernel
theorem dX6_bringIntoFrame_37 : decode cX6_bringIntoFrame 37 = .ok (.invokevirtual 292, 3) := by decide +kernel
theorem dX6_bringIntoFrame_40 : decode cX6_bringIntoFrame 40 = .ok (.istore_n 3, 1) := by decide +kernel
theorem dX6_bringIntoFrame_41 : decode cX6_bringIntoFrame 41 = .ok (.aload_n 0, 1) := by decide +kernel
theorem dX6_bringIntoFrame_42 : decode cX6_bringIntoFrame 42 = .ok (.getfield 19, 3) := by decide +kernel
theorem dX6_bringIntoFrame_45 : decode cX6_bringIntoFrame 45 = .ok (.aload_n 1, 1) := by decide +kernel
theorem dX6_bringIntoFrame_46 : decode cX6_bringIntoFrame 46 = .ok (.iload_n 3, 1) := by decide +kernel
theorem dX6_bringIntoFrame_47 : decode cX6_bringIntoFrame 47 = .ok (.invokevirtual 298, 3) := by decide +kernel
theorem dX6_bringIntoFrame_50 : decode cX6_bringIntoFrame 50 = .ok (.iload_n 2, 1) := by decide +kernel
theorem dX6_bringIntoFrame_51 : decode cX6_bringIntoFrame 51 = .ok (.ireturn, 1) := by decide +kernel
theorem dX6_stallsFrom_0 : decode cX6_stallsFrom 0 = .ok (.iload_n 0, 1) := by decide +kernel
theorem dX6_stallsFrom_1 : decode cX6_stallsFrom 1 = .ok (.bipush 100, 2) := by decide +kernel
theorem dX6_stallsFrom_3 : decode cX6_stallsFrom 3 = .ok (.if_icmp .ne 6, 3) := by decide +kernel
theorem dX6_stallsFrom_6 : decode cX6_stallsFrom 6 = .ok (.bipush 10, 2) := by decide +kernel
theorem dX6_stallsFrom_8 : decode cX6_stallsFrom 8 = .ok (.ireturn, 1) := by decide +kernel
theorem dX6_stallsFrom_9 : decode cX6_stallsFrom 9 = .ok (.iload_n 0, 1) := by decide +kernel
theorem dX6_stallsFrom_10 : decode cX6_stallsFrom 10 = .ok (.bipush 115, 2) := by decide +kernel
theorem dX6_stallsFrom_12 : decode cX6_stallsFrom 12 = .ok (.if_icmp .ne 7, 3) := by decide +kernel
theorem dX6_stallsFrom_15 : decode cX6_stallsFrom 15 = .ok (.iconst 2, 1) := by decide +kernel
theorem dX6_stallsFrom_16 : decode cX6_stallsFrom 16 = .ok (.goto 4, 3) := by decide +kernel
theorem dX6_stallsFrom_19 : decode cX6_stallsFrom 19 = .ok (.iconst 1, 1) := by decide +kernel
theorem dX6_stallsFrom_20 : decode cX6_stallsFrom 20 = .ok (.ireturn, 1) := by decide +kernel
theorem dX6_detach_0 : decode cX6_detach 0 = .ok (.aload_n 1, 1) := by decide +kernel
theorem dX6_detach_1 : decode cX6_detach 1 = .ok (.getfield 112, 3) := by decide +kernel
theorem dX6_detach_4 : decode cX6_detach 4 = .ok (.bipush 102, 2) := by decide +kernel
theorem dX6_detach_6 : decode cX6_detach 6 = .ok (.if_icmp .ne 18, 3) := by decide +kernel
theorem dX6_detach_9 : decode cX6_detach 9 = .ok (.aload_n 0, 1) := by decide +kernel
theorem dX6_detach_10 : decode cX6_detach 10 = .ok (.getfield 19, 3) := by decide +kernel
theorem dX6_detach_13 : decode cX6_detach 13 = .ok (.aload_n 1, 1) := by decide +kernel
theorem dX6_detach_14 : decode cX6_detach 14 = .ok (.getfield 183, 3) := by decide +kernel
theorem dX6_detach_17 : decode cX6_detach 17 = .ok (.invokevirtual 125, 3) := by decide +kernel
theorem dX6_detach_20 : decode cX6_detach 20 = .ok (.pop, 1) := by decide +kernel
theorem dX6_detach_21 : decode cX6_detach 21 = .ok (.goto 20, 3) := by decide +kernel
theorem dX6_detach_24 : decode cX6_detach 24 = .ok (.aload_n 1, 1) := by decide +kernel
theorem dX6_detach_25 : decode cX6_detach 25 = .ok (.getfield 112, 3) := by decide +kernel
theorem dX6_detach_28 : decode cX6_detach 28 = .ok (.bipush 115, 2) := by decide +kernel
theorem dX6_detach_30 : decode cX6_detach 30 = .ok (.if_icmp .ne 11, 3) := by decide +kernel
theorem dX6_detach_33 : decode cX6_detach 33 = .ok (.aload_n 0, 1) := by decide +kernel
theorem dX6_detach_34 : decode cX6_detach 34 = .ok (.getfield 26, 3) := by decide +kernel
theorem dX6_detach_37 : decode cX6_detach 37 = .ok (.aload_n 1, 1) := by decide +kernel
theorem dX6_detach_38 : decode cX6_detach 38 = .ok (.invokevirtual 302, 3) := by decide +kernel
theorem dX6_detach_41 : decode cX6_detach 41 = .ok (.return_, 1) := by decide +kernel
theorem dX6_clearFrame_0 : decode cX6_clearFrame 0 = .ok (.aload_n 0, 1) := by decide +kernel
theorem dX6_clearFrame_1 : decode cX6_clearFrame 1 = .ok (.getfield 19, 3) := by decide +kernel
theorem dX6_clearFrame_4 : decode cX6_clearFrame 4 = .ok (.invokevirtual 305, 3) := by decide +kernel
theorem dX6_clearFrame_7 : decode cX6_clearFrame 7 = .ok (.astore_n 1, 1) := by decide +kernel
theorem dX6_clearFrame_8 : decode cX6_clearFrame 8 = .ok (.aload_n 1, 1) := by decide +kernel
theorem dX6_clearFrame_9 : decode cX6_clearFrame 9 = .ok (.ifnonnull 7, 3) := by decide +kernel
theorem dX6_clearFrame_12 : decode cX6_clearFrame 12 = .ok (.iconst 0, 1) := by decide +kernel
theorem dX6_clearFrame_13 : decode cX6_clearFrame 13 = .ok (.goto 11, 3) := by decide +kernel
theorem dX6_clearFrame_16 : decode cX6_clearFrame 16 = .ok (.aload_n 0, 1) := by decide +kernel
theorem dX6_clearFrame_17 : decode cX6_clearFrame 17 = .ok (.getfield 26, 3) := by decide +kernel
theorem dX6_clearFrame_20 : decode cX6_clearFrame 20 = .ok (.aload_n 1, 1) := by decide +kernel
theorem dX6_clearFrame_21 : decode cX6_clearFrame 21 = .ok (.invokevirtual 129, 3) := by decide +kernel
theorem dX6_clearFrame_24 : decode cX6_clearFrame 24 = .ok (.ireturn, 1) := by decide +kernel
theorem dX6_countTouch_0 : decode cX6_countTouch 0 = .ok (.aload_n 0, 1) := by decide +kernel
theorem dX6_countTouch_1 : decode cX6_countTouch 1 = .ok (.dup, 1) := by decide +kernel
theorem dX6_countTouch_2 : decode cX6_countTouch 2 = .ok (.getfield 251, 3) := by decide +kernel
theorem dX6_countTouch_5 : decode cX6_countTouch 5 = .ok (.iconst 1, 1) := by decide +kernel
theorem dX6_countTouch_6 : decode cX6_countTouch 6 = .ok (.iadd, 1) := by decide +kernel
theorem dX6_countTouch_7 : decode cX6_countTouch 7 = .ok (.putfield 251, 3) := by decide +kernel
theorem dX6_countTouch_10 : decode cX6_countTouch 10 = .ok (.iload_n 2, 1) := by decide +kernel
theorem dX6_countTouch_11 : decode cX6_countTouch 11 = .ok (.ifCond .ne 13, 3) := by decide +kernel
theorem dX6_countTouch_14 : decode cX6_countTouch 14 = .ok (.aload_n 0, 1) := by decide +kernel
theorem dX6_countTouch_15 : decode cX6_countTouch 15 = .ok (.dup, 1) := by decide +kernel
theorem dX6_countTouch_16 : decode cX6_countTouch 16 = .ok (.getfield 259, 3) := by decide +kernel
theorem dX6_countTouch_19 : decode cX6_countTouch 19 = .ok (.iconst 1, 1) := by decide +kernel
theorem dX6_countTouch_20 : decode cX6_countTouch 20 = .ok (.iadd, 1) := by decide +kernel
theorem dX6_countTouch_21 : decode cX6_countTouch 21 = .ok (.putfield 259, 3) := by decide +kernel
theorem dX6_countTouch_24 : decode cX6_countTouch 24 = .ok (.aload_n 0, 1) := by decide +kernel
theorem dX6_countTouch_25 : decode cX6_countTouch 25 = .ok (.dup, 1) := by decide +kernel
theorem dX6_countTouch_26 : decode cX6_countTouch 26 = .ok (.getfield 262, 3) := by decide +kernel
theorem dX6_countTouch_29 : decode cX6_countTouch 29 = .ok (.iload_n 2, 1) := by decide +kernel
theorem dX6_countTouch_30 : decode cX6_countTouch 30 = .ok (.i2l, 1) := by decide +kernel
theorem dX6_countTouch_31 : decode cX6_countTouch 31 = .ok (.ladd, 1) := by decide +kernel
theorem dX6_countTouch_32 : decode cX6_countTouch 32 = .ok (.putfield 262, 3) := by decide +kernel
theorem dX6_countTouch_35 : decode cX6_countTouch 35 = .ok (.aload_n 1, 1) := by decide +kernel
theorem dX6_countTouch_36 : decode cX6_countTouch 36 = .ok (.dup, 1) := by decide +kernel
theorem dX6_countTouch_37 : decode cX6_countTouch 37 = .ok (.getfield 213, 3) := by decide +kernel
theorem dX6_countTouch_40 : decode cX6_countTouch 40 = .ok (.iload_n 2, 1) := by decide +kernel
theorem dX6_countTouch_41 : decode cX6_countTouch 41 = .ok (.i2l, 1) := by decide +kernel
theorem dX6_countTouch_42 : decode cX6_countTouch 42 = .ok (.ladd, 1) := by decide +kernel
theorem dX6_countTouch_43 : decode cX6_countTouch 43 = .ok (.putfield 213, 3) := by decide +kernel
theorem dX6_countTouch_46 : decode cX6_countTouch 46 = .ok (.aload_n 0, 1) := by decide +kernel
theorem dX6_countTouch_47 : decode cX6_countTouch 47 = .ok (.getfield 33, 3) := by decide +kernel
theorem dX6_countTouch_50 : decode cX6_countTouch 50 = .ok (.iload_n 2, 1) := by decide +kernel
theorem dX6_countTouch_51 : decode cX6_countTouch 51 = .ok (.invokevirtual 309, 3) := by decide +kernel
theorem dX6_countTouch_54 : decode cX6_countTouch 54 = .ok (.return_, 1) := by decide +kernel
theorem dX6_passOneTick_0 : decode cX6_passOneTick 0 = .ok (.aload_n 0, 1) := by decide +kernel
theorem dX6_passOneTick_1 : decode cX6_passOneTick 1 = .ok (.getfield 33, 3) := by decide +kernel
theorem dX6_passOneTick_4 : decode cX6_passOneTick 4 = .ok (.invokevirtual 210, 3) := by decide +kernel
theorem dX6_passOneTick_7 : decode cX6_passOneTick 7 = .ok (.aload_n 0, 1) := by decide +kernel
theorem dX6_passOneTick_8 : decode cX6_passOneTick 8 = .ok (.getfield 44, 3) := by decide +kernel
theorem dX6_passOneTick_11 : decode cX6_passOneTick 11 = .ok (.if_icmp .le 14, 3) := by decide +kernel
theorem dX6_passOneTick_14 : decode cX6_passOneTick 14 = .ok (.aload_n 0, 1) := by decide +kernel
theorem dX6_passOneTick_15 : decode cX6_passOneTick 15 = .ok (.invokevirtual 311, 3) := by decide +kernel
theorem dX6_passOneTick_18 : decode cX6_passOneTick 18 = .ok (.aload_n 0, 1) := by decide +kernel
theorem dX6_passOneTick_19 : decode cX6_passOneTick 19 = .ok (.getfield 33, 3) := by decide +kernel
theorem dX6_passOneTick_22 : decode cX6_passOneTick 22 = .ok (.invokevirtual 314, 3) := by decide +kernel
theorem dX6_passOneTick_25 : decode cX6_passOneTick 25 = .ok (.aload_n 0, 1) := by decide +kernel
theorem dX6_passOneTick_26 : decode cX6_passOneTick 26 = .ok (.dup, 1) := by decide +kernel
theorem dX6_passOneTick_27 : decode cX6_passOneTick 27 = .ok (.getfield 165, 3) := by decide +kernel
theorem dX6_passOneTick_30 : decode cX6_passOneTick 30 = .ok (.iconst 1, 1) := by decide +kernel
theorem dX6_passOneTick_31 : decode cX6_passOneTick 31 = .ok (.iadd, 1) := by decide +kernel
theorem dX6_passOneTick_32 : decode cX6_passOneTick 32 = .ok (.putfield 165, 3) := by decide +kernel
theorem dX6_passOneTick_35 : decode cX6_passOneTick 35 = .ok (.aload_n 0, 1) := by decide +kernel
theorem dX6_passOneTick_36 : decode cX6_passOneTick 36 = .ok (.getfield 33, 3) := by decide +kernel
theorem dX6_passOneTick_39 : decode cX6_passOneTick 39 = .ok (.invokevirtual 317, 3) := by decide +kernel
theorem dX6_passOneTick_42 : decode cX6_passOneTick 42 = .ok (.aload_n 0, 1) := by decide +kernel
theorem dX6_passOneTick_43 : decode cX6_passOneTick 43 = .ok (.invokevirtual 320, 3) := by decide +kernel
theorem dX6_passOneTick_46 : decode cX6_passOneTick 46 = .ok (.return_, 1) := by decide +kernel
theorem dX6_nextVictim_0 : decode cX6_nextVictim 0 = .ok (.aconst_null, 1) := by decide +kernel
theorem dX6_nextVictim_1 : decode cX6_nextVictim 1 = .ok (.astore_n 1, 1) := by decide +kernel
theorem dX6_nextVictim_2 : decode cX6_nextVictim 2 = .ok (.iconst 0, 1) := by decide +kernel
theorem dX6_nextVictim_3 : decode cX6_nextVictim 3 = .ok (.istore_n 2, 1) := by decide +kernel
theorem dX6_nextVictim_4 : decode cX6_nextVictim 4 = .ok (.iload_n 2, 1) := by decide +kernel
theorem dX6_nextVictim_5 : decode cX6_nextVictim 5 = .ok (.aload_n 0, 1) := by decide +kernel
theorem dX6_nextVictim_6 : decode cX6_nextVictim 6 = .ok (.getfield 40, 3) := by decide +kernel
theorem dX6_nextVictim_9 : decode cX6_nextVictim 9 = .ok (.invokevirtual 59, 3) := by decide +kernel
theorem dX6_nextVictim_12 : decode cX6_nextVictim 12 = .ok (.if_icmp .ge 45, 3) := by decide +kernel
theorem dX6_nextVictim_15 : decode cX6_nextVictim 15 = .ok (.aload_n 0, 1) := by decide +kernel
theorem dX6_nextVictim_16 : decode cX6_nextVictim 16 = .ok (.getfield 40, 3) := by decide +kernel
theorem dX6_nextVictim_19 : decode cX6_nextVictim 19 = .ok (.iload_n 2, 1) := by decide +kernel
theorem dX6_nextVictim_20 : decode cX6_nextVictim 20 = .ok (.invokevirtual 200, 3) := by decide +kernel
theorem dX6_nextVictim_23 : decode cX6_nextVictim 23 = .ok (.checkcast 68, 3) := by decide +kernel
theorem dX6_nextVictim_26 : decode cX6_nextVictim 26 = .ok (.astore_n 3, 1) := by decide +kernel
theorem dX6_nextVictim_27 : decode cX6_nextVictim 27 = .ok (.aload_n 3, 1) := by decide +kernel
theorem dX6_nextVictim_28 : decode cX6_nextVictim 28 = .ok (.getfield 217, 3) := by decide +kernel
theorem dX6_nextVictim_31 : decode cX6_nextVictim 31 = .ok (.ifCond .ne 20, 3) := by decide +kernel
theorem dX6_nextVictim_34 : decode cX6_nextVictim 34 = .ok (.aload_n 1, 1) := by decide +kernel
theorem dX6_nextVictim_35 : decode cX6_nextVictim 35 = .ok (.ifnull 14, 3) := by decide +kernel
theorem dX6_nextVictim_38 : decode cX6_nextVictim 38 = .ok (.aload_n 3, 1) := by decide +kernel
theorem dX6_nextVictim_39 : decode cX6_nextVictim 39 = .ok (.invokevirtual 239, 3) := by decide +kernel
theorem dX6_nextVictim_42 : decode cX6_nextVictim 42 = .ok (.aload_n 1, 1) := by decide +kernel
theorem dX6_nextVictim_43 : decode cX6_nextVictim 43 = .ok (.invokevirtual 239, 3) := by decide +kernel
theorem dX6_nextVictim_46 : decode cX6_nextVictim 46 = .ok (.if_icmp .le 5, 3) := by decide +kernel
theorem dX6_nextVictim_49 : decode cX6_nextVictim 49 = .ok (.aload_n 3, 1) := by decide +kernel
theorem dX6_nextVictim_50 : decode cX6_nextVictim 50 = .ok (.astore_n 1, 1) := by decide +kernel
theorem dX6_nextVictim_51 : decode cX6_nextVictim 51 = .ok (.iinc 2 1, 3) := by decide +kernel
theorem dX6_nextVictim_54 : decode cX6_nextVictim 54 = .ok (.goto (-50), 3) := by decide +kernel
theorem dX6_nextVictim_57 : decode cX6_nextVictim 57 = .ok (.aload_n 1, 1) := by decide +kernel
theorem dX6_nextVictim_58 : decode cX6_nextVictim 58 = .ok (.areturn, 1) := by decide +kernel
theorem dX6_killNextVictim_0 : decode cX6_killNextVictim 0 = .ok (.aload_n 0, 1) := by decide +kernel
theorem dX6_killNextVictim_1 : decode cX6_killNextVictim 1 = .ok (.invokevirtual 242, 3) := by decide +kernel
theorem dX6_killNextVictim_4 : decode cX6_killNextVictim 4 = .ok (.astore_n 1, 1) := by decide +kernel
theorem dX6_killNextVictim_5 : decode cX6_killNextVictim 5 = .ok (.aload_n 1, 1) := by decide +kernel
theorem dX6_killNextVictim_6 : decode cX6_killNextVictim 6 = .ok (.ifnonnull 4, 3) := by decide +kernel
theorem dX6_killNextVictim_9 : decode cX6_killNextVictim 9 = .ok (.return_, 1) := by decide +kernel
theorem dX6_killNextVictim_10 : decode cX6_killNextVictim 10 = .ok (.aload_n 1, 1) := by decide +kernel
theorem dX6_killNextVictim_11 : decode cX6_killNextVictim 11 = .ok (.getfield 279, 3) := by decide +kernel
theorem dX6_killNextVictim_14 : decode cX6_killNextVictim 14 = .ok (.astore_n 2, 1) := by decide +kernel
theorem dX6_killNextVictim_15 : decode cX6_killNextVictim 15 = .ok (.aload_n 2, 1) := by decide +kernel
theorem dX6_killNextVictim_16 : decode cX6_killNextVictim 16 = .ok (.arraylength, 1) := by decide +kernel
theorem dX6_killNextVictim_17 : decode cX6_killNextVictim 17 = .ok (.istore_n 3, 1) := by decide +kernel
theorem dX6_killNextVictim_18 : decode cX6_killNextVictim 18 = .ok (.iconst 0, 1) := by decide +kernel
theorem dX6_killNextVictim_19 : decode cX6_killNextVictim 19 = .ok (.istore 4, 2) := by decide +kernel
theorem dX6_killNextVictim_21 : decode cX6_killNextVictim 21 = .ok (.iload 4, 2) := by decide +kernel
theorem dX6_killNextVictim_23 : decode cX6_killNextVictim 23 = .ok (.iload_n 3, 1) := by decide +kernel
theorem dX6_killNextVictim_24 : decode cX6_killNextVictim 24 = .ok (.if_icmp .ge 38, 3) := by decide +kernel
theorem dX6_killNextVictim_27 : decode cX6_killNextVictim 27 = .ok (.aload_n 2, 1) := by decide +kernel
theorem dX6_killNextVictim_28 : decode cX6_killNextVictim 28 = .ok (.iload 4, 2) := by decide +kernel
theorem dX6_killNextVictim_30 : decode cX6_killNextVictim 30 = .ok (.aaload, 1) := by decide +kernel
theorem dX6_killNextVictim_31 : decode cX6_killNextVictim 31 = .ok (.astore 5, 2) := by decide +kernel
theorem dX6_killNextVictim_33 : decode cX6_killNextVictim 33 = .ok (.aload 5, 2) := by decide +kernel
theorem dX6_killNextVictim_35 : decode cX6_killNextVictim 35 = .ok (.getfield 112, 3) := by decide +kernel
theorem dX6_killNextVictim_38 : decode cX6_killNextVictim 38 = .ok (.bipush 45, 2) := by decide +kernel
theorem dX6_killNextVictim_40 : decode cX6_killNextVictim 40 = .ok (.if_icmp .eq 16, 3) := by decide +kernel
theorem dX6_killNextVictim_43 : decode cX6_killNextVictim 43 = .ok (.aload_n 0, 1) := by decide +kernel
theorem dX6_killNextVictim_44 : decode cX6_killNextVictim 44 = .ok (.aload 5, 2) := by decide +kernel
theorem dX6_killNextVictim_46 : decode cX6_killNextVictim 46 = .ok (.invokevirtual 288, 3) := by decide +kernel
theorem dX6_killNextVictim_49 : decode cX6_killNextVictim 49 = .ok (.aload 5, 2) := by decide +kernel
theorem dX6_killNextVictim_51 : decode cX6_killNextVictim 51 = .ok (.bipush 45, 2) := by decide +kernel
theorem dX6_killNextVictim_53 : decode cX6_killNextVictim 53 = .ok (.invokevirtual 323, 3) := by decide +kernel
theorem dX6_killNextVictim_56 : decode cX6_killNextVictim 56 = .ok (.iinc 4 1, 3) := by decide +kernel
theorem dX6_killNextVictim_59 : decode cX6_killNextVictim 59 = .ok (.goto (-38), 3) := by decide +kernel
theorem dX6_killNextVictim_62 : decode cX6_killNextVictim 62 = .ok (.aload_n 1, 1) := by decide +kernel
theorem dX6_killNextVictim_63 : decode cX6_killNextVictim 63 = .ok (.iconst 1, 1) := by decide +kernel
theorem dX6_killNextVictim_64 : decode cX6_killNextVictim 64 = .ok (.putfield 217, 3) := by decide +kernel
theorem dX6_killNextVictim_67 : decode cX6_killNextVictim 67 = .ok (.aload_n 1, 1) := by decide +kernel
theorem dX6_killNextVictim_68 : decode cX6_killNextVictim 68 = .ok (.aload_n 0, 1) := by decide +kernel
theorem dX6_killNextVictim_69 : decode cX6_killNextVictim 69 = .ok (.getfield 165, 3) := by decide +kernel
theorem dX6_killNextVictim_72 : decode cX6_killNextVictim 72 = .ok (.putfield 327, 3) := by decide +kernel
theorem dX6_killNextVictim_75 : decode cX6_killNextVictim 75 = .ok (.aload_n 0, 1) := by decide +kernel
theorem dX6_killNextVictim_76 : decode cX6_killNextVictim 76 = .ok (.dup, 1) := by decide +kernel
theorem dX6_killNextVictim_77 : decode cX6_killNextVictim 77 = .ok (.getfield 159, 3) := by decide +kernel
theorem dX6_killNextVictim_80 : decode cX6_killNextVictim 80 = .ok (.iconst 1, 1) := by decide +kernel
theorem dX6_killNextVictim_81 : decode cX6_killNextVictim 81 = .ok (.iadd, 1) := by decide +kernel
theorem dX6_killNextVictim_82 : decode cX6_killNextVictim 82 = .ok (.putfield 159, 3) := by decide +kernel
theorem dX6_killNextVictim_85 : decode cX6_killNextVictim 85 = .ok (.return_, 1) := by decide +kernel
theorem dX6_startDeadServices_0 : decode cX6_startDeadServices 0 = .ok (.iconst 0, 1) := by decide +kernel
theorem dX6_startDeadServices_1 : decode cX6_startDeadServices 1 = .ok (.istore_n 1, 1) := by decide +kernel
theorem dX6_startDeadServices_2 : decode cX6_startDeadServices 2 = .ok (.iload_n 1, 1) := by decide +kernel
theorem dX6_startDeadServices_3 : decode cX6_startDeadServices 3 = .ok (.aload_n 0, 1) := by decide +kernel
theorem dX6_startDeadServices_4 : decode cX6_startDeadServices 4 = .ok (.getfield 40, 3) := by decide +kernel
theorem dX6_startDeadServices_7 : decode cX6_startDeadServices 7 = .ok (.invokevirtual 59, 3) := by decide +kernel
theorem dX6_startDeadServices_10 : decode cX6_startDeadServices 10 = .ok (.if_icmp .ge 71, 3) := by decide +kernel
theorem dX6_startDeadServices_13 : decode cX6_startDeadServices 13 = .ok (.aload_n 0, 1) := by decide +kernel
theorem dX6_startDeadServices_14 : decode cX6_startDeadServices 14 = .ok (.getfield 40, 3) := by decide +kernel
theorem dX6_startDeadServices_17 : decode cX6_startDeadServices 17 = .ok (.iload_n 1, 1) := by decide +kernel
theorem dX6_startDeadServices_18 : decode cX6_startDeadServices 18 = .ok (.invokevirtual 200, 3) := by decide +kernel
theorem dX6_startDeadServices_21 : decode cX6_startDeadServices 21 = .ok (.checkcast 68, 3) := by decide +kernel
theorem dX6_startDeadServices_24 : decode cX6_startDeadServices 24 = .ok (.astore_n 2, 1) := by decide +kernel
theorem dX6_startDeadServices_25 : decode cX6_startDeadServices 25 = .ok (.aload_n 2, 1) := by decide +kernel
theorem dX6_startDeadServices_26 : decode cX6_startDeadServices 26 = .ok (.getfield 217, 3) := by decide +kernel
theorem dX6_startDeadServices_29 : decode cX6_startDeadServices 29 = .ok (.ifCond .eq 46, 3) := by decide +kernel
theorem dX6_startDeadServices_32 : decode cX6_startDeadServices 32 = .ok (.aload_n 2, 1) := by decide +kernel
theorem dX6_startDeadServices_33 : decode cX6_startDeadServices 33 = .ok (.aload_n 0, 1) := by decide +kernel
theorem dX6_startDeadServices_34 : decode cX6_startDeadServices 34 = .ok (.getfield 165, 3) := by decide +kernel
theorem dX6_startDeadServices_37 : decode cX6_startDeadServices 37 = .ok (.invokevirtual 227, 3) := by decide +kernel
theorem dX6_startDeadServices_40 : decode cX6_startDeadServices 40 = .ok (.ifCond .gt 35, 3) := by decide +kernel
theorem dX6_startDeadServices_43 : decode cX6_startDeadServices 43 = .ok (.aload_n 2, 1) := by decide +kernel
theorem dX6_startDeadServices_44 : decode cX6_startDeadServices 44 = .ok (.getfield 330, 3) := by decide +kernel
theorem dX6_startDeadServices_47 : decode cX6_startDeadServices 47 = .ok (.bipush 97, 2) := by decide +kernel
theorem dX6_startDeadServices_49 : decode cX6_startDeadServices 49 = .ok (.if_icmp .eq 11, 3) := by decide +kernel
theorem dX6_startDeadServices_52 : decode cX6_startDeadServices 52 = .ok (.aload_n 0, 1) := by decide +kernel
theorem dX6_startDeadServices_53 : decode cX6_startDeadServices 53 = .ok (.iload_n 1, 1) := by decide +kernel
theorem dX6_startDeadServices_54 : decode cX6_startDeadServices 54 = .ok (.invokevirtual 222, 3) := by decide +kernel
theorem dX6_startDeadServices_57 : decode cX6_startDeadServices 57 = .ok (.ifCond .eq 18, 3) := by decide +kernel
theorem dX6_startDeadServices_60 : decode cX6_startDeadServices 60 = .ok (.aload_n 2, 1) := by decide +kernel
theorem dX6_startDeadServices_61 : decode cX6_startDeadServices 61 = .ok (.iconst 0, 1) := by decide +kernel
theorem dX6_startDeadServices_62 : decode cX6_startDeadServices 62 = .ok (.putfield 217, 3) := by decide +kernel
theorem dX6_startDeadServices_65 : decode cX6_startDeadServices 65 = .ok (.aload_n 2, 1) := by decide +kernel
theorem dX6_startDeadServices_66 : decode cX6_startDeadServices 66 = .ok (.dup, 1) := by decide +kernel
theorem dX6_startDeadServices_67 : decode cX6_startDeadServices 67 = .ok (.getfield 236, 3) := by decide +kernel
theorem dX6_startDeadServices_70 : decode cX6_startDeadServices 70 = .ok (.iconst 1, 1) := by decide +kernel
theorem dX6_startDeadServices_71 : decode cX6_startDeadServices 71 = .ok (.iadd, 1) := by decide +kernel
theorem dX6_startDeadServices_72 : decode cX6_startDeadServices 72 = .ok (.putfield 236, 3) := by decide +kernel
theorem dX6_startDeadServices_75 : decode cX6_startDeadServices 75 = .ok (.iinc 1 1, 3) := by decide +kernel
theorem dX6_startDeadServices_78 : decode cX6_startDeadServices 78 = .ok (.goto (-76), 3) := by decide +kernel
theorem dX6_startDeadServices_81 : decode cX6_startDeadServices 81 = .ok (.return_, 1) := by decide +kernel
theorem dX6_placesAgree_0 : decode cX6_placesAgree 0 = .ok (.aload_n 0, 1) := by decide +kernel
theorem dX6_placesAgree_1 : decode cX6_placesAgree 1 = .ok (.getfield 12, 3) := by decide +kernel
theorem dX6_placesAgree_4 : decode cX6_placesAgree 4 = .ok (.invokevirtual 168, 3) := by decide +kernel
theorem dX6_placesAgree_7 : decode cX6_placesAgree 7 = .ok (.iconst 0, 1) := by decide +kernel
theorem dX6_placesAgree_8 : decode cX6_placesAgree 8 = .ok (.istore_n 1, 1) := by decide +kernel
theorem dX6_placesAgree_9 : decode cX6_placesAgree 9 = .ok (.iload_n 1, 1) := by decide +kernel
theorem dX6_placesAgree_10 : decode cX6_placesAgree 10 = .ok (.aload_n 0, 1) := by decide +kernel
theorem dX6_placesAgree_11 : decode cX6_placesAgree 11 = .ok (.getfield 40, 3) := by decide +kernel
theorem dX6_placesAgree_14 : decode cX6_placesAgree 14 = .ok (.invokevirtual 59, 3) := by decide +kernel
theorem dX6_placesAgree_17 : decode cX6_placesAgree 17 = .ok (.if_icmp .ge 70, 3) := by decide +kernel
theorem dX6_placesAgree_20 : decode cX6_placesAgree 20 = .ok (.aload_n 0, 1) := by decide +kernel
theorem dX6_placesAgree_21 : decode cX6_placesAgree 21 = .ok (.getfield 40, 3) := by decide +kernel
theorem dX6_placesAgree_24 : decode cX6_placesAgree 24 = .ok (.iload_n 1, 1) := by decide +kernel
theorem dX6_placesAgree_25 : decode cX6_placesAgree 25 = .ok (.invokevirtual 200, 3) := by decide +kernel
theorem dX6_placesAgree_28 : decode cX6_placesAgree 28 = .ok (.checkcast 68, 3) := by decide +kernel
theorem dX6_placesAgree_31 : decode cX6_placesAgree 31 = .ok (.getfield 279, 3) := by decide +kernel
theorem dX6_placesAgree_34 : decode cX6_placesAgree 34 = .ok (.astore_n 2, 1) := by decide +kernel
theorem dX6_placesAgree_35 : decode cX6_placesAgree 35 = .ok (.aload_n 2, 1) := by decide +kernel
theorem dX6_placesAgree_36 : decode cX6_placesAgree 36 = .ok (.arraylength, 1) := by decide +kernel
theorem dX6_placesAgree_37 : decode cX6_placesAgree 37 = .ok (.istore_n 3, 1) := by decide +kernel
theorem dX6_placesAgree_38 : decode cX6_placesAgree 38 = .ok (.iconst 0, 1) := by decide +kernel
theorem dX6_placesAgree_39 : decode cX6_placesAgree 39 = .ok (.istore 4, 2) := by decide +kernel
theorem dX6_placesAgree_41 : decode cX6_placesAgree 41 = .ok (.iload 4, 2) := by decide +kernel
theorem dX6_placesAgree_43 : decode cX6_placesAgree 43 = .ok (.iload_n 3, 1) := by decide +kernel
theorem dX6_placesAgree_44 : decode cX6_placesAgree 44 = .ok (.if_icmp .ge 37, 3) := by decide +kernel
theorem dX6_placesAgree_47 : decode cX6_placesAgree 47 = .ok (.aload_n 2, 1) := by decide +kernel
theorem dX6_placesAgree_48 : decode cX6_placesAgree 48 = .ok (.iload 4, 2) := by decide +kernel
theorem dX6_placesAgree_50 : decode cX6_placesAgree 50 = .ok (.aaload, 1) := by decide +kernel
theorem dX6_placesAgree_51 : decode cX6_placesAgree 51 = .ok (.astore 5, 2) := by decide +kernel
theorem dX6_placesAgree_53 : decode cX6_placesAgree 53 = .ok (.aload 5, 2) := by decide +kernel
theorem dX6_placesAgree_55 : decode cX6_placesAgree 55 = .ok (.getfield 112, 3) := by decide +kernel
theorem dX6_placesAgree_58 : decode cX6_placesAgree 58 = .ok (.aload_n 0, 1) := by decide +kernel
theorem dX6_placesAgree_59 : decode cX6_placesAgree 59 = .ok (.getfield 12, 3) := by decide +kernel
theorem dX6_placesAgree_62 : decode cX6_placesAgree 62 = .ok (.aload 5, 2) := by decide +kernel
theorem dX6_placesAgree_64 : decode cX6_placesAgree 64 = .ok (.getfield 171, 3) := by decide +kernel
theorem dX6_placesAgree_67 : decode cX6_placesAgree 67 = .ok (.invokevirtual 174, 3) := by decide +kernel
theorem dX6_placesAgree_70 : decode cX6_placesAgree 70 = .ok (.if_icmp .eq 5, 3) := by decide +kernel
theorem dX6_placesAgree_73 : decode cX6_placesAgree 73 = .ok (.iconst 0, 1) := by decide +kernel
theorem dX6_placesAgree_74 : decode cX6_placesAgree 74 = .ok (.ireturn, 1) := by decide +kernel
theorem dX6_placesAgree_75 : decode cX6_placesAgree 75 = .ok (.iinc 4 1, 3) := by decide +kernel
theorem dX6_placesAgree_78 : decode cX6_placesAgree 78 = .ok (.goto (-37), 3) := by decide +kernel
theorem dX6_placesAgree_81 : decode cX6_placesAgree 81 = .ok (.iinc 1 1, 3) := by decide +kernel
theorem dX6_placesAgree_84 : decode cX6_placesAgree 84 = .ok (.goto (-75), 3) := by decide +kernel
theorem dX6_placesAgree_87 : decode cX6_placesAgree 87 = .ok (.iconst 1, 1) := by decide +kernel
theorem dX6_placesAgree_88 : decode cX6_placesAgree 88 = .ok (.ireturn, 1) := by decide +kernel
theorem dX6_framesAreSingle_0 : decode cX6_framesAreSingle 0 = .ok (.iconst 0, 1) := by decide +kernel
theorem dX6_framesAreSingle_1 : decode cX6_framesAreSingle 1 = .ok (.istore_n 1, 1) := by decide +kernel
theorem dX6_framesAreSingle_2 : decode cX6_framesAreSingle 2 = .ok (.iconst 0, 1) := by decide +kernel
theorem dX6_framesAreSingle_3 : decode cX6_framesAreSingle 3 = .ok (.istore_n 2, 1) := by decide +kernel
theorem dX6_framesAreSingle_4 : decode cX6_framesAreSingle 4 = .ok (.iload_n 2, 1) := by decide +kernel
theorem dX6_framesAreSingle_5 : decode cX6_framesAreSingle 5 = .ok (.aload_n 0, 1) := by decide +kernel
theorem dX6_framesAreSingle_6 : decode cX6_framesAreSingle 6 = .ok (.getfield 40, 3) := by decide +kernel
theorem dX6_framesAreSingle_9 : decode cX6_framesAreSingle 9 = .ok (.invokevirtual 59, 3) := by decide +kernel
theorem dX6_framesAreSingle_12 : decode cX6_framesAreSingle 12 = .ok (.if_icmp .ge 84, 3) := by decide +kernel
theorem dX6_framesAreSingle_15 : decode cX6_framesAreSingle 15 = .ok (.aload_n 0, 1) := by decide +kernel
theorem dX6_framesAreSingle_16 : decode cX6_framesAreSingle 16 = .ok (.getfield 40, 3) := by decide +kernel
theorem dX6_framesAreSingle_19 : decode cX6_framesAreSingle 19 = .ok (.iload_n 2, 1) := by decide +kernel
theorem dX6_framesAreSingle_20 : decode cX6_framesAreSingle 20 = .ok (.invokevirtual 200, 3) := by decide +kernel
theorem dX6_framesAreSingle_23 : decode cX6_framesAreSingle 23 = .ok (.checkcast 68, 3) := by decide +kernel
theorem dX6_framesAreSingle_26 : decode cX6_framesAreSingle 26 = .ok (.getfield 279, 3) := by decide +kernel
theorem dX6_framesAreSingle_29 : decode cX6_framesAreSingle 29 = .ok (.astore_n 3, 1) := by decide +kernel
theorem dX6_framesAreSingle_30 : decode cX6_framesAreSingle 30 = .ok (.aload_n 3, 1) := by decide +kernel
theorem dX6_framesAreSingle_31 : decode cX6_framesAreSingle 31 = .ok (.arraylength, 1) := by decide +kernel
theorem dX6_framesAreSingle_32 : decode cX6_framesAreSingle 32 = .ok (.istore 4, 2) := by decide +kernel
theorem dX6_framesAreSingle_34 : decode cX6_framesAreSingle 34 = .ok (.iconst 0, 1) := by decide +kernel
theorem dX6_framesAreSingle_35 : decode cX6_framesAreSingle 35 = .ok (.istore 5, 2) := by decide +kernel
theorem dX6_framesAreSingle_37 : decode cX6_framesAreSingle 37 = .ok (.iload 5, 2) := by decide +kernel
theorem dX6_framesAreSingle_39 : decode cX6_framesAreSingle 39 = .ok (.iload 4, 2) := by decide +kernel
theorem dX6_framesAreSingle_41 : decode cX6_framesAreSingle 41 = .ok (.if_icmp .ge 49, 3) := by decide +kernel
theorem dX6_framesAreSingle_44 : decode cX6_framesAreSingle 44 = .ok (.aload_n 3, 1) := by decide +kernel
theorem dX6_framesAreSingle_45 : decode cX6_framesAreSingle 45 = .ok (.iload 5, 2) := by decide +kernel
theorem dX6_framesAreSingle_47 : decode cX6_framesAreSingle 47 = .ok (.aaload, 1) := by decide +kernel
theorem dX6_framesAreSingle_48 : decode cX6_framesAreSingle 48 = .ok (.astore 6, 2) := by decide +kernel
theorem dX6_framesAreSingle_50 : decode cX6_framesAreSingle 50 = .ok (.aload 6, 2) := by decide +kernel
theorem dX6_framesAreSingle_52 : decode cX6_framesAreSingle 52 = .ok (.getfield 112, 3) := by decide +kernel
theorem dX6_framesAreSingle_55 : decode cX6_framesAreSingle 55 = .ok (.bipush 102, 2) := by decide +kernel
theorem dX6_framesAreSingle_57 : decode cX6_framesAreSingle 57 = .ok (.if_icmp .ne 27, 3) := by decide +kernel
theorem dX6_framesAreSingle_60 : decode cX6_framesAreSingle 60 = .ok (.iload_n 1, 1) := by decide +kernel
theorem dX6_framesAreSingle_61 : decode cX6_framesAreSingle 61 = .ok (.aload 6, 2) := by decide +kernel
theorem dX6_framesAreSingle_63 : decode cX6_framesAreSingle 63 = .ok (.getfield 183, 3) := by decide +kernel
theorem dX6_framesAreSingle_66 : decode cX6_framesAreSingle 66 = .ok (.invokestatic 91, 3) := by decide +kernel
theorem dX6_framesAreSingle_69 : decode cX6_framesAreSingle 69 = .ok (.ifCond .eq 5, 3) := by decide +kernel
theorem dX6_framesAreSingle_72 : decode cX6_framesAreSingle 72 = .ok (.iconst 0, 1) := by decide +kernel
theorem dX6_framesAreSingle_73 : decode cX6_framesAreSingle 73 = .ok (.ireturn, 1) := by decide +kernel
theorem dX6_framesAreSingle_74 : decode cX6_framesAreSingle 74 = .ok (.iload_n 1, 1) := by decide +kernel
theorem dX6_framesAreSingle_75 : decode cX6_framesAreSingle 75 = .ok (.iconst 1, 1) := by decide +kernel
theorem dX6_framesAreSingle_76 : decode cX6_framesAreSingle 76 = .ok (.aload 6, 2) := by decide +kernel
theorem dX6_framesAreSingle_78 : decode cX6_framesAreSingle 78 = .ok (.getfield 183, 3) := by decide +kernel
theorem dX6_framesAreSingle_81 : decode cX6_framesAreSingle 81 = .ok (.ishl, 1) := by decide +kernel
theorem dX6_framesAreSingle_82 : decode cX6_framesAreSingle 82 = .ok (.ior, 1) := by decide +kernel
theorem dX6_framesAreSingle_83 : decode cX6_framesAreSingle 83 = .ok (.istore_n 1, 1) := by decide +kernel
theorem dX6_framesAreSingle_84 : decode cX6_framesAreSingle 84 = .ok (.iinc 5 1, 3) := by decide +kernel
theorem dX6_framesAreSingle_87 : decode cX6_framesAreSingle 87 = .ok (.goto (-50), 3) := by decide +kernel
theorem dX6_framesAreSingle_90 : decode cX6_framesAreSingle 90 = .ok (.iinc 2 1, 3) := by decide +kernel
theorem dX6_framesAreSingle_93 : decode cX6_framesAreSingle 93 = .ok (.goto (-89), 3) := by decide +kernel
theorem dX6_framesAreSingle_96 : decode cX6_framesAreSingle 96 = .ok (.iconst 1, 1) := by decide +kernel
theorem dX6_framesAreSingle_97 : decode cX6_framesAreSingle 97 = .ok (.ireturn, 1) := by decide +kernel
theorem dX7_init_0 : decode cX7_init 0 = .ok (.aload_n 0, 1) := by decide +kernel
theorem dX7_init_1 : decode cX7_init 1 = .ok (.invokespecial 1, 3) := by decide +kernel
theorem dX7_init_4 : decode cX7_init 4 = .ok (.aload_n 0, 1) := by decide +kernel
theorem dX7_init_5 : decode cX7_init 5 = .ok (.bipush 6, 2) := by decide +kernel
theorem dX7_init_7 : decode cX7_init 7 = .ok (.newarray .int, 2) := by decide +kernel
theorem dX7_init_9 : decode cX7_init 9 = .ok (.putfield 7, 3) := by decide +kernel
theorem dX7_init_12 : decode cX7_init 12 = .ok (.aload_n 0, 1) := by decide +kernel
theorem dX7_init_13 : decode cX7_init 13 = .ok (.bipush 6, 2) := by decide +kernel
theorem dX7_init_15 : decode cX7_init 15 = .ok (.newarray .char, 2) := by decide +kernel
theorem dX7_init_17 : decode cX7_init 17 = .ok (.putfield 13, 3) := by decide +kernel
theorem dX7_init_20 : decode cX7_init 20 = .ok (.aload_n 0, 1) := by decide +kernel
theorem dX7_init_21 : decode cX7_init 21 = .ok (.bipush 6, 2) := by decide +kernel
theorem dX7_init_23 : decode cX7_init 23 = .ok (.newarray .int, 2) := by decide +kernel
theorem dX7_init_25 : decode cX7_init 25 = .ok (.putfield 17, 3) := by decide +kernel
theorem dX7_init_28 : decode cX7_init 28 = .ok (.aload_n 0, 1) := by decide +kernel
theorem dX7_init_29 : decode cX7_init 29 = .ok (.bipush 6, 2) := by decide +kernel
theorem dX7_init_31 : decode cX7_init 31 = .ok (.newarray .boolean, 2) := by decide +kernel
theorem dX7_init_33 : decode cX7_init 33 = .ok (.putfield 20, 3) := by decide +kernel
theorem dX7_init_36 : decode cX7_init 36 = .ok (.aload_n 0, 1) := by decide +kernel
theorem dX7_init_37 : decode cX7_init 37 = .ok (.bipush 6, 2) := by decide +kernel
theorem dX7_init_39 : decode cX7_init 39 = .ok (.newarray .int, 2) := by decide +kernel
theorem dX7_init_41 : decode cX7_init 41 = .ok (.putfield 24, 3) := by decide +kernel
theorem dX7_init_44 : decode cX7_init 44 = .ok (.aload_n 0, 1) := by decide +kernel
theorem dX7_init_45 : decode cX7_init 45 = .ok (.bipush 6, 2) := by decide +kernel
theorem dX7_init_47 : decode cX7_init 47 = .ok (.newarray .int, 2) := by decide +kernel
theorem dX7_init_49 : decode cX7_init 49 = .ok (.putfield 27, 3) := by decide +kernel
theorem dX7_init_52 : decode cX7_init 52 = .ok (.aload_n 0, 1) := by decide +kernel
theorem dX7_init_53 : decode cX7_init 53 = .ok (.bipush 6, 2) := by decide +kernel
theorem dX7_init_55 : decode cX7_init 55 = .ok (.newarray .int, 2) := by decide +kernel
theorem dX7_init_57 : decode cX7_init 57 = .ok (.putfield 30, 3) := by decide +kernel
theorem dX7_init_60 : decode cX7_init 60 = .ok (.aload_n 0, 1) := by decide +kernel
theorem dX7_init_61 : decode cX7_init 61 = .ok (.bipush 6, 2) := by decide +kernel
theorem dX7_init_63 : decode cX7_init 63 = .ok (.newarray .long, 2) := by decide +kernel
theorem dX7_init_65 : decode cX7_init 65 = .ok (.putfield 33, 3) := by decide +kernel
theorem dX7_init_68 : decode cX7_init 68 = .ok (.aload_n 0, 1) := by decide +kernel
theorem dX7_init_69 : decode cX7_init 69 = .ok (.bipush 48, 2) := by decide +kernel
theorem dX7_init_71 : decode cX7_init 71 = .ok (.newarray .int, 2) := by decide +kernel
theorem dX7_init_73 : decode cX7_init 73 = .ok (.putfield 37, 3) := by decide +kernel
theorem dX7_init_76 : decode cX7_init 76 = .ok (.aload_n 0, 1) := by decide +kernel
theorem dX7_init_77 : decode cX7_init 77 = .ok (.bipush 48, 2) := by decide +kernel
theorem dX7_init_79 : decode cX7_init 79 = .ok (.newarray .int, 2) := by decide +kernel
theorem dX7_init_81 : decode cX7_init 81 = .ok (.putfield 40, 3) := by decide +kernel
theorem dX7_init_84 : decode cX7_init 84 = .ok (.aload_n 0, 1) := by decide +kernel
theorem dX7_init_85 : decode cX7_init 85 = .ok (.iconst 4, 1) := by decide +kernel
theorem dX7_init_86 : decode cX7_init 86 = .ok (.putfield 43, 3) := by decide +kernel
theorem dX7_init_89 : decode cX7_init 89 = .ok (.aload_n 0, 1) := by decide +kernel
theorem dX7_init_90 : decode cX7_init 90 = .ok (.bipush 16, 2) := by decide +kernel
theorem dX7_init_92 : decode cX7_init 92 = .ok (.newarray .int, 2) := by decide +kernel
theorem dX7_init_94 : decode cX7_init 94 = .ok (.dup, 1) := by decide +kernel
theorem dX7_init_95 : decode cX7_init 95 = .ok (.iconst 0, 1) := by decide +kernel
theorem dX7_init_96 : decode cX7_init 96 = .ok (.iconst (-1), 1) := by decide +kernel
theorem dX7_init_97 : decode cX7_init 97 = .ok (.iastore, 1) := by decide +kernel
theorem dX7_init_98 : decode cX7_init 98 = .ok (.dup, 1) := by decide +kernel
theorem dX7_init_99 : decode cX7_init 99 = .ok (.iconst 1, 1) := by decide +kernel
theorem dX7_init_100 : decode cX7_init 100 = .ok (.iconst (-1), 1) := by decide +kernel
theorem dX7_init_101 : decode cX7_init 101 = .ok (.iastore, 1) := by decide +kernel
theorem dX7_init_102 : decode cX7_init 102 = .ok (.dup, 1) := by decide +kernel
theorem dX7_init_103 : decode cX7_init 103 = .ok (.iconst 2, 1) := by decide +kernel
theorem dX7_init_104 : decode cX7_init 104 = .ok (.iconst (-1), 1) := by decide +kernel
theorem dX7_init_105 : decode cX7_init 105 = .ok (.iastore, 1) := by decide +kernel
theorem dX7_init_106 : decode cX7_init 106 = .ok (.dup, 1) := by decide +kernel
theorem dX7_init_107 : decode cX7_init 107 = .ok (.iconst 3, 1) := by decide +kernel
theorem dX7_init_108 : decode cX7_init 108 = .ok (.iconst (-1), 1) := by decide +kernel
theorem dX7_init_109 : decode cX7_init 109 = .ok (.iastore, 1) := by decide +kernel
theorem dX7_init_110 : decode cX7_init 110 = .ok (.dup, 1) := by decide +kernel
theorem dX7_init_111 : decode cX7_init 111 = .ok (.iconst 4, 1) := by decide +kernel
theorem dX7_init_112 : decode cX7_init 112 = .ok (.iconst (-1), 1) := by decide +kernel
theorem dX7_init_113 : decode cX7_init 113 = .ok (.iastore, 1) := by decide +kernel
theorem dX7_init_114 : decode cX7_init 114 = .ok (.dup, 1) := by decide +kernel
theorem dX7_init_115 : decode cX7_init 115 = .ok (.iconst 5, 1) := by decide +kernel
theorem dX7_init_116 : decode cX7_init 116 = .ok (.iconst (-1), 1) := by decide +kernel
theorem dX7_init_117 : decode cX7_init 117 = .ok (.iastore, 1) := by decide +kernel
theorem dX7_init_118 : decode cX7_init 118 = .ok (.dup, 1) := by decide +kernel
theorem dX7_init_119 : decode cX7_init 119 = .ok (.bipush 6, 2) := by decide +kernel
theorem dX7_init_121 : decode cX7_init 121 = .ok (.iconst (-1), 1) := by decide +kernel
theorem dX7_init_122 : decode cX7_init 122 = .ok (.iastore, 1) := by decide +kernel
theorem dX7_init_123 : decode cX7_init 123 = .ok (.dup, 1) := by decide +kernel
theorem dX7_init_124 : decode cX7_init 124 = .ok (.bipush 7, 2) := by decide +kernel
theorem dX7_init_126 : decode cX7_init 126 = .ok (.iconst (-1), 1) := by decide +kernel
theorem dX7_init_127 : decode cX7_init 127 = .ok (.iastore, 1) := by decide +kernel
theorem dX7_init_128 : decode cX7_init 128 = .ok (.dup, 1) := by decide +kernel
theorem dX7_init_129 : decode cX7_init 129 = .ok (.bipush 8, 2) := by decide +kernel
theorem dX7_init_131 : decode cX7_init 131 = .ok (.iconst (-1), 1) := by decide +kernel
theorem dX7_init_132 : decode cX7_init 132 = .ok (.iastore, 1) := by decide +kernel
theorem dX7_init_133 : decode cX7_init 133 = .ok (.dup, 1) := by decide +kernel
theorem dX7_init_134 : decode cX7_init 134 = .ok (.bipush 9, 2) := by decide +kernel
theorem dX7_init_136 : decode cX7_init 136 = .ok (.iconst (-1), 1) := by decide +kernel
theorem dX7_init_137 : decode cX7_init 137 = .ok (.iastore, 1) := by decide +kernel
theorem dX7_init_138 : decode cX7_init 138 = .ok (.dup, 1) := by decide +kernel
theorem dX7_init_139 : decode cX7_init 139 = .ok (.bipush 10, 2) := by decide +kernel
theorem dX7_init_141 : decode cX7_init 141 = .ok (.iconst (-1), 1) := by decide +kernel
theorem dX7_init_142 : decode cX7_init 142 = .ok (.iastore, 1) := by decide +kernel
theorem dX7_init_143 : decode cX7_init 143 = .ok (.dup, 1) := by decide +kernel
theorem dX7_init_144 : decode cX7_init 144 = .ok (.bipush 11, 2) := by decide +kernel
theorem dX7_init_146 : decode cX7_init 146 = .ok (.iconst (-1), 1) := by decide +kernel
theorem dX7_init_147 : decode cX7_init 147 = .ok (.iastore, 1) := by decide +kernel
theorem dX7_init_148 : decode cX7_init 148 = .ok (.dup, 1) := by decide +kernel
theorem dX7_init_149 : decode cX7_init 149 = .ok (.bipush 12, 2) := by decide +kernel
theorem dX7_init_151 : decode cX7_init 151 = .ok (.iconst (-1), 1) := by decide +kernel
theorem dX7_init_152 : decode cX7_init 152 = .ok (.iastore, 1) := by decide +kernel
theorem dX7_init_153 : decode cX7_init 153 = .ok (.dup, 1) := by decide +kernel
theorem dX7_init_154 : decode cX7_init 154 = .ok (.bipush 13, 2) := by decide +kernel
theorem dX7_init_156 : decode cX7_init 156 = .ok (.iconst (-1), 1) := by decide +kernel
theorem dX7_init_157 : decode cX7_init 157 = .ok (.iastore, 1) := by decide +kernel
theorem dX7_init_158 : decode cX7_init 158 = .ok (.dup, 1) := by decide +kernel
theorem dX7_init_159 : decode cX7_init 159 = .ok (.bipush 14, 2) := by decide +kernel
theorem dX7_init_161 : decode cX7_init 161 = .ok (.iconst (-1), 1) := by decide +kernel
theorem dX7_init_162 : decode cX7_init 162 = .ok (.iastore, 1) := by decide +kernel
theorem dX7_init_163 : decode cX7_init 163 = .ok (.dup, 1) := by decide +kernel
theorem dX7_init_164 : decode cX7_init 164 = .ok (.bipush 15, 2) := by decide +kernel
theorem dX7_init_166 : decode cX7_init 166 = .ok (.iconst (-1), 1) := by decide +kernel
theorem dX7_init_167 : decode cX7_init 167 = .ok (.iastore, 1) := by decide +kernel
theorem dX7_init_168 : decode cX7_init 168 = .ok (.putfield 47, 3) := by decide +kernel
theorem dX7_init_171 : decode cX7_init 171 = .ok (.aload_n 0, 1) := by decide +kernel
theorem dX7_init_172 : decode cX7_init 172 = .ok (.bipush 16, 2) := by decide +kernel
theorem dX7_init_174 : decode cX7_init 174 = .ok (.newarray .boolean, 2) := by decide +kernel
theorem dX7_init_176 : decode cX7_init 176 = .ok (.putfield 50, 3) := by decide +kernel
theorem dX7_init_179 : decode cX7_init 179 = .ok (.aload_n 0, 1) := by decide +kernel
theorem dX7_init_180 : decode cX7_init 180 = .ok (.bipush 6, 2) := by decide +kernel
theorem dX7_init_182 : decode cX7_init 182 = .ok (.putfield 53, 3) := by decide +kernel
theorem dX7_init_185 : decode cX7_init 185 = .ok (.aload_n 0, 1) := by decide +kernel
theorem dX7_init_186 : decode cX7_init 186 = .ok (.bipush 48, 2) := by decide +kernel
theorem dX7_init_188 : decode cX7_init 188 = .ok (.newarray .int, 2) := by decide +kernel
theorem dX7_init_190 : decode cX7_init 190 = .ok (.putfield 56, 3) := by decide +kernel
theorem dX7_init_193 : decode cX7_init 193 = .ok (.aload_n 0, 1) := by decide +kernel
theorem dX7_init_194 : decode cX7_init 194 = .ok (.bipush 40, 2) := by decide +kernel
theorem dX7_init_196 : decode cX7_init 196 = .ok (.putfield 59, 3) := by decide +kernel
theorem dX7_init_199 : decode cX7_init 199 = .ok (.aload_n 0, 1) := by decide +kernel
theorem dX7_init_200 : decode cX7_init 200 = .ok (.iconst 4, 1) := by decide +kernel
theorem dX7_init_201 : decode cX7_init 201 = .ok (.newarray .int, 2) := by decide +kernel
theorem dX7_init_203 : decode cX7_init 203 = .ok (.putfield 62, 3) := by decide +kernel
theorem dX7_init_206 : decode cX7_init 206 = .ok (.return_, 1) := by decide +kernel
theorem dX7_thrown_0 : decode cX7_thrown 0 = .ok (.aload_n 0, 1) := by decide +kernel
theorem dX7_thrown_1 : decode cX7_thrown 1 = .ok (.getfield 65, 3) := by decide +kernel
theorem dX7_thrown_4 : decode cX7_thrown 4 = .ok (.ireturn, 1) := by decide +kernel
theorem dX7_fails_0 : decode cX7_fails 0 = .ok (.aload_n 0, 1) := by decide +kernel
theorem dX7_fails_1 : decode cX7_fails 1 = .ok (.iload_n 1, 1) := by decide +kernel
theorem dX7_fails_2 : decode cX7_fails 2 = .ok (.putfield 65, 3) := by decide +kernel
theorem dX7_fails_5 : decode cX7_fails 5 = .ok (.iload_n 1, 1) := by decide +kernel
theorem dX7_fails_6 : decode cX7_fails 6 = .ok (.ifCond .le 7, 3) := by decide +kernel
theorem dX7_fails_9 : decode cX7_fails 9 = .ok (.iconst 1, 1) := by decide +kernel
theorem dX7_fails_10 : decode cX7_fails 10 = .ok (.goto 4, 3) := by decide +kernel
theorem dX7_fails_13 : decode cX7_fails 13 = .ok (.iconst 0, 1) := by decide +kernel
theorem dX7_fails_14 : decode cX7_fails 14 = .ok (.ireturn, 1) := by decide +kernel
theorem dX7_tells_0 : decode cX7_tells 0 = .ok (.aload_n 0, 1) := by decide +kernel
theorem dX7_tells_1 : decode cX7_tells 1 = .ok (.iconst 0, 1) := by decide +kernel
theorem dX7_tells_2 : decode cX7_tells 2 = .ok (.putfield 65, 3) := by decide +kernel
theorem dX7_tells_5 : decode cX7_tells 5 = .ok (.iload_n 1, 1) := by decide +kernel
theorem dX7_tells_6 : decode cX7_tells 6 = .ok (.ireturn, 1) := by decide +kernel
theorem dX7_in_0 : decode cX7_in 0 = .ok (.iload_n 0, 1) := by decide +kernel
theorem dX7_in_1 : decode cX7_in 1 = .ok (.iload_n 1, 1) := by decide +kernel
theorem dX7_in_2 : decode cX7_in 2 = .ok (.if_icmp .lt 12, 3) := by decide +kernel
theorem dX7_in_5 : decode cX7_in 5 = .ok (.iload_n 0, 1) := by decide +kernel
theorem dX7_in_6 : decode cX7_in 6 = .ok (.iload_n 2, 1) := by decide +kernel
theorem dX7_in_7 : decode cX7_in 7 = .ok (.if_icmp .gt 7, 3) := by decide +kernel
theorem dX7_in_10 : decode cX7_in 10 = .ok (.iconst 1, 1) := by decide +kernel
theorem dX7_in_11 : decode cX7_in 11 = .ok (.goto 4, 3) := by decide +kernel
theorem dX7_in_14 : decode cX7_in 14 = .ok (.iconst 0, 1) := by decide +kernel
theorem dX7_in_15 : decode cX7_in 15 = .ok (.ireturn, 1) := by decide +kernel
theorem dX7_isNone_0 : decode cX7_isNone 0 = .ok (.iload_n 1, 1) := by decide +kernel
theorem dX7_isNone_1 : decode cX7_isNone 1 = .ok (.iconst 0, 1) := by decide +kernel
theorem dX7_isNone_2 : decode cX7_isNone 2 = .ok (.aload_n 0, 1) := by decide +kernel
theorem dX7_isNone_3 : decode cX7_isNone 3 = .ok (.getfield 68, 3) := by decide +kernel
theorem dX7_isNone_6 : decode cX7_isNone 6 = .ok (.iconst 1, 1) := by decide +kernel
theorem dX7_isNone_7 : decode cX7_isNone 7 = .ok (.isub, 1) := by decide +kernel
theorem dX7_isNone_8 : decode cX7_isNone 8 = .ok (.invokestatic 71, 3) := by decide +kernel
theorem dX7_isNone_11 : decode cX7_isNone 11 = .ok (.ifCond .ne 7, 3) := by decide +kernel
theorem dX7_isNone_14 : decode cX7_isNone 14 = .ok (.iconst 1, 1) := by decide +kernel
theorem dX7_isNone_15 : decode cX7_isNone 15 = .ok (.goto 4, 3) := by decide +kernel
theorem dX7_isNone_18 : decode cX7_isNone 18 = .ok (.iconst 0, 1) := by decide +kernel
theorem dX7_isNone_19 : decode cX7_isNone 19 = .ok (.ireturn, 1) := by decide +kernel
theorem dX7_isNoPage_0 : decode cX7_isNoPage 0 = .ok (.aload_n 0, 1) := by decide +kernel
theorem dX7_isNoPage_1 : decode cX7_isNoPage 1 = .ok (.aload_n 0, 1) := by decide +kernel
theorem dX7_isNoPage_2 : decode cX7_isNoPage 2 = .ok (.iload_n 1, 1) := by decide +kernel
theorem dX7_isNoPage_3 : decode cX7_isNoPage 3 = .ok (.invokevirtual 75, 3) := by decide +kernel
theorem dX7_isNoPage_6 : decode cX7_isNoPage 6 = .ok (.ifCond .ne 13, 3) := by decide +kernel
theorem dX7_isNoPage_9 : decode cX7_isNoPage 9 = .ok (.iload_n 2, 1) := by decide +kernel
theorem dX7_isNoPage_10 : decode cX7_isNoPage 10 = .ok (.iconst 0, 1) := by decide +kernel
theorem dX7_isNoPage_11 : decode cX7_isNoPage 11 = .ok (.bipush 7, 2) := by decide +kernel
theorem dX7_isNoPage_13 : decode cX7_isNoPage 13 = .ok (.invokestatic 71, 3) := by decide +kernel
theorem dX7_isNoPage_16 : decode cX7_isNoPage 16 = .ok (.ifCond .ne 7, 3) := by decide +kernel
theorem dX7_isNoPage_19 : decode cX7_isNoPage 19 = .ok (.iconst 1, 1) := by decide +kernel
theorem dX7_isNoPage_20 : decode cX7_isNoPage 20 = .ok (.goto 4, 3) := by decide +kernel
theorem dX7_isNoPage_23 : decode cX7_isNoPage 23 = .ok (.iconst 0, 1) := by decide +kernel
theorem dX7_isNoPage_24 : decode cX7_isNoPage 24 = .ok (.invokevirtual 79, 3) := by decide +kernel
theorem dX7_isNoPage_27 : decode cX7_isNoPage 27 = .ok (.ireturn, 1) := by decide +kernel
theorem dX7_isNobody_0 : decode cX7_isNobody 0 = .ok (.aload_n 0, 1) := by decide +kernel
theorem dX7_isNobody_1 : decode cX7_isNobody 1 = .ok (.aload_n 0, 1) := by decide +kernel
theorem dX7_isNobody_2 : decode cX7_isNobody 2 = .ok (.iload_n 1, 1) := by decide +kernel
theorem dX7_isNobody_3 : decode cX7_isNobody 3 = .ok (.invokevirtual 75, 3) := by decide +kernel
theorem dX7_isNobody_6 : decode cX7_isNobody 6 = .ok (.ifCond .eq 7, 3) := by decide +kernel
theorem dX7_isNobody_9 : decode cX7_isNobody 9 = .ok (.iconst 1, 1) := by decide +kernel
theorem dX7_isNobody_10 : decode cX7_isNobody 10 = .ok (.goto 4, 3) := by decide +kernel
theorem dX7_isNobody_13 : decode cX7_isNobody 13 = .ok (.iconst 0, 1) := by decide +kernel
theorem dX7_isNobody_14 : decode cX7_isNobody 14 = .ok (.invokevirtual 79, 3) := by decide +kernel
theorem dX7_isNobody_17 : decode cX7_isNobody 17 = .ok (.ireturn, 1) := by decide +kernel
theorem dX7_addService_0 : decode cX7_addService 0 = .ok (.aload_n 0, 1) := by decide +kernel
theorem dX7_addService_1 : decode cX7_addService 1 = .ok (.iload_n 1, 1) := by decide +kernel
theorem dX7_addService_2 : decode cX7_addService 2 = .ok (.iconst 0, 1) := by decide +kernel
theorem dX7_addService_3 : decode cX7_addService 3 = .ok (.bipush 100, 2) := by decide +kernel
theorem dX7_addService_5 : decode cX7_addService 5 = .ok (.invokestatic 71, 3) := by decide +kernel
theorem dX7_addService_8 : decode cX7_addService 8 = .ok (.ifCond .eq 25, 3) := by decide +kernel
theorem dX7_addService_11 : decode cX7_addService 11 = .ok (.iload_n 2, 1) := by decide +kernel
theorem dX7_addService_12 : decode cX7_addService 12 = .ok (.bipush 97, 2) := by decide +kernel
theorem dX7_addService_14 : decode cX7_addService 14 = .ok (.if_icmp .eq 9, 3) := by decide +kernel
theorem dX7_addService_17 : decode cX7_addService 17 = .ok (.iload_n 2, 1) := by decide +kernel
theorem dX7_addService_18 : decode cX7_addService 18 = .ok (.bipush 110, 2) := by decide +kernel
theorem dX7_addService_20 : decode cX7_addService 20 = .ok (.if_icmp .ne 13, 3) := by decide +kernel
theorem dX7_addService_23 : decode cX7_addService 23 = .ok (.iload_n 3, 1) := by decide +kernel
theorem dX7_addService_24 : decode cX7_addService 24 = .ok (.iconst 1, 1) := by decide +kernel
theorem dX7_addService_25 : decode cX7_addService 25 = .ok (.bipush 20, 2) := by decide +kernel
theorem dX7_addService_27 : decode cX7_addService 27 = .ok (.invokestatic 71, 3) := by decide +kernel
theorem dX7_addService_30 : decode cX7_addService 30 = .ok (.ifCond .ne 7, 3) := by decide +kernel
theorem dX7_addService_33 : decode cX7_addService 33 = .ok (.iconst 1, 1) := by decide +kernel
theorem dX7_addService_34 : decode cX7_addService 34 = .ok (.goto 17, 3) := by decide +kernel
theorem dX7_addService_37 : decode cX7_addService 37 = .ok (.aload_n 0, 1) := by decide +kernel
theorem dX7_addService_38 : decode cX7_addService 38 = .ok (.getfield 68, 3) := by decide +kernel
theorem dX7_addService_41 : decode cX7_addService 41 = .ok (.bipush 6, 2) := by decide +kernel
theorem dX7_addService_43 : decode cX7_addService 43 = .ok (.if_icmp .ne 7, 3) := by decide +kernel
theorem dX7_addService_46 : decode cX7_addService 46 = .ok (.iconst 2, 1) := by decide +kernel
theorem dX7_addService_47 : decode cX7_addService 47 = .ok (.goto 4, 3) := by decide +kernel
theorem dX7_addService_50 : decode cX7_addService 50 = .ok (.iconst 0, 1) := by decide +kernel
theorem dX7_addService_51 : decode cX7_addService 51 = .ok (.invokevirtual 79, 3) := by decide +kernel
theorem dX7_addService_54 : decode cX7_addService 54 = .ok (.ifCond .eq 5, 3) := by decide +kernel
theorem dX7_addService_57 : decode cX7_addService 57 = .ok (.iconst 0, 1) := by decide +kernel
theorem dX7_addService_58 : decode cX7_addService 58 = .ok (.ireturn, 1) := by decide +kernel
theorem dX7_addService_59 : decode cX7_addService 59 = .ok (.aload_n 0, 1) := by decide +kernel
theorem dX7_addService_60 : decode cX7_addService 60 = .ok (.getfield 7, 3) := by decide +kernel
theorem dX7_addService_63 : decode cX7_addService 63 = .ok (.aload_n 0, 1) := by decide +kernel
theorem dX7_addService_64 : decode cX7_addService 64 = .ok (.getfield 68, 3) := by decide +kernel
theorem dX7_addService_67 : decode cX7_addService 67 = .ok (.iload_n 1, 1) := by decide +kernel
theorem dX7_addService_68 : decode cX7_addService 68 = .ok (.iastore, 1) := by decide +kernel
theorem dX7_addService_69 : decode cX7_addService 69 = .ok (.aload_n 0, 1) := by decide +kernel
theorem dX7_addService_70 : decode cX7_addService 70 = .ok (.getfield 13, 3) := by decide +kernel
theorem dX7_addService_73 : decode cX7_addService 73 = .ok (.aload_n 0, 1) := by decide +kernel
theorem dX7_addService_74 : decode cX7_addService 74 = .ok (.getfield 68, 3) := by decide +kernel
theorem dX7_addService_77 : decode cX7_addService 77 = .ok (.iload_n 2, 1) := by decide +kernel
theorem dX7_addService_78 : decode cX7_addService 78 = .ok (.castore, 1) := by decide +kernel
theorem dX7_addService_79 : decode cX7_addService 79 = .ok (.aload_n 0, 1) := by decide +kernel
theorem dX7_addService_80 : decode cX7_addService 80 = .ok (.getfield 17, 3) := by decide +kernel
theorem dX7_addService_83 : decode cX7_addService 83 = .ok (.aload_n 0, 1) := by decide +kernel
theorem dX7_addService_84 : decode cX7_addService 84 = .ok (.getfield 68, 3) := by decide +kernel
theorem dX7_addService_87 : decode cX7_addService 87 = .ok (.iload_n 3, 1) := by decide +kernel
theorem dX7_addService_88 : decode cX7_addService 88 = .ok (.iastore, 1) := by decide +kernel
theorem dX7_addService_89 : decode cX7_addService 89 = .ok (.bipush 8, 2) := by decide +kernel
theorem dX7_addService_91 : decode cX7_addService 91 = .ok (.aload_n 0, 1) := by decide +kernel
theorem dX7_addService_92 : decode cX7_addService 92 = .ok (.getfield 68, 3) := by decide +kernel
theorem dX7_addService_95 : decode cX7_addService 95 = .ok (.imul, 1) := by decide +kernel
theorem dX7_addService_96 : decode cX7_addService 96 = .ok (.istore 4, 2) := by decide +kernel
theorem dX7_addService_98 : decode cX7_addService 98 = .ok (.iload 4, 2) := by decide +kernel
theorem dX7_addService_100 : decode cX7_addService 100 = .ok (.bipush 8, 2) := by decide +kernel
theorem dX7_addService_102 : decode cX7_addService 102 = .ok (.aload_n 0, 1) := by decide +kernel
theorem dX7_addService_103 : decode cX7_addService 103 = .ok (.getfield 68, 3) := by decide +kernel
theorem dX7_addService_106 : decode cX7_addService 106 = .ok (.imul, 1) := by decide +kernel
theorem dX7_addService_107 : decode cX7_addService 107 = .ok (.bipush 8, 2) := by decide +kernel
theorem dX7_addService_109 : decode cX7_addService 109 = .ok (.iadd, 1) := by decide +kernel
theorem dX7_addService_110 : decode cX7_addService 110 = .ok (.if_icmp .ge 17, 3) := by decide +kernel
theorem dX7_addService_113 : decode cX7_addService 113 = .ok (.aload_n 0, 1) := by decide +kernel
theorem dX7_addService_114 : decode cX7_addService 114 = .ok (.getfield 37, 3) := by decide +kernel
theorem dX7_addService_117 : decode cX7_addService 117 = .ok (.iload 4, 2) := by decide +kernel
theorem dX7_addService_119 : decode cX7_addService 119 = .ok (.iconst 2, 1) := by decide +kernel
theorem dX7_addService_120 : decode cX7_addService 120 = .ok (.iastore, 1) := by decide +kernel
theorem dX7_addService_121 : decode cX7_addService 121 = .ok (.iinc 4 1, 3) := by decide +kernel
theorem dX7_addService_124 : decode cX7_addService 124 = .ok (.goto (-26), 3) := by decide +kernel
theorem dX7_addService_127 : decode cX7_addService 127 = .ok (.aload_n 0, 1) := by decide +kernel
theorem dX7_addService_128 : decode cX7_addService 128 = .ok (.dup, 1) := by decide +kernel
theorem dX7_addService_129 : decode cX7_addService 129 = .ok (.getfield 68, 3) := by decide +kernel
theorem dX7_addService_132 : decode cX7_addService 132 = .ok (.iconst 1, 1) := by decide +kernel
theorem dX7_addService_133 : decode cX7_addService 133 = .ok (.iadd, 1) := by decide +kernel
theorem dX7_addService_134 : decode cX7_addService 134 = .ok (.putfield 68, 3) := by decide +kernel
theorem dX7_addService_137 : decode cX7_addService 137 = .ok (.aload_n 0, 1) := by decide +kernel
theorem dX7_addService_138 : decode cX7_addService 138 = .ok (.getfield 68, 3) := by decide +kernel
theorem dX7_addService_141 : decode cX7_addService 141 = .ok (.iconst 1, 1) := by decide +kernel
theorem dX7_addService_142 : decode cX7_addService 142 = .ok (.isub, 1) := by decide +kernel
theorem dX7_addService_143 : decode cX7_addService 143 = .ok (.ireturn, 1) := by decide +kernel
theorem dX7_needs_0 : decode cX7_needs 0 = .ok (.aload_n 0, 1) := by decide +kernel
theorem dX7_needs_1 : decode cX7_needs 1 = .ok (.getfield 30, 3) := by decide +kernel
theorem dX7_needs_4 : decode cX7_needs 4 = .ok (.iload_n 1, 1) := by decide +kernel
theorem dX7_needs_5 : decode cX7_needs 5 = .ok (.iaload, 1) := by decide +kernel
theorem dX7_needs_6 : decode cX7_needs 6 = .ok (.iload_n 2, 1) := by decide +kernel
theorem dX7_needs_7 : decode cX7_needs 7 = .ok (.ishr, 1) := by decide +kernel
theorem dX7_needs_8 : decode cX7_needs 8 = .ok (.iconst 1, 1) := by decide +kernel
theorem dX7_needs_9 : decode cX7_needs 9 = .ok (.iand, 1) := by decide +kernel
theorem dX7_needs_10 : decode cX7_needs 10 = .ok (.iconst 1, 1) := by decide +kernel
theorem dX7_needs_11 : decode cX7_needs 11 = .ok (.if_icmp .ne 7, 3) := by decide +kernel
theorem dX7_needs_14 : decode cX7_needs 14 = .ok (.iconst 1, 1) := by decide +kernel
theorem dX7_needs_15 : decode cX7_needs 15 = .ok (.goto 4, 3) := by decide +kernel
theorem dX7_needs_18 : decode cX7_needs 18 = .ok (.iconst 0, 1) := by decide +kernel
theorem dX7_needs_19 : decode cX7_needs 19 = .ok (.ireturn, 1) := by decide +kernel
theorem dX7_needsAtLast_0 : decode cX7_needsAtLast 0 = .ok (.iconst 0, 1) := by decide +kernel
theorem dX7_needsAtLast_1 : decode cX7_needsAtLast 1 = .ok (.istore_n 3, 1) := by decide +kernel
theorem dX7_needsAtLast_2 : decode cX7_needsAtLast 2 = .ok (.iload_n 3, 1) := by decide +kernel
theorem dX7_needsAtLast_3 : decode cX7_needsAtLast 3 = .ok (.aload_n 0, 1) := by decide +kernel
theorem dX7_needsAtLast_4 : decode cX7_needsAtLast 4 = .ok (.getfield 68, 3) := by decide +kernel
theorem dX7_needsAtLast_7 : decode cX7_needsAtLast 7 = .ok (.if_icmp .ge 34, 3) := by decide +kernel
theorem dX7_needsAtLast_10 : decode cX7_needsAtLast 10 = .ok (.aload_n 0, 1) := by decide +kernel
theorem dX7_needsAtLast_11 : decode cX7_needsAtLast 11 = .ok (.iload_n 1, 1) := by decide +kernel
theorem dX7_needsAtLast_12 : decode cX7_needsAtLast 12 = .ok (.iload_n 3, 1) := by decide +kernel
theorem dX7_needsAtLast_13 : decode cX7_needsAtLast 13 = .ok (.invokevirtual 82, 3) := by decide +kernel
theorem dX7_needsAtLast_16 : decode cX7_needsAtLast 16 = .ok (.ifCond .eq 19, 3) := by decide +kernel
theorem dX7_needsAtLast_19 : decode cX7_needsAtLast 19 = .ok (.iload_n 3, 1) := by decide +kernel
theorem dX7_needsAtLast_20 : decode cX7_needsAtLast 20 = .ok (.iload_n 2, 1) := by decide +kernel
theorem dX7_needsAtLast_21 : decode cX7_needsAtLast 21 = .ok (.if_icmp .eq 12, 3) := by decide +kernel
theorem dX7_needsAtLast_24 : decode cX7_needsAtLast 24 = .ok (.aload_n 0, 1) := by decide +kernel
theorem dX7_needsAtLast_25 : decode cX7_needsAtLast 25 = .ok (.iload_n 3, 1) := by decide +kernel
theorem dX7_needsAtLast_26 : decode cX7_needsAtLast 26 = .ok (.iload_n 2, 1) := by decide +kernel
theorem dX7_needsAtLast_27 : decode cX7_needsAtLast 27 = .ok (.invokevirtual 85, 3) := by decide +kernel
theorem dX7_needsAtLast_30 : decode cX7_needsAtLast 30 = .ok (.ifCond .eq 5, 3) := by decide +kernel
theorem dX7_needsAtLast_33 : decode cX7_needsAtLast 33 = .ok (.iconst 1, 1) := by decide +kernel
theorem dX7_needsAtLast_34 : decode cX7_needsAtLast 34 = .ok (.ireturn, 1) := by decide +kernel
theorem dX7_needsAtLast_35 : decode cX7_needsAtLast 35 = .ok (.iinc 3 1, 3) := by decide +kernel
theorem dX7_needsAtLast_38 : decode cX7_needsAtLast 38 = .ok (.goto (-36), 3) := by decide +kernel
theorem dX7_needsAtLast_41 : decode cX7_needsAtLast 41 = .ok (.iconst 0, 1) := by decide +kernel
theorem dX7_needsAtLast_42 : decode cX7_needsAtLast 42 = .ok (.ireturn, 1) := by decide +kernel
theorem dX7_addNeed_0 : decode cX7_addNeed 0 = .ok (.aload_n 0, 1) := by decide +kernel
theorem dX7_addNeed_1 : decode cX7_addNeed 1 = .ok (.aload_n 0, 1) := by decide +kernel
theorem dX7_addNeed_2 : decode cX7_addNeed 2 = .ok (.iload_n 1, 1) := by decide +kernel
theorem dX7_addNeed_3 : decode cX7_addNeed 3 = .ok (.invokevirtual 75, 3) := by decide +kernel
theorem dX7_addNeed_6 : decode cX7_addNeed 6 = .ok (.ifCond .ne 11, 3) := by decide +kernel
theorem dX7_addNeed_9 : decode cX7_addNeed 9 = .ok (.aload_n 0, 1) := by decide +kernel
theorem dX7_addNeed_10 : decode cX7_addNeed 10 = .ok (.iload_n 2, 1) := by decide +kernel
theorem dX7_addNeed_11 : decode cX7_addNeed 11 = .ok (.invokevirtual 75, 3) := by decide +kernel
theorem dX7_addNeed_14 : decode cX7_addNeed 14 = .ok (.ifCond .eq 7, 3) := by decide +kernel
theorem dX7_addNeed_17 : decode cX7_addNeed 17 = .ok (.iconst 1, 1) := by decide +kernel
theorem dX7_addNeed_18 : decode cX7_addNeed 18 = .ok (.goto 26, 3) := by decide +kernel
theorem dX7_addNeed_21 : decode cX7_addNeed 21 = .ok (.iload_n 1, 1) := by decide +kernel
theorem dX7_addNeed_22 : decode cX7_addNeed 22 = .ok (.iload_n 2, 1) := by decide +kernel
theorem dX7_addNeed_23 : decode cX7_addNeed 23 = .ok (.if_icmp .ne 7, 3) := by decide +kernel
theorem dX7_addNeed_26 : decode cX7_addNeed 26 = .ok (.iconst 2, 1) := by decide +kernel
theorem dX7_addNeed_27 : decode cX7_addNeed 27 = .ok (.goto 17, 3) := by decide +kernel
theorem dX7_addNeed_30 : decode cX7_addNeed 30 = .ok (.aload_n 0, 1) := by decide +kernel
theorem dX7_addNeed_31 : decode cX7_addNeed 31 = .ok (.iload_n 2, 1) := by decide +kernel
theorem dX7_addNeed_32 : decode cX7_addNeed 32 = .ok (.iload_n 1, 1) := by decide +kernel
theorem dX7_addNeed_33 : decode cX7_addNeed 33 = .ok (.invokevirtual 85, 3) := by decide +kernel
theorem dX7_addNeed_36 : decode cX7_addNeed 36 = .ok (.ifCond .eq 7, 3) := by decide +kernel
theorem dX7_addNeed_39 : decode cX7_addNeed 39 = .ok (.iconst 3, 1) := by decide +kernel
theorem dX7_addNeed_40 : decode cX7_addNeed 40 = .ok (.goto 4, 3) := by decide +kernel
theorem dX7_addNeed_43 : decode cX7_addNeed 43 = .ok (.iconst 0, 1) := by decide +kernel
theorem dX7_addNeed_44 : decode cX7_addNeed 44 = .ok (.invokevirtual 79, 3) := by decide +kernel
theorem dX7_addNeed_47 : decode cX7_addNeed 47 = .ok (.ifCond .eq 5, 3) := by decide +kernel
theorem dX7_addNeed_50 : decode cX7_addNeed 50 = .ok (.iconst 0, 1) := by decide +kernel
theorem dX7_addNeed_51 : decode cX7_addNeed 51 = .ok (.ireturn, 1) := by decide +kernel
theorem dX7_addNeed_52 : decode cX7_addNeed 52 = .ok (.aload_n 0, 1) := by decide +kernel
theorem dX7_addNeed_53 : decode cX7_addNeed 53 = .ok (.getfield 30, 3) := by decide +kernel
theorem dX7_addNeed_56 : decode cX7_addNeed 56 = .ok (.iload_n 1, 1) := by decide +kernel
theorem dX7_addNeed_57 : decode cX7_addNeed 57 = .ok (.dup2, 1) := by decide +kernel
theorem dX7_addNeed_58 : decode cX7_addNeed 58 = .ok (.iaload, 1) := by decide +kernel
theorem dX7_addNeed_59 : decode cX7_addNeed 59 = .ok (.iconst 1, 1) := by decide +kernel
theorem dX7_addNeed_60 : decode cX7_addNeed 60 = .ok (.iload_n 2, 1) := by decide +kernel
theorem dX7_addNeed_61 : decode cX7_addNeed 61 = .ok (.ishl, 1) := by decide +kernel
theorem dX7_addNeed_62 : decode cX7_addNeed 62 = .ok (.ior, 1) := by decide +kernel
theorem dX7_addNeed_63 : decode cX7_addNeed 63 = .ok (.iastore, 1) := by decide +kernel
theorem dX7_addNeed_64 : decode cX7_addNeed 64 = .ok (.iconst 0, 1) := by decide +kernel
theorem dX7_addNeed_65 : decode cX7_addNeed 65 = .ok (.istore_n 3, 1) := by decide +kernel
theorem dX7_addNeed_66 : decode cX7_addNeed 66 = .ok (.iconst 0, 1) := by decide +kernel
theorem dX7_addNeed_67 : decode cX7_addNeed 67 = .ok (.istore 4, 2) := by decide +kernel
theorem dX7_addNeed_69 : decode cX7_addNeed 69 = .ok (.iload 4, 2) := by decide +kernel
theorem dX7_addNeed_71 : decode cX7_addNeed 71 = .ok (.aload_n 0, 1) := by decide +kernel
theorem dX7_addNeed_72 : decode cX7_addNeed 72 = .ok (.getfield 68, 3) := by decide +kernel
theorem dX7_addNeed_75 : decode cX7_addNeed 75 = .ok (.if_icmp .ge 27, 3) := by decide +kernel
theorem dX7_addNeed_78 : decode cX7_addNeed 78 = .ok (.iload_n 3, 1) := by decide +kernel
theorem dX7_addNeed_79 : decode cX7_addNeed 79 = .ok (.aload_n 0, 1) := by decide +kernel
theorem dX7_addNeed_80 : decode cX7_addNeed 80 = .ok (.iload_n 1, 1) := by decide +kernel
theorem dX7_addNeed_81 : decode cX7_addNeed 81 = .ok (.iload 4, 2) := by decide +kernel
theorem dX7_addNeed_83 : decode cX7_addNeed 83 = .ok (.invokevirtual 82, 3) := by decide +kernel
theorem dX7_addNeed_86 : decode cX7_addNeed 86 = .ok (.ifCond .eq 7, 3) := by decide +kernel
theorem dX7_addNeed_89 : decode cX7_addNeed 89 = .ok (.iconst 1, 1) := by decide +kernel
theorem dX7_addNeed_90 : decode cX7_addNeed 90 = .ok (.goto 4, 3) := by decide +kernel
theorem dX7_addNeed_93 : decode cX7_addNeed 93 = .ok (.iconst 0, 1) := by decide +kernel
theorem dX7_addNeed_94 : decode cX7_addNeed 94 = .ok (.iadd, 1) := by decide +kernel
theorem dX7_addNeed_95 : decode cX7_addNeed 95 = .ok (.istore_n 3, 1) := by decide +kernel
theorem dX7_addNeed_96 : decode cX7_addNeed 96 = .ok (.iinc 4 1, 3) := by decide +kernel
theorem dX7_addNeed_99 : decode cX7_addNeed 99 = .ok (.goto (-30), 3) := by decide +kernel
theorem dX7_addNeed_102 : decode cX7_addNeed 102 = .ok (.iload_n 3, 1) := by decide +kernel
theorem dX7_addNeed_103 : decode cX7_addNeed 103 = .ok (.ireturn, 1) := by decide +kernel
theorem dX7_runs_0 : decode cX7_runs 0 = .ok (.aload_n 0, 1) := by decide +kernel
theorem dX7_runs_1 : decode cX7_runs 1 = .ok (.getfield 20, 3) := by decide +kernel
theorem dX7_runs_4 : decode cX7_runs 4 = .ok (.iload_n 1, 1) := by decide +kernel
theorem dX7_runs_5 : decode cX7_runs 5 = .ok (.baload, 1) := by decide +kernel
theorem dX7_runs_6 : decode cX7_runs 6 = .ok (.ifCond .eq 5, 3) := by decide +kernel
theorem dX7_runs_9 : decode cX7_runs 9 = .ok (.iconst 0, 1) := by decide +kernel
theorem dX7_runs_10 : decode cX7_runs 10 = .ok (.ireturn, 1) := by decide +kernel
theorem dX7_runs_11 : decode cX7_runs 11 = .ok (.iconst 0, 1) := by decide +kernel
theorem dX7_runs_12 : decode cX7_runs 12 = .ok (.istore_n 2, 1) := by decide +kernel
theorem dX7_runs_13 : decode cX7_runs 13 = .ok (.iload_n 2, 1) := by decide +kernel
theorem dX7_runs_14 : decode cX7_runs 14 = .ok (.aload_n 0, 1) := by decide +kernel
theorem dX7_runs_15 : decode cX7_runs 15 = .ok (.getfield 68, 3) := by decide +kernel
theorem dX7_runs_18 : decode cX7_runs 18 = .ok (.if_icmp .ge 28, 3) := by decide +kernel
theorem dX7_runs_21 : decode cX7_runs 21 = .ok (.aload_n 0, 1) := by decide +kernel
theorem dX7_runs_22 : decode cX7_runs 22 = .ok (.iload_n 1, 1) := by decide +kernel
theorem dX7_runs_23 : decode cX7_runs 23 = .ok (.iload_n 2, 1) := by decide +kernel
theorem dX7_runs_24 : decode cX7_runs 24 = .ok (.invokevirtual 82, 3) := by decide +kernel
theorem dX7_runs_27 : decode cX7_runs 27 = .ok (.ifCond .eq 13, 3) := by decide +kernel
theorem dX7_runs_30 : decode cX7_runs 30 = .ok (.aload_n 0, 1) := by decide +kernel
theorem dX7_runs_31 : decode cX7_runs 31 = .ok (.iload_n 2, 1) := by decide +kernel
theorem dX7_runs_32 : decode cX7_runs 32 = .ok (.invokevirtual 88, 3) := by decide +kernel
theorem dX7_runs_35 : decode cX7_runs 35 = .ok (.ifCond .ne 5, 3) := by decide +kernel
theorem dX7_runs_38 : decode cX7_runs 38 = .ok (.iconst 0, 1) := by decide +kernel
theorem dX7_runs_39 : decode cX7_runs 39 = .ok (.ireturn, 1) := by decide +kernel
theorem dX7_runs_40 : decode cX7_runs 40 = .ok (.iinc 2 1, 3) := by decide +kernel
theorem dX7_runs_43 : decode cX7_runs 43 = .ok (.goto (-30), 3) := by decide +kernel
theorem dX7_runs_46 : decode cX7_runs 46 = .ok (.iconst 1, 1) := by decide +kernel
theorem dX7_runs_47 : decode cX7_runs 47 = .ok (.ireturn, 1) := by decide +kernel
theorem dX7_isWanted_0 : decode cX7_isWanted 0 = .ok (.iconst 0, 1) := by decide +kernel
theorem dX7_isWanted_1 : decode cX7_isWanted 1 = .ok (.istore_n 2, 1) := by decide +kernel
theorem dX7_isWanted_2 : decode cX7_isWanted 2 = .ok (.iload_n 2, 1) := by decide +kernel
theorem dX7_isWanted_3 : decode cX7_isWanted 3 = .ok (.aload_n 0, 1) := by decide +kernel
theorem dX7_isWanted_4 : decode cX7_isWanted 4 = .ok (.getfield 68, 3) := by decide +kernel
theorem dX7_isWanted_7 : decode cX7_isWanted 7 = .ok (.if_icmp .ge 29, 3) := by decide +kernel
theorem dX7_isWanted_10 : decode cX7_isWanted 10 = .ok (.aload_n 0, 1) := by decide +kernel
theorem dX7_isWanted_11 : decode cX7_isWanted 11 = .ok (.getfield 20, 3) := by decide +kernel
theorem dX7_isWanted_14 : decode cX7_isWanted 14 = .ok (.iload_n 2, 1) := by decide +kernel
theorem dX7_isWanted_15 : decode cX7_isWanted 15 = .ok (.baload, 1) := by decide +kernel
theorem dX7_isWanted_16 : decode cX7_isWanted 16 = .ok (.ifCond .ne 14, 3) := by decide +kernel
theorem dX7_isWanted_19 : decode cX7_isWanted 19 = .ok (.aload_n 0, 1) := by decide +kernel
theorem dX7_isWanted_20 : decode cX7_isWanted 20 = .ok (.iload_n 2, 1) := by decide +kernel
theorem dX7_isWanted_21 : decode cX7_isWanted 21 = .ok (.iload_n 1, 1) := by decide +kernel
theorem dX7_isWanted_22 : decode cX7_isWanted 22 = .ok (.invokevirtual 82, 3) := by decide +kernel
theorem dX7_isWanted_25 : decode cX7_isWanted 25 = .ok (.ifCond .eq 5, 3) := by decide +kernel
theorem dX7_isWanted_28 : decode cX7_isWanted 28 = .ok (.iconst 1, 1) := by decide +kernel
theorem dX7_isWanted_29 : decode cX7_isWanted 29 = .ok (.ireturn, 1) := by decide +kernel
theorem dX7_isWanted_30 : decode cX7_isWanted 30 = .ok (.iinc 2 1, 3) := by decide +kernel
theorem dX7_isWanted_33 : decode cX7_isWanted 33 = .ok (.goto (-31), 3) := by decide +kernel
theorem dX7_isWanted_36 : decode cX7_isWanted 36 = .ok (.iconst 0, 1) := by decide +kernel
theorem dX7_isWanted_37 : decode cX7_isWanted 37 = .ok (.ireturn, 1) := by decide +kernel
theorem dX7_setSize_0 : decode cX7_setSize 0 = .ok (.aload_n 0, 1) := by decide +kernel
theorem dX7_setSize_1 : decode cX7_setSize 1 = .ok (.iload_n 1, 1) := by decide +kernel
theorem dX7_setSize_2 : decode cX7_setSize 2 = .ok (.iload_n 2, 1) := by decide +kernel
theorem dX7_setSize_3 : decode cX7_setSize 3 = .ok (.invokevirtual 91, 3) := by decide +kernel
theorem dX7_setSize_6 : decode cX7_setSize 6 = .ok (.ifCond .ne 43, 3) := by decide +kernel
theorem dX7_setSize_9 : decode cX7_setSize 9 = .ok (.aload_n 0, 1) := by decide +kernel
theorem dX7_setSize_10 : decode cX7_setSize 10 = .ok (.iload_n 3, 1) := by decide +kernel
theorem dX7_setSize_11 : decode cX7_setSize 11 = .ok (.iconst 1, 1) := by decide +kernel
theorem dX7_setSize_12 : decode cX7_setSize 12 = .ok (.iconst 4, 1) := by decide +kernel
theorem dX7_setSize_13 : decode cX7_setSize 13 = .ok (.invokestatic 71, 3) := by decide +kernel
theorem dX7_setSize_16 : decode cX7_setSize 16 = .ok (.ifCond .ne 7, 3) := by decide +kernel
theorem dX7_setSize_19 : decode cX7_setSize 19 = .ok (.iconst 2, 1) := by decide +kernel
theorem dX7_setSize_20 : decode cX7_setSize 20 = .ok (.goto 23, 3) := by decide +kernel
theorem dX7_setSize_23 : decode cX7_setSize 23 = .ok (.aload_n 0, 1) := by decide +kernel
theorem dX7_setSize_24 : decode cX7_setSize 24 = .ok (.getfield 40, 3) := by decide +kernel
theorem dX7_setSize_27 : decode cX7_setSize 27 = .ok (.bipush 8, 2) := by decide +kernel
theorem dX7_setSize_29 : decode cX7_setSize 29 = .ok (.iload_n 1, 1) := by decide +kernel
theorem dX7_setSize_30 : decode cX7_setSize 30 = .ok (.imul, 1) := by decide +kernel
theorem dX7_setSize_31 : decode cX7_setSize 31 = .ok (.iload_n 2, 1) := by decide +kernel
theorem dX7_setSize_32 : decode cX7_setSize 32 = .ok (.iadd, 1) := by decide +kernel
theorem dX7_setSize_33 : decode cX7_setSize 33 = .ok (.iaload, 1) := by decide +kernel
theorem dX7_setSize_34 : decode cX7_setSize 34 = .ok (.iconst 2, 1) := by decide +kernel
theorem dX7_setSize_35 : decode cX7_setSize 35 = .ok (.if_icmp .ne 7, 3) := by decide +kernel
theorem dX7_setSize_38 : decode cX7_setSize 38 = .ok (.iconst 3, 1) := by decide +kernel
theorem dX7_setSize_39 : decode cX7_setSize 39 = .ok (.goto 4, 3) := by decide +kernel
theorem dX7_setSize_42 : decode cX7_setSize 42 = .ok (.iconst 0, 1) := by decide +kernel
theorem dX7_setSize_43 : decode cX7_setSize 43 = .ok (.invokevirtual 79, 3) := by decide +kernel
theorem dX7_setSize_46 : decode cX7_setSize 46 = .ok (.ifCond .eq 5, 3) := by decide +kernel
theorem dX7_setSize_49 : decode cX7_setSize 49 = .ok (.iconst 0, 1) := by decide +kernel
theorem dX7_setSize_50 : decode cX7_setSize 50 = .ok (.ireturn, 1) := by decide +kernel
theorem dX7_setSize_51 : decode cX7_setSize 51 = .ok (.aload_n 0, 1) := by decide +kernel
theorem dX7_setSize_52 : decode cX7_setSize 52 = .ok (.getfield 37, 3) := by decide +kernel
theorem dX7_setSize_55 : decode cX7_setSize 55 = .ok (.bipush 8, 2) := by decide +kernel
theorem dX7_setSize_57 : decode cX7_setSize 57 = .ok (.iload_n 1, 1) := by decide +kernel
theorem dX7_setSize_58 : decode cX7_setSize 58 = .ok (.imul, 1) := by decide +kernel
theorem dX7_setSize_59 : decode cX7_setSize 59 = .ok (.iload_n 2, 1) := by decide +kernel
theorem dX7_setSize_60 : decode cX7_setSize 60 = .ok (.iadd, 1) := by decide +kernel
theorem dX7_setSize_61 : decode cX7_setSize 61 = .ok (.iaload, 1) := by decide +kernel
theorem dX7_setSize_62 : decode cX7_setSize 62 = .ok (.istore 4, 2) := by decide +kernel
theorem dX7_setSize_64 : decode cX7_setSize 64 = .ok (.aload_n 0, 1) := by decide +kernel
theorem dX7_setSize_65 : decode cX7_setSize 65 = .ok (.getfield 37, 3) := by decide +kernel
theorem dX7_setSize_68 : decode cX7_setSize 68 = .ok (.bipush 8, 2) := by decide +kernel
theorem dX7_setSize_70 : decode cX7_setSize 70 = .ok (.iload_n 1, 1) := by decide +kernel
theorem dX7_setSize_71 : decode cX7_setSize 71 = .ok (.imul, 1) := by decide +kernel
theorem dX7_setSize_72 : decode cX7_setSize 72 = .ok (.iload_n 2, 1) := by decide +kernel
theorem dX7_setSize_73 : decode cX7_setSize 73 = .ok (.iadd, 1) := by decide +kernel
theorem dX7_setSize_74 : decode cX7_setSize 74 = .ok (.iload_n 3, 1) := by decide +kernel
theorem dX7_setSize_75 : decode cX7_setSize 75 = .ok (.iastore, 1) := by decide +kernel
theorem dX7_setSize_76 : decode cX7_setSize 76 = .ok (.iload 4, 2) := by decide +kernel
theorem dX7_setSize_78 : decode cX7_setSize 78 = .ok (.ireturn, 1) := by decide +kernel
theorem dX7_taken_0 : decode cX7_taken 0 = .ok (.iconst 0, 1) := by decide +kernel
theorem dX7_taken_1 : decode cX7_taken 1 = .ok (.istore_n 1, 1) := by decide +kernel
theorem dX7_taken_2 : decode cX7_taken 2 = .ok (.iconst 0, 1) := by decide +kernel
theorem dX7_taken_3 : decode cX7_taken 3 = .ok (.istore_n 2, 1) := by decide +kernel
theorem dX7_taken_4 : decode cX7_taken 4 = .ok (.iload_n 2, 1) := by decide +kernel
theorem dX7_taken_5 : decode cX7_taken 5 = .ok (.aload_n 0, 1) := by decide +kernel
theorem dX7_taken_6 : decode cX7_taken 6 = .ok (.getfield 94, 3) := by decide +kernel
theorem dX7_taken_9 : decode cX7_taken 9 = .ok (.if_icmp .ge 23, 3) := by decide +kernel
theorem dX7_taken_12 : decode cX7_taken 12 = .ok (.iload_n 1, 1) := by decide +kernel
theorem dX7_taken_13 : decode cX7_taken 13 = .ok (.aload_n 0, 1) := by decide +kernel
theorem dX7_taken_14 : decode cX7_taken 14 = .ok (.getfield 37, 3) := by decide +kernel
theorem dX7_taken_17 : decode cX7_taken 17 = .ok (.aload_n 0, 1) := by decide +kernel
theorem dX7_taken_18 : decode cX7_taken 18 = .ok (.getfield 56, 3) := by decide +kernel
theorem dX7_taken_21 : decode cX7_taken 21 = .ok (.iload_n 2, 1) := by decide +kernel
theorem dX7_taken_22 : decode cX7_taken 22 = .ok (.iaload, 1) := by decide +kernel
theorem dX7_taken_23 : decode cX7_taken 23 = .ok (.iaload, 1) := by decide +kernel
theorem dX7_taken_24 : decode cX7_taken 24 = .ok (.iadd, 1) := by decide +kernel
theorem dX7_taken_25 : decode cX7_taken 25 = .ok (.istore_n 1, 1) := by decide +kernel
theorem dX7_taken_26 : decode cX7_taken 26 = .ok (.iinc 2 1, 3) := by decide +kernel
theorem dX7_taken_29 : decode cX7_taken 29 = .ok (.goto (-25), 3) := by decide +kernel
theorem dX7_taken_32 : decode cX7_taken 32 = .ok (.iload_n 1, 1) := by decide +kernel
theorem dX7_taken_33 : decode cX7_taken 33 = .ok (.ireturn, 1) := by decide +kernel
theorem dX7_unstores_0 : decode cX7_unstores 0 = .ok (.aload_n 0, 1) := by decide +kernel
theorem dX7_unstores_1 : decode cX7_unstores 1 = .ok (.dup, 1) := by decide +kernel
theorem dX7_unstores_2 : decode cX7_unstores 2 = .ok (.getfield 94, 3) := by decide +kernel
theorem dX7_unstores_5 : decode cX7_unstores 5 = .ok (.iconst 1, 1) := by decide +kernel
theorem dX7_unstores_6 : decode cX7_unstores 6 = .ok (.isub, 1) := by decide +kernel
theorem dX7_unstores_7 : decode cX7_unstores 7 = .ok (.putfield 94, 3) := by decide +kernel
theorem dX7_unstores_10 : decode cX7_unstores 10 = .ok (.iload_n 1, 1) := by decide +kernel
theorem dX7_unstores_11 : decode cX7_unstores 11 = .ok (.istore_n 2, 1) := by decide +kernel
theorem dX7_unstores_12 : decode cX7_unstores 12 = .ok (.iload_n 2, 1) := by decide +kernel
theorem dX7_unstores_13 : decode cX7_unstores 13 = .ok (.aload_n 0, 1) := by decide +kernel
theorem dX7_unstores_14 : decode cX7_unstores 14 = .ok (.getfield 94, 3) := by decide +kernel
theorem dX7_unstores_17 : decode cX7_unstores 17 = .ok (.if_icmp .ge 23, 3) := by decide +kernel
theorem dX7_unstores_20 : decode cX7_unstores 20 = .ok (.aload_n 0, 1) := by decide +kernel
theorem dX7_unstores_21 : decode cX7_unstores 21 = .ok (.getfield 56, 3) := by decide +kernel
theorem dX7_unstores_24 : decode cX7_unstores 24 = .ok (.iload_n 2, 1) := by decide +kernel
theorem dX7_unstores_25 : decode cX7_unstores 25 = .ok (.aload_n 0, 1) := by decide +kernel
theorem dX7_unstores_26 : decode cX7_unstores 26 = .ok (.getfield 56, 3) := by decide +kernel
theorem dX7_unstores_29 : decode cX7_unstores 29 = .ok (.iload_n 2, 1) := by decide +kernel
theorem dX7_unstores_30 : decode cX7_unstores 30 = .ok (.iconst 1, 1) := by decide +kernel
theorem dX7_unstores_31 : decode cX7_unstores 31 = .ok (.iadd, 1) := by decide +kernel
theorem dX7_unstores_32 : decode cX7_unstores 32 = .ok (.iaload, 1) := by decide +kernel
theorem dX7_unstores_33 : decode cX7_unstores 33 = .ok (.iastore, 1) := by decide +kernel
theorem dX7_unstores_34 : decode cX7_unstores 34 = .ok (.iinc 2 1, 3) := by decide +kernel
theorem dX7_unstores_37 : decode cX7_unstores 37 = .ok (.goto (-25), 3) := by decide +kernel
theorem dX7_unstores_40 : decode cX7_unstores 40 = .ok (.return_, 1) := by decide +kernel
theorem dX7_makesRoom_0 : decode cX7_makesRoom 0 = .ok (.aload_n 0, 1) := by decide +kernel
theorem dX7_makesRoom_1 : decode cX7_makesRoom 1 = .ok (.invokevirtual 97, 3) := by decide +kernel
theorem dX7_makesRoom_4 : decode cX7_makesRoom 4 = .ok (.iload_n 1, 1) := by decide +kernel
theorem dX7_makesRoom_5 : decode cX7_makesRoom 5 = .ok (.iadd, 1) := by decide +kernel
theorem dX7_makesRoom_6 : decode cX7_makesRoom 6 = .ok (.aload_n 0, 1) := by decide +kernel
theorem dX7_makesRoom_7 : decode cX7_makesRoom 7 = .ok (.getfield 53, 3) := by decide +kernel
theorem dX7_makesRoom_10 : decode cX7_makesRoom 10 = .ok (.if_icmp .le 33, 3) := by decide +kernel
theorem dX7_makesRoom_13 : decode cX7_makesRoom 13 = .ok (.aload_n 0, 1) := by decide +kernel
theorem dX7_makesRoom_14 : decode cX7_makesRoom 14 = .ok (.getfield 40, 3) := by decide +kernel
theorem dX7_makesRoom_17 : decode cX7_makesRoom 17 = .ok (.aload_n 0, 1) := by decide +kernel
theorem dX7_makesRoom_18 : decode cX7_makesRoom 18 = .ok (.getfield 56, 3) := by decide +kernel
theorem dX7_makesRoom_21 : decode cX7_makesRoom 21 = .ok (.iconst 0, 1) := by decide +kernel
theorem dX7_makesRoom_22 : decode cX7_makesRoom 22 = .ok (.iaload, 1) := by decide +kernel
theorem dX7_makesRoom_23 : decode cX7_makesRoom 23 = .ok (.iconst 3, 1) := by decide +kernel
theorem dX7_makesRoom_24 : decode cX7_makesRoom 24 = .ok (.iastore, 1) := by decide +kernel
theorem dX7_makesRoom_25 : decode cX7_makesRoom 25 = .ok (.aload_n 0, 1) := by decide +kernel
theorem dX7_makesRoom_26 : decode cX7_makesRoom 26 = .ok (.iconst 0, 1) := by decide +kernel
theorem dX7_makesRoom_27 : decode cX7_makesRoom 27 = .ok (.invokevirtual 101, 3) := by decide +kernel
theorem dX7_makesRoom_30 : decode cX7_makesRoom 30 = .ok (.aload_n 0, 1) := by decide +kernel
theorem dX7_makesRoom_31 : decode cX7_makesRoom 31 = .ok (.dup, 1) := by decide +kernel
theorem dX7_makesRoom_32 : decode cX7_makesRoom 32 = .ok (.getfield 105, 3) := by decide +kernel
theorem dX7_makesRoom_35 : decode cX7_makesRoom 35 = .ok (.iconst 5, 1) := by decide +kernel
theorem dX7_makesRoom_36 : decode cX7_makesRoom 36 = .ok (.iadd, 1) := by decide +kernel
theorem dX7_makesRoom_37 : decode cX7_makesRoom 37 = .ok (.putfield 105, 3) := by decide +kernel
theorem dX7_makesRoom_40 : decode cX7_makesRoom 40 = .ok (.goto (-40), 3) := by decide +kernel
theorem dX7_makesRoom_43 : decode cX7_makesRoom 43 = .ok (.return_, 1) := by decide +kernel
theorem dX7_takesOut_0 : decode cX7_takesOut 0 = .ok (.aload_n 0, 1) := by decide +kernel
theorem dX7_takesOut_1 : decode cX7_takesOut 1 = .ok (.getfield 47, 3) := by decide +kernel
theorem dX7_takesOut_4 : decode cX7_takesOut 4 = .ok (.iload_n 1, 1) := by decide +kernel
theorem dX7_takesOut_5 : decode cX7_takesOut 5 = .ok (.iaload, 1) := by decide +kernel
theorem dX7_takesOut_6 : decode cX7_takesOut 6 = .ok (.istore_n 2, 1) := by decide +kernel
theorem dX7_takesOut_7 : decode cX7_takesOut 7 = .ok (.aload_n 0, 1) := by decide +kernel
theorem dX7_takesOut_8 : decode cX7_takesOut 8 = .ok (.getfield 47, 3) := by decide +kernel
theorem dX7_takesOut_11 : decode cX7_takesOut 11 = .ok (.iload_n 1, 1) := by decide +kernel
theorem dX7_takesOut_12 : decode cX7_takesOut 12 = .ok (.iconst (-1), 1) := by decide +kernel
theorem dX7_takesOut_13 : decode cX7_takesOut 13 = .ok (.iastore, 1) := by decide +kernel
theorem dX7_takesOut_14 : decode cX7_takesOut 14 = .ok (.aload_n 0, 1) := by decide +kernel
theorem dX7_takesOut_15 : decode cX7_takesOut 15 = .ok (.getfield 50, 3) := by decide +kernel
theorem dX7_takesOut_18 : decode cX7_takesOut 18 = .ok (.iload_n 1, 1) := by decide +kernel
theorem dX7_takesOut_19 : decode cX7_takesOut 19 = .ok (.iconst 0, 1) := by decide +kernel
theorem dX7_takesOut_20 : decode cX7_takesOut 20 = .ok (.bastore, 1) := by decide +kernel
theorem dX7_takesOut_21 : decode cX7_takesOut 21 = .ok (.aload_n 0, 1) := by decide +kernel
theorem dX7_takesOut_22 : decode cX7_takesOut 22 = .ok (.getfield 37, 3) := by decide +kernel
theorem dX7_takesOut_25 : decode cX7_takesOut 25 = .ok (.iload_n 2, 1) := by decide +kernel
theorem dX7_takesOut_26 : decode cX7_takesOut 26 = .ok (.iaload, 1) := by decide +kernel
theorem dX7_takesOut_27 : decode cX7_takesOut 27 = .ok (.aload_n 0, 1) := by decide +kernel
theorem dX7_takesOut_28 : decode cX7_takesOut 28 = .ok (.getfield 53, 3) := by decide +kernel
theorem dX7_takesOut_31 : decode cX7_takesOut 31 = .ok (.if_icmp .le 21, 3) := by decide +kernel
theorem dX7_takesOut_34 : decode cX7_takesOut 34 = .ok (.aload_n 0, 1) := by decide +kernel
theorem dX7_takesOut_35 : decode cX7_takesOut 35 = .ok (.getfield 40, 3) := by decide +kernel
theorem dX7_takesOut_38 : decode cX7_takesOut 38 = .ok (.iload_n 2, 1) := by decide +kernel
theorem dX7_takesOut_39 : decode cX7_takesOut 39 = .ok (.iconst 3, 1) := by decide +kernel
theorem dX7_takesOut_40 : decode cX7_takesOut 40 = .ok (.iastore, 1) := by decide +kernel
theorem dX7_takesOut_41 : decode cX7_takesOut 41 = .ok (.aload_n 0, 1) := by decide +kernel
theorem dX7_takesOut_42 : decode cX7_takesOut 42 = .ok (.dup, 1) := by decide +kernel
theorem dX7_takesOut_43 : decode cX7_takesOut 43 = .ok (.getfield 105, 3) := by decide +kernel
theorem dX7_takesOut_46 : decode cX7_takesOut 46 = .ok (.iconst 5, 1) := by decide +kernel
theorem dX7_takesOut_47 : decode cX7_takesOut 47 = .ok (.iadd, 1) := by decide +kernel
theorem dX7_takesOut_48 : decode cX7_takesOut 48 = .ok (.putfield 105, 3) := by decide +kernel
theorem dX7_takesOut_51 : decode cX7_takesOut 51 = .ok (.return_, 1) := by decide +kernel
theorem dX7_takesOut_52 : decode cX7_takesOut 52 = .ok (.aload_n 0, 1) := by decide +kernel
theorem dX7_takesOut_53 : decode cX7_takesOut 53 = .ok (.aload_n 0, 1) := by decide +kernel
theorem dX7_takesOut_54 : decode cX7_takesOut 54 = .ok (.getfield 37, 3) := by decide +kernel
theorem dX7_takesOut_57 : decode cX7_takesOut 57 = .ok (.iload_n 2, 1) := by decide +kernel
theorem dX7_takesOut_58 : decode cX7_takesOut 58 = .ok (.iaload, 1) := by decide +kernel
theorem dX7_takesOut_59 : decode cX7_takesOut 59 = .ok (.invokevirtual 108, 3) := by decide +kernel
theorem dX7_takesOut_62 : decode cX7_takesOut 62 = .ok (.aload_n 0, 1) := by decide +kernel
theorem dX7_takesOut_63 : decode cX7_takesOut 63 = .ok (.getfield 40, 3) := by decide +kernel
theorem dX7_takesOut_66 : decode cX7_takesOut 66 = .ok (.iload_n 2, 1) := by decide +kernel
theorem dX7_takesOut_67 : decode cX7_takesOut 67 = .ok (.iconst 2, 1) := by decide +kernel
theorem dX7_takesOut_68 : decode cX7_takesOut 68 = .ok (.iastore, 1) := by decide +kernel
theorem dX7_takesOut_69 : decode cX7_takesOut 69 = .ok (.aload_n 0, 1) := by decide +kernel
theorem dX7_takesOut_70 : decode cX7_takesOut 70 = .ok (.getfield 56, 3) := by decide +kernel
theorem dX7_takesOut_73 : decode cX7_takesOut 73 = .ok (.aload_n 0, 1) := by decide +kernel
theorem dX7_takesOut_74 : decode cX7_takesOut 74 = .ok (.getfield 94, 3) := by decide +kernel
theorem dX7_takesOut_77 : decode cX7_takesOut 77 = .ok (.iload_n 2, 1) := by decide +kernel
theorem dX7_takesOut_78 : decode cX7_takesOut 78 = .ok (.iastore, 1) := by decide +kernel
theorem dX7_takesOut_79 : decode cX7_takesOut 79 = .ok (.aload_n 0, 1) := by decide +kernel
theorem dX7_takesOut_80 : decode cX7_takesOut 80 = .ok (.dup, 1) := by decide +kernel
theorem dX7_takesOut_81 : decode cX7_takesOut 81 = .ok (.getfield 94, 3) := by decide +kernel
theorem dX7_takesOut_84 : decode cX7_takesOut 84 = .ok (.iconst 1, 1) := by decide +kernel
theorem dX7_takesOut_85 : decode cX7_takesOut 85 = .ok (.iadd, 1) := by decide +kernel
theorem dX7_takesOut_86 : decode cX7_takesOut 86 = .ok (.putfield 94, 3) := by decide +kernel
theorem dX7_takesOut_89 : decode cX7_takesOut 89 = .ok (.aload_n 0, 1) := by decide +kernel
theorem dX7_takesOut_90 : decode cX7_takesOut 90 = .ok (.dup, 1) := by decide +kernel
theorem dX7_takesOut_91 : decode cX7_takesOut 91 = .ok (.getfield 105, 3) := by decide +kernel
theorem dX7_takesOut_94 : decode cX7_takesOut 94 = .ok (.iconst 1, 1) := by decide +kernel
theorem dX7_takesOut_95 : decode cX7_takesOut 95 = .ok (.iadd, 1) := by decide +kernel
theorem dX7_takesOut_96 : decode cX7_takesOut 96 = .ok (.putfield 105, 3) := by decide +kernel
theorem dX7_takesOut_99 : decode cX7_takesOut 99 = .ok (.return_, 1) := by decide +kernel
theorem dX7_setFrames_0 : decode cX7_setFrames 0 = .ok (.aload_n 0, 1) := by decide +kernel
theorem dX7_setFrames_1 : decode cX7_setFrames 1 = .ok (.iload_n 1, 1) := by decide +kernel
theorem dX7_setFrames_2 : decode cX7_setFrames 2 = .ok (.iconst 1, 1) := by decide +kernel
theorem dX7_setFrames_3 : decode cX7_setFrames 3 = .ok (.bipush 16, 2) := by decide +kernel
theorem dX7_setFrames_5 : decode cX7_setFrames 5 = .ok (.invokestatic 71, 3) := by decide +kernel
theorem dX7_setFrames_8 : decode cX7_setFrames 8 = .ok (.ifCond .eq 7, 3) := by decide +kernel
theorem dX7_setFrames_11 : decode cX7_setFrames 11 = .ok (.iconst 0, 1) := by decide +kernel
theorem dX7_setFrames_12 : decode cX7_setFrames 12 = .ok (.goto 4, 3) := by decide +kernel
theorem dX7_setFrames_15 : decode cX7_setFrames 15 = .ok (.iconst 1, 1) := by decide +kernel
theorem dX7_setFrames_16 : decode cX7_setFrames 16 = .ok (.invokevirtual 79, 3) := by decide +kernel
theorem dX7_setFrames_19 : decode cX7_setFrames 19 = .ok (.ifCond .eq 5, 3) := by decide +kernel
theorem dX7_setFrames_22 : decode cX7_setFrames 22 = .ok (.iconst 0, 1) := by decide +kernel
theorem dX7_setFrames_23 : decode cX7_setFrames 23 = .ok (.ireturn, 1) := by decide +kernel
theorem dX7_setFrames_24 : decode cX7_setFrames 24 = .ok (.aload_n 0, 1) := by decide +kernel
theorem dX7_setFrames_25 : decode cX7_setFrames 25 = .ok (.getfield 43, 3) := by decide +kernel
theorem dX7_setFrames_28 : decode cX7_setFrames 28 = .ok (.istore_n 2, 1) := by decide +kernel
theorem dX7_setFrames_29 : decode cX7_setFrames 29 = .ok (.iload_n 1, 1) := by decide +kernel
theorem dX7_setFrames_30 : decode cX7_setFrames 30 = .ok (.istore_n 3, 1) := by decide +kernel
theorem dX7_setFrames_31 : decode cX7_setFrames 31 = .ok (.iload_n 3, 1) := by decide +kernel
theorem dX7_setFrames_32 : decode cX7_setFrames 32 = .ok (.iload_n 2, 1) := by decide +kernel
theorem dX7_setFrames_33 : decode cX7_setFrames 33 = .ok (.if_icmp .ge 23, 3) := by decide +kernel
theorem dX7_setFrames_36 : decode cX7_setFrames 36 = .ok (.aload_n 0, 1) := by decide +kernel
theorem dX7_setFrames_37 : decode cX7_setFrames 37 = .ok (.getfield 47, 3) := by decide +kernel
theorem dX7_setFrames_40 : decode cX7_setFrames 40 = .ok (.iload_n 3, 1) := by decide +kernel
theorem dX7_setFrames_41 : decode cX7_setFrames 41 = .ok (.iaload, 1) := by decide +kernel
theorem dX7_setFrames_42 : decode cX7_setFrames 42 = .ok (.ifCond .lt 8, 3) := by decide +kernel
theorem dX7_setFrames_45 : decode cX7_setFrames 45 = .ok (.aload_n 0, 1) := by decide +kernel
theorem dX7_setFrames_46 : decode cX7_setFrames 46 = .ok (.iload_n 3, 1) := by decide +kernel
theorem dX7_setFrames_47 : decode cX7_setFrames 47 = .ok (.invokevirtual 111, 3) := by decide +kernel
theorem dX7_setFrames_50 : decode cX7_setFrames 50 = .ok (.iinc 3 1, 3) := by decide +kernel
theorem dX7_setFrames_53 : decode cX7_setFrames 53 = .ok (.goto (-22), 3) := by decide +kernel
theorem dX7_setFrames_56 : decode cX7_setFrames 56 = .ok (.aload_n 0, 1) := by decide +kernel
theorem dX7_setFrames_57 : decode cX7_setFrames 57 = .ok (.iload_n 1, 1) := by decide +kernel
theorem dX7_setFrames_58 : decode cX7_setFrames 58 = .ok (.putfield 43, 3) := by decide +kernel
theorem dX7_setFrames_61 : decode cX7_setFrames 61 = .ok (.aload_n 0, 1) := by decide +kernel
theorem dX7_setFrames_62 : decode cX7_setFrames 62 = .ok (.getfield 114, 3) := by decide +kernel
theorem dX7_setFrames_65 : decode cX7_setFrames 65 = .ok (.iload_n 1, 1) := by decide +kernel
theorem dX7_setFrames_66 : decode cX7_setFrames 66 = .ok (.if_icmp .lt 8, 3) := by decide +kernel
theorem dX7_setFrames_69 : decode cX7_setFrames 69 = .ok (.aload_n 0, 1) := by decide +kernel
theorem dX7_setFrames_70 : decode cX7_setFrames 70 = .ok (.iconst 0, 1) := by decide +kernel
theorem dX7_setFrames_71 : decode cX7_setFrames 71 = .ok (.putfield 114, 3) := by decide +kernel
theorem dX7_setFrames_74 : decode cX7_setFrames 74 = .ok (.iload_n 2, 1) := by decide +kernel
theorem dX7_setFrames_75 : decode cX7_setFrames 75 = .ok (.ireturn, 1) := by decide +kernel
theorem dX7_setRoom_0 : decode cX7_setRoom 0 = .ok (.aload_n 0, 1) := by decide +kernel
theorem dX7_setRoom_1 : decode cX7_setRoom 1 = .ok (.iload_n 1, 1) := by decide +kernel
theorem dX7_setRoom_2 : decode cX7_setRoom 2 = .ok (.iconst 0, 1) := by decide +kernel
theorem dX7_setRoom_3 : decode cX7_setRoom 3 = .ok (.bipush 60, 2) := by decide +kernel
theorem dX7_setRoom_5 : decode cX7_setRoom 5 = .ok (.invokestatic 71, 3) := by decide +kernel
theorem dX7_setRoom_8 : decode cX7_setRoom 8 = .ok (.ifCond .eq 7, 3) := by decide +kernel
theorem dX7_setRoom_11 : decode cX7_setRoom 11 = .ok (.iconst 0, 1) := by decide +kernel
theorem dX7_setRoom_12 : decode cX7_setRoom 12 = .ok (.goto 4, 3) := by decide +kernel
theorem dX7_setRoom_15 : decode cX7_setRoom 15 = .ok (.iconst 1, 1) := by decide +kernel
theorem dX7_setRoom_16 : decode cX7_setRoom 16 = .ok (.invokevirtual 79, 3) := by decide +kernel
theorem dX7_setRoom_19 : decode cX7_setRoom 19 = .ok (.ifCond .eq 5, 3) := by decide +kernel
theorem dX7_setRoom_22 : decode cX7_setRoom 22 = .ok (.iconst 0, 1) := by decide +kernel
theorem dX7_setRoom_23 : decode cX7_setRoom 23 = .ok (.ireturn, 1) := by decide +kernel
theorem dX7_setRoom_24 : decode cX7_setRoom 24 = .ok (.aload_n 0, 1) := by decide +kernel
theorem dX7_setRoom_25 : decode cX7_setRoom 25 = .ok (.getfield 53, 3) := by decide +kernel
theorem dX7_setRoom_28 : decode cX7_setRoom 28 = .ok (.istore_n 2, 1) := by decide +kernel
theorem dX7_setRoom_29 : decode cX7_setRoom 29 = .ok (.aload_n 0, 1) := by decide +kernel
theorem dX7_setRoom_30 : decode cX7_setRoom 30 = .ok (.iload_n 1, 1) := by decide +kernel
theorem dX7_setRoom_31 : decode cX7_setRoom 31 = .ok (.putfield 53, 3) := by decide +kernel
theorem dX7_setRoom_34 : decode cX7_setRoom 34 = .ok (.aload_n 0, 1) := by decide +kernel
theorem dX7_setRoom_35 : decode cX7_setRoom 35 = .ok (.iconst 0, 1) := by decide +kernel
theorem dX7_setRoom_36 : decode cX7_setRoom 36 = .ok (.invokevirtual 108, 3) := by decide +kernel
theorem dX7_setRoom_39 : decode cX7_setRoom 39 = .ok (.iload_n 2, 1) := by decide +kernel
theorem dX7_setRoom_40 : decode cX7_setRoom 40 = .ok (.ireturn, 1) := by decide +kernel
theorem dX7_setLimit_0 : decode cX7_setLimit 0 = .ok (.aload_n 0, 1) := by decide +kernel
theorem dX7_setLimit_1 : decode cX7_setLimit 1 = .ok (.iload_n 1, 1) := by decide +kernel
theorem dX7_setLimit_2 : decode cX7_setLimit 2 = .ok (.iconst 0, 1) := by decide +kernel
theorem dX7_setLimit_3 : decode cX7_setLimit 3 = .ok (.sipush 999, 3) := by decide +kernel
theorem dX7_setLimit_6 : decode cX7_setLimit 6 = .ok (.invokestatic 71, 3) := by decide +kernel
theorem dX7_setLimit_9 : decode cX7_setLimit 9 = .ok (.ifCond .eq 7, 3) := by decide +kernel
theorem dX7_setLimit_12 : decode cX7_setLimit 12 = .ok (.iconst 0, 1) := by decide +kernel
theorem dX7_setLimit_13 : decode cX7_setLimit 13 = .ok (.goto 4, 3) := by decide +kernel
theorem dX7_setLimit_16 : decode cX7_setLimit 16 = .ok (.iconst 1, 1) := by decide +kernel
theorem dX7_setLimit_17 : decode cX7_setLimit 17 = .ok (.invokevirtual 79, 3) := by decide +kernel
theorem dX7_setLimit_20 : decode cX7_setLimit 20 = .ok (.ifCond .eq 5, 3) := by decide +kernel
theorem dX7_setLimit_23 : decode cX7_setLimit 23 = .ok (.iconst 0, 1) := by decide +kernel
theorem dX7_setLimit_24 : decode cX7_setLimit 24 = .ok (.ireturn, 1) := by decide +kernel
theorem dX7_setLimit_25 : decode cX7_setLimit 25 = .ok (.aload_n 0, 1) := by decide +kernel
theorem dX7_setLimit_26 : decode cX7_setLimit 26 = .ok (.getfield 59, 3) := by decide +kernel
theorem dX7_setLimit_29 : decode cX7_setLimit 29 = .ok (.istore_n 2, 1) := by decide +kernel
theorem dX7_setLimit_30 : decode cX7_setLimit 30 = .ok (.aload_n 0, 1) := by decide +kernel
theorem dX7_setLimit_31 : decode cX7_setLimit 31 = .ok (.iload_n 1, 1) := by decide +kernel
theorem dX7_setLimit_32 : decode cX7_setLimit 32 = .ok (.putfield 59, 3) := by decide +kernel
theorem dX7_setLimit_35 : decode cX7_setLimit 35 = .ok (.iload_n 2, 1) := by decide +kernel
theorem dX7_setLimit_36 : decode cX7_setLimit 36 = .ok (.ireturn, 1) := by decide +kernel
theorem dX7_freeFrame_0 : decode cX7_freeFrame 0 = .ok (.iconst 0, 1) := by decide +kernel
theorem dX7_freeFrame_1 : decode cX7_freeFrame 1 = .ok (.istore_n 1, 1) := by decide +kernel
theorem dX7_freeFrame_2 : decode cX7_freeFrame 2 = .ok (.iload_n 1, 1) := by decide +kernel
theorem dX7_freeFrame_3 : decode cX7_freeFrame 3 = .ok (.aload_n 0, 1) := by decide +kernel
theorem dX7_freeFrame_4 : decode cX7_freeFrame 4 = .ok (.getfield 43, 3) := by decide +kernel
theorem dX7_freeFrame_7 : decode cX7_freeFrame 7 = .ok (.if_icmp .ge 20, 3) := by decide +kernel
theorem dX7_freeFrame_10 : decode cX7_freeFrame 10 = .ok (.aload_n 0, 1) := by decide +kernel
theorem dX7_freeFrame_11 : decode cX7_freeFrame 11 = .ok (.getfield 47, 3) := by decide +kernel
theorem dX7_freeFrame_14 : decode cX7_freeFrame 14 = .ok (.iload_n 1, 1) := by decide +kernel
theorem dX7_freeFrame_15 : decode cX7_freeFrame 15 = .ok (.iaload, 1) := by decide +kernel
theorem dX7_freeFrame_16 : decode cX7_freeFrame 16 = .ok (.ifCond .ge 5, 3) := by decide +kernel
theorem dX7_freeFrame_19 : decode cX7_freeFrame 19 = .ok (.iload_n 1, 1) := by decide +kernel
theorem dX7_freeFrame_20 : decode cX7_freeFrame 20 = .ok (.ireturn, 1) := by decide +kernel
theorem dX7_freeFrame_21 : decode cX7_freeFrame 21 = .ok (.iinc 1 1, 3) := by decide +kernel
theorem dX7_freeFrame_24 : decode cX7_freeFrame 24 = .ok (.goto (-22), 3) := by decide +kernel
theorem dX7_freeFrame_27 : decode cX7_freeFrame 27 = .ok (.iconst (-1), 1) := by decide +kernel
theorem dX7_freeFrame_28 : decode cX7_freeFrame 28 = .ok (.ireturn, 1) := by decide +kernel
theorem dX7_clears_0 : decode cX7_clears 0 = .ok (.aload_n 0, 1) := by decide +kernel
theorem dX7_clears_1 : decode cX7_clears 1 = .ok (.getfield 50, 3) := by decide +kernel
theorem dX7_clears_4 : decode cX7_clears 4 = .ok (.aload_n 0, 1) := by decide +kernel
theorem dX7_clears_5 : decode cX7_clears 5 = .ok (.getfield 114, 3) := by decide +kernel
theorem dX7_clears_8 : decode cX7_clears 8 = .ok (.baload, 1) := by decide +kernel
theorem dX7_clears_9 : decode cX7_clears 9 = .ok (.ifCond .eq 31, 3) := by decide +kernel
theorem dX7_clears_12 : decode cX7_clears 12 = .ok (.aload_n 0, 1) := by decide +kernel
theorem dX7_clears_13 : decode cX7_clears 13 = .ok (.getfield 50, 3) := by decide +kernel
theorem dX7_clears_16 : decode cX7_clears 16 = .ok (.aload_n 0, 1) := by decide +kernel
theorem dX7_clears_17 : decode cX7_clears 17 = .ok (.getfield 114, 3) := by decide +kernel
theorem dX7_clears_20 : decode cX7_clears 20 = .ok (.iconst 0, 1) := by decide +kernel
theorem dX7_clears_21 : decode cX7_clears 21 = .ok (.bastore, 1) := by decide +kernel
theorem dX7_clears_22 : decode cX7_clears 22 = .ok (.aload_n 0, 1) := by decide +kernel
theorem dX7_clears_23 : decode cX7_clears 23 = .ok (.aload_n 0, 1) := by decide +kernel
theorem dX7_clears_24 : decode cX7_clears 24 = .ok (.getfield 114, 3) := by decide +kernel
theorem dX7_clears_27 : decode cX7_clears 27 = .ok (.iconst 1, 1) := by decide +kernel
theorem dX7_clears_28 : decode cX7_clears 28 = .ok (.iadd, 1) := by decide +kernel
theorem dX7_clears_29 : decode cX7_clears 29 = .ok (.aload_n 0, 1) := by decide +kernel
theorem dX7_clears_30 : decode cX7_clears 30 = .ok (.getfield 43, 3) := by decide +kernel
theorem dX7_clears_33 : decode cX7_clears 33 = .ok (.irem, 1) := by decide +kernel
theorem dX7_clears_34 : decode cX7_clears 34 = .ok (.putfield 114, 3) := by decide +kernel
theorem dX7_clears_37 : decode cX7_clears 37 = .ok (.goto (-37), 3) := by decide +kernel
theorem dX7_clears_40 : decode cX7_clears 40 = .ok (.aload_n 0, 1) := by decide +kernel
theorem dX7_clears_41 : decode cX7_clears 41 = .ok (.aload_n 0, 1) := by decide +kernel
theorem dX7_clears_42 : decode cX7_clears 42 = .ok (.getfield 114, 3) := by decide +kernel
theorem dX7_clears_45 : decode cX7_clears 45 = .ok (.invokevirtual 111, 3) := by decide +kernel
theorem dX7_clears_48 : decode cX7_clears 48 = .ok (.aload_n 0, 1) := by decide +kernel
theorem dX7_clears_49 : decode cX7_clears 49 = .ok (.aload_n 0, 1) := by decide +kernel
theorem dX7_clears_50 : decode cX7_clears 50 = .ok (.getfield 114, 3) := by decide +kernel
theorem dX7_clears_53 : decode cX7_clears 53 = .ok (.iconst 1, 1) := by decide +kernel
theorem dX7_clears_54 : decode cX7_clears 54 = .ok (.iadd, 1) := by decide +kernel
theorem dX7_clears_55 : decode cX7_clears 55 = .ok (.aload_n 0, 1) := by decide +kernel
theorem dX7_clears_56 : decode cX7_clears 56 = .ok (.getfield 43, 3) := by decide +kernel
theorem dX7_clears_59 : decode cX7_clears 59 = .ok (.irem, 1) := by decide +kernel
theorem dX7_clears_60 : decode cX7_clears 60 = .ok (.putfield 114, 3) := by decide +kernel
theorem dX7_clears_63 : decode cX7_clears 63 = .ok (.return_, 1) := by decide +kernel
theorem dX7_frameWith_0 : decode cX7_frameWith 0 = .ok (.iconst 0, 1) := by decide +kernel
theorem dX7_frameWith_1 : decode cX7_frameWith 1 = .ok (.istore_n 2, 1) := by decide +kernel
theorem dX7_frameWith_2 : decode cX7_frameWith 2 = .ok (.iload_n 2, 1) := by decide +kernel
theorem dX7_frameWith_3 : decode cX7_frameWith 3 = .ok (.aload_n 0, 1) := by decide +kernel
theorem dX7_frameWith_4 : decode cX7_frameWith 4 = .ok (.getfield 43, 3) := by decide +kernel
theorem dX7_frameWith_7 : decode cX7_frameWith 7 = .ok (.if_icmp .ge 21, 3) := by decide +kernel
theorem dX7_frameWith_10 : decode cX7_frameWith 10 = .ok (.aload_n 0, 1) := by decide +kernel
theorem dX7_frameWith_11 : decode cX7_frameWith 11 = .ok (.getfield 47, 3) := by decide +kernel
theorem dX7_frameWith_14 : decode cX7_frameWith 14 = .ok (.iload_n 2, 1) := by decide +kernel
theorem dX7_frameWith_15 : decode cX7_frameWith 15 = .ok (.iaload, 1) := by decide +kernel
theorem dX7_frameWith_16 : decode cX7_frameWith 16 = .ok (.iload_n 1, 1) := by decide +kernel
theorem dX7_frameWith_17 : decode cX7_frameWith 17 = .ok (.if_icmp .ne 5, 3) := by decide +kernel
theorem dX7_frameWith_20 : decode cX7_frameWith 20 = .ok (.iload_n 2, 1) := by decide +kernel
theorem dX7_frameWith_21 : decode cX7_frameWith 21 = .ok (.ireturn, 1) := by decide +kernel
theorem dX7_frameWith_22 : decode cX7_frameWith 22 = .ok (.iinc 2 1, 3) := by decide +kernel
theorem dX7_frameWith_25 : decode cX7_frameWith 25 = .ok (.goto (-23), 3) := by decide +kernel
theorem dX7_frameWith_28 : decode cX7_frameWith 28 = .ok (.iconst (-1), 1) := by decide +kernel
theorem dX7_frameWith_29 : decode cX7_frameWith 29 = .ok (.ireturn, 1) := by decide +kernel
theorem dX7_leaves_0 : decode cX7_leaves 0 = .ok (.aload_n 0, 1) := by decide +kernel
theorem dX7_leaves_1 : decode cX7_leaves 1 = .ok (.dup, 1) := by decide +kernel
theorem dX7_leaves_2 : decode cX7_leaves 2 = .ok (.getfield 105, 3) := by decide +kernel
theorem dX7_leaves_5 : decode cX7_leaves 5 = .ok (.aload_n 0, 1) := by decide +kernel
theorem dX7_leaves_6 : decode cX7_leaves 6 = .ok (.getfield 40, 3) := by decide +kernel
theorem dX7_leaves_9 : decode cX7_leaves 9 = .ok (.iload_n 1, 1) := by decide +kernel
theorem dX7_leaves_10 : decode cX7_leaves 10 = .ok (.iaload, 1) := by decide +kernel
theorem dX7_leaves_11 : decode cX7_leaves 11 = .ok (.ifCond .ne 7, 3) := by decide +kernel
theorem dX7_leaves_14 : decode cX7_leaves 14 = .ok (.iconst 1, 1) := by decide +kernel
theorem dX7_leaves_15 : decode cX7_leaves 15 = .ok (.goto 19, 3) := by decide +kernel
theorem dX7_leaves_18 : decode cX7_leaves 18 = .ok (.aload_n 0, 1) := by decide +kernel
theorem dX7_leaves_19 : decode cX7_leaves 19 = .ok (.getfield 40, 3) := by decide +kernel
theorem dX7_leaves_22 : decode cX7_leaves 22 = .ok (.iload_n 1, 1) := by decide +kernel
theorem dX7_leaves_23 : decode cX7_leaves 23 = .ok (.iaload, 1) := by decide +kernel
theorem dX7_leaves_24 : decode cX7_leaves 24 = .ok (.iconst 2, 1) := by decide +kernel
theorem dX7_leaves_25 : decode cX7_leaves 25 = .ok (.if_icmp .ne 7, 3) := by decide +kernel
theorem dX7_leaves_28 : decode cX7_leaves 28 = .ok (.iconst 2, 1) := by decide +kernel
theorem dX7_leaves_29 : decode cX7_leaves 29 = .ok (.goto 5, 3) := by decide +kernel
theorem dX7_leaves_32 : decode cX7_leaves 32 = .ok (.bipush 10, 2) := by decide +kernel
theorem dX7_leaves_34 : decode cX7_leaves 34 = .ok (.iadd, 1) := by decide +kernel
theorem dX7_leaves_35 : decode cX7_leaves 35 = .ok (.putfield 105, 3) := by decide +kernel
theorem dX7_leaves_38 : decode cX7_leaves 38 = .ok (.aload_n 0, 1) := by decide +kernel
theorem dX7_leaves_39 : decode cX7_leaves 39 = .ok (.getfield 94, 3) := by decide +kernel
theorem dX7_leaves_42 : decode cX7_leaves 42 = .ok (.iconst 1, 1) := by decide +kernel
theorem dX7_leaves_43 : decode cX7_leaves 43 = .ok (.isub, 1) := by decide +kernel
theorem dX7_leaves_44 : decode cX7_leaves 44 = .ok (.istore_n 2, 1) := by decide +kernel
theorem dX7_leaves_45 : decode cX7_leaves 45 = .ok (.iload_n 2, 1) := by decide +kernel
theorem dX7_leaves_46 : decode cX7_leaves 46 = .ok (.ifCond .lt 24, 3) := by decide +kernel
theorem dX7_leaves_49 : decode cX7_leaves 49 = .ok (.aload_n 0, 1) := by decide +kernel
theorem dX7_leaves_50 : decode cX7_leaves 50 = .ok (.getfield 56, 3) := by decide +kernel
theorem dX7_leaves_53 : decode cX7_leaves 53 = .ok (.iload_n 2, 1) := by decide +kernel
theorem dX7_leaves_54 : decode cX7_leaves 54 = .ok (.iaload, 1) := by decide +kernel
theorem dX7_leaves_55 : decode cX7_leaves 55 = .ok (.iload_n 1, 1) := by decide +kernel
theorem dX7_leaves_56 : decode cX7_leaves 56 = .ok (.if_icmp .ne 8, 3) := by decide +kernel
theorem dX7_leaves_59 : decode cX7_leaves 59 = .ok (.aload_n 0, 1) := by decide +kernel
theorem dX7_leaves_60 : decode cX7_leaves 60 = .ok (.iload_n 2, 1) := by decide +kernel
theorem dX7_leaves_61 : decode cX7_leaves 61 = .ok (.invokevirtual 101, 3) := by decide +kernel
theorem dX7_leaves_64 : decode cX7_leaves 64 = .ok (.iinc 2 (-1), 3) := by decide +kernel
theorem dX7_leaves_67 : decode cX7_leaves 67 = .ok (.goto (-22), 3) := by decide +kernel
theorem dX7_leaves_70 : decode cX7_leaves 70 = .ok (.aload_n 0, 1) := by decide +kernel
theorem dX7_leaves_71 : decode cX7_leaves 71 = .ok (.getfield 40, 3) := by decide +kernel
theorem dX7_leaves_74 : decode cX7_leaves 74 = .ok (.iload_n 1, 1) := by decide +kernel
theorem dX7_leaves_75 : decode cX7_leaves 75 = .ok (.iconst 0, 1) := by decide +kernel
theorem dX7_leaves_76 : decode cX7_leaves 76 = .ok (.iastore, 1) := by decide +kernel
theorem dX7_leaves_77 : decode cX7_leaves 77 = .ok (.return_, 1) := by decide +kernel
theorem dX7_comes_0 : decode cX7_comes 0 = .ok (.aload_n 0, 1) := by decide +kernel
theorem dX7_comes_1 : decode cX7_comes 1 = .ok (.iload_n 1, 1) := by decide +kernel
theorem dX7_comes_2 : decode cX7_comes 2 = .ok (.invokevirtual 117, 3) := by decide +kernel
theorem dX7_comes_5 : decode cX7_comes 5 = .ok (.aload_n 0, 1) := by decide +kernel
theorem dX7_comes_6 : decode cX7_comes 6 = .ok (.invokevirtual 120, 3) := by decide +kernel
theorem dX7_comes_9 : decode cX7_comes 9 = .ok (.ifCond .ge 7, 3) := by decide +kernel
theorem dX7_comes_12 : decode cX7_comes 12 = .ok (.aload_n 0, 1) := by decide +kernel
theorem dX7_comes_13 : decode cX7_comes 13 = .ok (.invokevirtual 123, 3) := by decide +kernel
theorem dX7_comes_16 : decode cX7_comes 16 = .ok (.aload_n 0, 1) := by decide +kernel
theorem dX7_comes_17 : decode cX7_comes 17 = .ok (.invokevirtual 120, 3) := by decide +kernel
theorem dX7_comes_20 : decode cX7_comes 20 = .ok (.istore_n 2, 1) := by decide +kernel
theorem dX7_comes_21 : decode cX7_comes 21 = .ok (.aload_n 0, 1) := by decide +kernel
theorem dX7_comes_22 : decode cX7_comes 22 = .ok (.getfield 47, 3) := by decide +kernel
theorem dX7_comes_25 : decode cX7_comes 25 = .ok (.iload_n 2, 1) := by decide +kernel
theorem dX7_comes_26 : decode cX7_comes 26 = .ok (.iload_n 1, 1) := by decide +kernel
theorem dX7_comes_27 : decode cX7_comes 27 = .ok (.iastore, 1) := by decide +kernel
theorem dX7_comes_28 : decode cX7_comes 28 = .ok (.aload_n 0, 1) := by decide +kernel
theorem dX7_comes_29 : decode cX7_comes 29 = .ok (.getfield 50, 3) := by decide +kernel
theorem dX7_comes_32 : decode cX7_comes 32 = .ok (.iload_n 2, 1) := by decide +kernel
theorem dX7_comes_33 : decode cX7_comes 33 = .ok (.iconst 1, 1) := by decide +kernel
theorem dX7_comes_34 : decode cX7_comes 34 = .ok (.bastore, 1) := by decide +kernel
theorem dX7_comes_35 : decode cX7_comes 35 = .ok (.aload_n 0, 1) := by decide +kernel
theorem dX7_comes_36 : decode cX7_comes 36 = .ok (.getfield 40, 3) := by decide +kernel
theorem dX7_comes_39 : decode cX7_comes 39 = .ok (.iload_n 1, 1) := by decide +kernel
theorem dX7_comes_40 : decode cX7_comes 40 = .ok (.iconst 1, 1) := by decide +kernel
theorem dX7_comes_41 : decode cX7_comes 41 = .ok (.iastore, 1) := by decide +kernel
theorem dX7_comes_42 : decode cX7_comes 42 = .ok (.return_, 1) := by decide +kernel
theorem dX7_touch_0 : decode cX7_touch 0 = .ok (.aload_n 0, 1) := by decide +kernel
theorem dX7_touch_1 : decode cX7_touch 1 = .ok (.iload_n 1, 1) := by decide +kernel
theorem dX7_touch_2 : decode cX7_touch 2 = .ok (.iload_n 2, 1) := by decide +kernel
theorem dX7_touch_3 : decode cX7_touch 3 = .ok (.invokevirtual 91, 3) := by decide +kernel
theorem dX7_touch_6 : decode cX7_touch 6 = .ok (.ifCond .ne 23, 3) := by decide +kernel
theorem dX7_touch_9 : decode cX7_touch 9 = .ok (.aload_n 0, 1) := by decide +kernel
theorem dX7_touch_10 : decode cX7_touch 10 = .ok (.aload_n 0, 1) := by decide +kernel
theorem dX7_touch_11 : decode cX7_touch 11 = .ok (.iload_n 1, 1) := by decide +kernel
theorem dX7_touch_12 : decode cX7_touch 12 = .ok (.invokevirtual 88, 3) := by decide +kernel
theorem dX7_touch_15 : decode cX7_touch 15 = .ok (.ifCond .eq 7, 3) := by decide +kernel
theorem dX7_touch_18 : decode cX7_touch 18 = .ok (.iconst 0, 1) := by decide +kernel
theorem dX7_touch_19 : decode cX7_touch 19 = .ok (.goto 4, 3) := by decide +kernel
theorem dX7_touch_22 : decode cX7_touch 22 = .ok (.iconst 2, 1) := by decide +kernel
theorem dX7_touch_23 : decode cX7_touch 23 = .ok (.invokevirtual 79, 3) := by decide +kernel
theorem dX7_touch_26 : decode cX7_touch 26 = .ok (.ifCond .eq 5, 3) := by decide +kernel
theorem dX7_touch_29 : decode cX7_touch 29 = .ok (.iconst 0, 1) := by decide +kernel
theorem dX7_touch_30 : decode cX7_touch 30 = .ok (.ireturn, 1) := by decide +kernel
theorem dX7_touch_31 : decode cX7_touch 31 = .ok (.bipush 8, 2) := by decide +kernel
theorem dX7_touch_33 : decode cX7_touch 33 = .ok (.iload_n 1, 1) := by decide +kernel
theorem dX7_touch_34 : decode cX7_touch 34 = .ok (.imul, 1) := by decide +kernel
theorem dX7_touch_35 : decode cX7_touch 35 = .ok (.iload_n 2, 1) := by decide +kernel
theorem dX7_touch_36 : decode cX7_touch 36 = .ok (.iadd, 1) := by decide +kernel
theorem dX7_touch_37 : decode cX7_touch 37 = .ok (.istore_n 3, 1) := by decide +kernel
theorem dX7_touch_38 : decode cX7_touch 38 = .ok (.aload_n 0, 1) := by decide +kernel
theorem dX7_touch_39 : decode cX7_touch 39 = .ok (.iconst 0, 1) := by decide +kernel
theorem dX7_touch_40 : decode cX7_touch 40 = .ok (.putfield 105, 3) := by decide +kernel
theorem dX7_touch_43 : decode cX7_touch 43 = .ok (.aload_n 0, 1) := by decide +kernel
theorem dX7_touch_44 : decode cX7_touch 44 = .ok (.getfield 40, 3) := by decide +kernel
theorem dX7_touch_47 : decode cX7_touch 47 = .ok (.iload_n 3, 1) := by decide +kernel
theorem dX7_touch_48 : decode cX7_touch 48 = .ok (.iaload, 1) := by decide +kernel
theorem dX7_touch_49 : decode cX7_touch 49 = .ok (.iconst 1, 1) := by decide +kernel
theorem dX7_touch_50 : decode cX7_touch 50 = .ok (.if_icmp .ne 17, 3) := by decide +kernel
theorem dX7_touch_53 : decode cX7_touch 53 = .ok (.aload_n 0, 1) := by decide +kernel
theorem dX7_touch_54 : decode cX7_touch 54 = .ok (.getfield 50, 3) := by decide +kernel
theorem dX7_touch_57 : decode cX7_touch 57 = .ok (.aload_n 0, 1) := by decide +kernel
theorem dX7_touch_58 : decode cX7_touch 58 = .ok (.iload_n 3, 1) := by decide +kernel
theorem dX7_touch_59 : decode cX7_touch 59 = .ok (.invokevirtual 126, 3) := by decide +kernel
theorem dX7_touch_62 : decode cX7_touch 62 = .ok (.iconst 1, 1) := by decide +kernel
theorem dX7_touch_63 : decode cX7_touch 63 = .ok (.bastore, 1) := by decide +kernel
theorem dX7_touch_64 : decode cX7_touch 64 = .ok (.goto 8, 3) := by decide +kernel
theorem dX7_touch_67 : decode cX7_touch 67 = .ok (.aload_n 0, 1) := by decide +kernel
theorem dX7_touch_68 : decode cX7_touch 68 = .ok (.iload_n 3, 1) := by decide +kernel
theorem dX7_touch_69 : decode cX7_touch 69 = .ok (.invokevirtual 130, 3) := by decide +kernel
theorem dX7_touch_72 : decode cX7_touch 72 = .ok (.aload_n 0, 1) := by decide +kernel
theorem dX7_touch_73 : decode cX7_touch 73 = .ok (.getfield 62, 3) := by decide +kernel
theorem dX7_touch_76 : decode cX7_touch 76 = .ok (.aload_n 0, 1) := by decide +kernel
theorem dX7_touch_77 : decode cX7_touch 77 = .ok (.getfield 133, 3) := by decide +kernel
theorem dX7_touch_80 : decode cX7_touch 80 = .ok (.iconst 4, 1) := by decide +kernel
theorem dX7_touch_81 : decode cX7_touch 81 = .ok (.irem, 1) := by decide +kernel
theorem dX7_touch_82 : decode cX7_touch 82 = .ok (.dup2, 1) := by decide +kernel
theorem dX7_touch_83 : decode cX7_touch 83 = .ok (.iaload, 1) := by decide +kernel
theorem dX7_touch_84 : decode cX7_touch 84 = .ok (.aload_n 0, 1) := by decide +kernel
theorem dX7_touch_85 : decode cX7_touch 85 = .ok (.getfield 105, 3) := by decide +kernel
theorem dX7_touch_88 : decode cX7_touch 88 = .ok (.iadd, 1) := by decide +kernel
theorem dX7_touch_89 : decode cX7_touch 89 = .ok (.iastore, 1) := by decide +kernel
theorem dX7_touch_90 : decode cX7_touch 90 = .ok (.aload_n 0, 1) := by decide +kernel
theorem dX7_touch_91 : decode cX7_touch 91 = .ok (.getfield 33, 3) := by decide +kernel
theorem dX7_touch_94 : decode cX7_touch 94 = .ok (.iload_n 1, 1) := by decide +kernel
theorem dX7_touch_95 : decode cX7_touch 95 = .ok (.dup2, 1) := by decide +kernel
theorem dX7_touch_96 : decode cX7_touch 96 = .ok (.laload, 1) := by decide +kernel
theorem dX7_touch_97 : decode cX7_touch 97 = .ok (.aload_n 0, 1) := by decide +kernel
theorem dX7_touch_98 : decode cX7_touch 98 = .ok (.getfield 105, 3) := by decide +kernel
theorem dX7_touch_101 : decode cX7_touch 101 = .ok (.i2l, 1) := by decide +kernel
theorem dX7_touch_102 : decode cX7_touch 102 = .ok (.ladd, 1) := by decide +kernel
theorem dX7_touch_103 : decode cX7_touch 103 = .ok (.lastore, 1) := by decide +kernel
theorem dX7_touch_104 : decode cX7_touch 104 = .ok (.aload_n 0, 1) := by decide +kernel
theorem dX7_touch_105 : decode cX7_touch 105 = .ok (.dup, 1) := by decide +kernel
theorem dX7_touch_106 : decode cX7_touch 106 = .ok (.getfield 136, 3) := by decide +kernel
theorem dX7_touch_109 : decode cX7_touch 109 = .ok (.aload_n 0, 1) := by decide +kernel
theorem dX7_touch_110 : decode cX7_touch 110 = .ok (.getfield 105, 3) := by decide +kernel
theorem dX7_touch_113 : decode cX7_touch 113 = .ok (.i2l, 1) := by decide +kernel
theorem dX7_touch_114 : decode cX7_touch 114 = .ok (.ladd, 1) := by decide +kernel
theorem dX7_touch_115 : decode cX7_touch 115 = .ok (.putfield 136, 3) := by decide +kernel
theorem dX7_touch_118 : decode cX7_touch 118 = .ok (.aload_n 0, 1) := by decide +kernel
theorem dX7_touch_119 : decode cX7_touch 119 = .ok (.dup, 1) := by decide +kernel
theorem dX7_touch_120 : decode cX7_touch 120 = .ok (.getfield 140, 3) := by decide +kernel
theorem dX7_touch_123 : decode cX7_touch 123 = .ok (.iconst 1, 1) := by decide +kernel
theorem dX7_touch_124 : decode cX7_touch 124 = .ok (.iadd, 1) := by decide +kernel
theorem dX7_touch_125 : decode cX7_touch 125 = .ok (.putfield 140, 3) := by decide +kernel
theorem dX7_touch_128 : decode cX7_touch 128 = .ok (.aload_n 0, 1) := by decide +kernel
theorem dX7_touch_129 : decode cX7_touch 129 = .ok (.dup, 1) := by decide +kernel
theorem dX7_touch_130 : decode cX7_touch 130 = .ok (.getfield 143, 3) := by decide +kernel
theorem dX7_touch_133 : decode cX7_touch 133 = .ok (.aload_n 0, 1) := by decide +kernel
theorem dX7_touch_134 : decode cX7_touch 134 = .ok (.getfield 105, 3) := by decide +kernel
theorem dX7_touch_137 : decode cX7_touch 137 = .ok (.ifCond .ne 7, 3) := by decide +kernel
theorem dX7_touch_140 : decode cX7_touch 140 = .ok (.iconst 1, 1) := by decide +kernel
theorem dX7_touch_141 : decode cX7_touch 141 = .ok (.goto 4, 3) := by decide +kernel
theorem dX7_touch_144 : decode cX7_touch 144 = .ok (.iconst 0, 1) := by decide +kernel
theorem dX7_touch_145 : decode cX7_touch 145 = .ok (.iadd, 1) := by decide +kernel
theorem dX7_touch_146 : decode cX7_touch 146 = .ok (.putfield 143, 3) := by decide +kernel
theorem dX7_touch_149 : decode cX7_touch 149 = .ok (.aload_n 0, 1) := by decide +kernel
theorem dX7_touch_150 : decode cX7_touch 150 = .ok (.getfield 105, 3) := by decide +kernel
theorem dX7_touch_153 : decode cX7_touch 153 = .ok (.ireturn, 1) := by decide +kernel
theorem dX7_pressing_0 : decode cX7_pressing 0 = .ok (.aload_n 0, 1) := by decide +kernel
theorem dX7_pressing_1 : decode cX7_pressing 1 = .ok (.getfield 62, 3) := by decide +kernel
theorem dX7_pressing_4 : decode cX7_pressing 4 = .ok (.iconst 0, 1) := by decide +kernel
theorem dX7_pressing_5 : decode cX7_pressing 5 = .ok (.iaload, 1) := by decide +kernel
theorem dX7_pressing_6 : decode cX7_pressing 6 = .ok (.aload_n 0, 1) := by decide +kernel
theorem dX7_pressing_7 : decode cX7_pressing 7 = .ok (.getfield 62, 3) := by decide +kernel
theorem dX7_pressing_10 : decode cX7_pressing 10 = .ok (.iconst 1, 1) := by decide +kernel
theorem dX7_pressing_11 : decode cX7_pressing 11 = .ok (.iaload, 1) := by decide +kernel
theorem dX7_pressing_12 : decode cX7_pressing 12 = .ok (.iadd, 1) := by decide +kernel
theorem dX7_pressing_13 : decode cX7_pressing 13 = .ok (.aload_n 0, 1) := by decide +kernel
theorem dX7_pressing_14 : decode cX7_pressing 14 = .ok (.getfield 62, 3) := by decide +kernel
theorem dX7_pressing_17 : decode cX7_pressing 17 = .ok (.iconst 2, 1) := by decide +kernel
theorem dX7_pressing_18 : decode cX7_pressing 18 = .ok (.iaload, 1) := by decide +kernel
theorem dX7_pressing_19 : decode cX7_pressing 19 = .ok (.iadd, 1) := by decide +kernel
theorem dX7_pressing_20 : decode cX7_pressing 20 = .ok (.aload_n 0, 1) := by decide +kernel
theorem dX7_pressing_21 : decode cX7_pressing 21 = .ok (.getfield 62, 3) := by decide +kernel
theorem dX7_pressing_24 : decode cX7_pressing 24 = .ok (.iconst 3, 1) := by decide +kernel
theorem dX7_pressing_25 : decode cX7_pressing 25 = .ok (.iaload, 1) := by decide +kernel
theorem dX7_pressing_26 : decode cX7_pressing 26 = .ok (.iadd, 1) := by decide +kernel
theorem dX7_pressing_27 : decode cX7_pressing 27 = .ok (.ireturn, 1) := by decide +kernel
theorem dX7_inPlace_0 : decode cX7_inPlace 0 = .ok (.iconst 0, 1) := by decide +kernel
theorem dX7_inPlace_1 : decode cX7_inPlace 1 = .ok (.istore_n 3, 1) := by decide +kernel
theorem dX7_inPlace_2 : decode cX7_inPlace 2 = .ok (.bipush 8, 2) := by decide +kernel
theorem dX7_inPlace_4 : decode cX7_inPlace 4 = .ok (.iload_n 1, 1) := by decide +kernel
theorem dX7_inPlace_5 : decode cX7_inPlace 5 = .ok (.imul, 1) := by decide +kernel
theorem dX7_inPlace_6 : decode cX7_inPlace 6 = .ok (.istore 4, 2) := by decide +kernel
theorem dX7_inPlace_8 : decode cX7_inPlace 8 = .ok (.iload 4, 2) := by decide +kernel
theorem dX7_inPlace_10 : decode cX7_inPlace 10 = .ok (.bipush 8, 2) := by decide +kernel
theorem dX7_inPlace_12 : decode cX7_inPlace 12 = .ok (.iload_n 1, 1) := by decide +kernel
theorem dX7_inPlace_13 : decode cX7_inPlace 13 = .ok (.imul, 1) := by decide +kernel
theorem dX7_inPlace_14 : decode cX7_inPlace 14 = .ok (.bipush 8, 2) := by decide +kernel
theorem dX7_inPlace_16 : decode cX7_inPlace 16 = .ok (.iadd, 1) := by decide +kernel
theorem dX7_inPlace_17 : decode cX7_inPlace 17 = .ok (.if_icmp .ge 28, 3) := by decide +kernel
theorem dX7_inPlace_20 : decode cX7_inPlace 20 = .ok (.iload_n 3, 1) := by decide +kernel
theorem dX7_inPlace_21 : decode cX7_inPlace 21 = .ok (.aload_n 0, 1) := by decide +kernel
theorem dX7_inPlace_22 : decode cX7_inPlace 22 = .ok (.getfield 40, 3) := by decide +kernel
theorem dX7_inPlace_25 : decode cX7_inPlace 25 = .ok (.iload 4, 2) := by decide +kernel
theorem dX7_inPlace_27 : decode cX7_inPlace 27 = .ok (.iaload, 1) := by decide +kernel
theorem dX7_inPlace_28 : decode cX7_inPlace 28 = .ok (.iload_n 2, 1) := by decide +kernel
theorem dX7_inPlace_29 : decode cX7_inPlace 29 = .ok (.if_icmp .ne 7, 3) := by decide +kernel
theorem dX7_inPlace_32 : decode cX7_inPlace 32 = .ok (.iconst 1, 1) := by decide +kernel
theorem dX7_inPlace_33 : decode cX7_inPlace 33 = .ok (.goto 4, 3) := by decide +kernel
theorem dX7_inPlace_36 : decode cX7_inPlace 36 = .ok (.iconst 0, 1) := by decide +kernel
theorem dX7_inPlace_37 : decode cX7_inPlace 37 = .ok (.iadd, 1) := by decide +kernel
theorem dX7_inPlace_38 : decode cX7_inPlace 38 = .ok (.istore_n 3, 1) := by decide +kernel
theorem dX7_inPlace_39 : decode cX7_inPlace 39 = .ok (.iinc 4 1, 3) := by decide +kernel
theorem dX7_inPlace_42 : decode cX7_inPlace 42 = .ok (.goto (-34), 3) := by decide +kernel
theorem dX7_inPlace_45 : decode cX7_inPlace 45 = .ok (.iload_n 3, 1) := by decide +kernel
theorem dX7_inPlace_46 : decode cX7_inPlace 46 = .ok (.ireturn, 1) := by decide +kernel
theorem dX7_scoreOf_0 : decode cX7_scoreOf 0 = .ok (.bipush 10, 2) := by decide +kernel
theorem dX7_scoreOf_2 : decode cX7_scoreOf 2 = .ok (.aload_n 0, 1) := by decide +kernel
theorem dX7_scoreOf_3 : decode cX7_scoreOf 3 = .ok (.iload_n 1, 1) := by decide +kernel
theorem dX7_scoreOf_4 : decode cX7_scoreOf 4 = .ok (.iconst 1, 1) := by decide +kernel
theorem dX7_scoreOf_5 : decode cX7_scoreOf 5 = .ok (.invokevirtual 146, 3) := by decide +kernel
theorem dX7_scoreOf_8 : decode cX7_scoreOf 8 = .ok (.imul, 1) := by decide +kernel
theorem dX7_scoreOf_9 : decode cX7_scoreOf 9 = .ok (.iconst 3, 1) := by decide +kernel
theorem dX7_scoreOf_10 : decode cX7_scoreOf 10 = .ok (.aload_n 0, 1) := by decide +kernel
theorem dX7_scoreOf_11 : decode cX7_scoreOf 11 = .ok (.iload_n 1, 1) := by decide +kernel
theorem dX7_scoreOf_12 : decode cX7_scoreOf 12 = .ok (.iconst 2, 1) := by decide +kernel
theorem dX7_scoreOf_13 : decode cX7_scoreOf 13 = .ok (.invokevirtual 146, 3) := by decide +kernel
theorem dX7_scoreOf_16 : decode cX7_scoreOf 16 = .ok (.imul, 1) := by decide +kernel
theorem dX7_scoreOf_17 : decode cX7_scoreOf 17 = .ok (.iadd, 1) := by decide +kernel
theorem dX7_scoreOf_18 : decode cX7_scoreOf 18 = .ok (.aload_n 0, 1) := by decide +kernel
theorem dX7_scoreOf_19 : decode cX7_scoreOf 19 = .ok (.iload_n 1, 1) := by decide +kernel
theorem dX7_scoreOf_20 : decode cX7_scoreOf 20 = .ok (.iconst 3, 1) := by decide +kernel
theorem dX7_scoreOf_21 : decode cX7_scoreOf 21 = .ok (.invokevirtual 146, 3) := by decide +kernel
theorem dX7_scoreOf_24 : decode cX7_scoreOf 24 = .ok (.iadd, 1) := by decide +kernel
theorem dX7_scoreOf_25 : decode cX7_scoreOf 25 = .ok (.aload_n 0, 1) := by decide +kernel
theorem dX7_scoreOf_26 : decode cX7_scoreOf 26 = .ok (.getfield 7, 3) := by decide +kernel
theorem dX7_scoreOf_29 : decode cX7_scoreOf 29 = .ok (.iload_n 1, 1) := by decide +kernel
theorem dX7_scoreOf_30 : decode cX7_scoreOf 30 = .ok (.iaload, 1) := by decide +kernel
theorem dX7_scoreOf_31 : decode cX7_scoreOf 31 = .ok (.isub, 1) := by decide +kernel
theorem dX7_scoreOf_32 : decode cX7_scoreOf 32 = .ok (.bipush 20, 2) := by decide +kernel
theorem dX7_scoreOf_34 : decode cX7_scoreOf 34 = .ok (.aload_n 0, 1) := by decide +kernel
theorem dX7_scoreOf_35 : decode cX7_scoreOf 35 = .ok (.getfield 27, 3) := by decide +kernel
theorem dX7_scoreOf_38 : decode cX7_scoreOf 38 = .ok (.iload_n 1, 1) := by decide +kernel
theorem dX7_scoreOf_39 : decode cX7_scoreOf 39 = .ok (.iaload, 1) := by decide +kernel
theorem dX7_scoreOf_40 : decode cX7_scoreOf 40 = .ok (.imul, 1) := by decide +kernel
theorem dX7_scoreOf_41 : decode cX7_scoreOf 41 = .ok (.isub, 1) := by decide +kernel
theorem dX7_scoreOf_42 : decode cX7_scoreOf 42 = .ok (.ireturn, 1) := by decide +kernel
theorem dX7_worst_0 : decode cX7_worst 0 = .ok (.iconst (-1), 1) := by decide +kernel
theorem dX7_worst_1 : decode cX7_worst 1 = .ok (.istore_n 1, 1) := by decide +kernel
theorem dX7_worst_2 : decode cX7_worst 2 = .ok (.iconst 0, 1) := by decide +kernel
theorem dX7_worst_3 : decode cX7_worst 3 = .ok (.istore_n 2, 1) := by decide +kernel
theorem dX7_worst_4 : decode cX7_worst 4 = .ok (.iload_n 2, 1) := by decide +kernel
theorem dX7_worst_5 : decode cX7_worst 5 = .ok (.aload_n 0, 1) := by decide +kernel
theorem dX7_worst_6 : decode cX7_worst 6 = .ok (.getfield 68, 3) := by decide +kernel
theorem dX7_worst_9 : decode cX7_worst 9 = .ok (.if_icmp .ge 37, 3) := by decide +kernel
theorem dX7_worst_12 : decode cX7_worst 12 = .ok (.aload_n 0, 1) := by decide +kernel
theorem dX7_worst_13 : decode cX7_worst 13 = .ok (.getfield 20, 3) := by decide +kernel
theorem dX7_worst_16 : decode cX7_worst 16 = .ok (.iload_n 2, 1) := by decide +kernel
theorem dX7_worst_17 : decode cX7_worst 17 = .ok (.baload, 1) := by decide +kernel
theorem dX7_worst_18 : decode cX7_worst 18 = .ok (.ifCond .ne 22, 3) := by decide +kernel
theorem dX7_worst_21 : decode cX7_worst 21 = .ok (.iload_n 1, 1) := by decide +kernel
theorem dX7_worst_22 : decode cX7_worst 22 = .ok (.ifCond .lt 16, 3) := by decide +kernel
theorem dX7_worst_25 : decode cX7_worst 25 = .ok (.aload_n 0, 1) := by decide +kernel
theorem dX7_worst_26 : decode cX7_worst 26 = .ok (.iload_n 2, 1) := by decide +kernel
theorem dX7_worst_27 : decode cX7_worst 27 = .ok (.invokevirtual 150, 3) := by decide +kernel
theorem dX7_worst_30 : decode cX7_worst 30 = .ok (.aload_n 0, 1) := by decide +kernel
theorem dX7_worst_31 : decode cX7_worst 31 = .ok (.iload_n 1, 1) := by decide +kernel
theorem dX7_worst_32 : decode cX7_worst 32 = .ok (.invokevirtual 150, 3) := by decide +kernel
theorem dX7_worst_35 : decode cX7_worst 35 = .ok (.if_icmp .le 5, 3) := by decide +kernel
theorem dX7_worst_38 : decode cX7_worst 38 = .ok (.iload_n 2, 1) := by decide +kernel
theorem dX7_worst_39 : decode cX7_worst 39 = .ok (.istore_n 1, 1) := by decide +kernel
theorem dX7_worst_40 : decode cX7_worst 40 = .ok (.iinc 2 1, 3) := by decide +kernel
theorem dX7_worst_43 : decode cX7_worst 43 = .ok (.goto (-39), 3) := by decide +kernel
theorem dX7_worst_46 : decode cX7_worst 46 = .ok (.iload_n 1, 1) := by decide +kernel
theorem dX7_worst_47 : decode cX7_worst 47 = .ok (.ireturn, 1) := by decide +kernel
theorem dX7_kills_0 : decode cX7_kills 0 = .ok (.aload_n 0, 1) := by decide +kernel
theorem dX7_kills_1 : decode cX7_kills 1 = .ok (.getfield 20, 3) := by decide +kernel
theorem dX7_kills_4 : decode cX7_kills 4 = .ok (.iload_n 1, 1) := by decide +kernel
theorem dX7_kills_5 : decode cX7_kills 5 = .ok (.iconst 1, 1) := by decide +kernel
theorem dX7_kills_6 : decode cX7_kills 6 = .ok (.bastore, 1) := by decide +kernel
theorem dX7_kills_7 : decode cX7_kills 7 = .ok (.aload_n 0, 1) := by decide +kernel
theorem dX7_kills_8 : decode cX7_kills 8 = .ok (.getfield 24, 3) := by decide +kernel
theorem dX7_kills_11 : decode cX7_kills 11 = .ok (.iload_n 1, 1) := by decide +kernel
theorem dX7_kills_12 : decode cX7_kills 12 = .ok (.aload_n 0, 1) := by decide +kernel
theorem dX7_kills_13 : decode cX7_kills 13 = .ok (.getfield 133, 3) := by decide +kernel
theorem dX7_kills_16 : decode cX7_kills 16 = .ok (.iastore, 1) := by decide +kernel
theorem dX7_kills_17 : decode cX7_kills 17 = .ok (.aload_n 0, 1) := by decide +kernel
theorem dX7_kills_18 : decode cX7_kills 18 = .ok (.dup, 1) := by decide +kernel
theorem dX7_kills_19 : decode cX7_kills 19 = .ok (.getfield 153, 3) := by decide +kernel
theorem dX7_kills_22 : decode cX7_kills 22 = .ok (.iconst 1, 1) := by decide +kernel
theorem dX7_kills_23 : decode cX7_kills 23 = .ok (.iadd, 1) := by decide +kernel
theorem dX7_kills_24 : decode cX7_kills 24 = .ok (.putfield 153, 3) := by decide +kernel
theorem dX7_kills_27 : decode cX7_kills 27 = .ok (.iconst 0, 1) := by decide +kernel
theorem dX7_kills_28 : decode cX7_kills 28 = .ok (.istore_n 2, 1) := by decide +kernel
theorem dX7_kills_29 : decode cX7_kills 29 = .ok (.iload_n 2, 1) := by decide +kernel
theorem dX7_kills_30 : decode cX7_kills 30 = .ok (.aload_n 0, 1) := by decide +kernel
theorem dX7_kills_31 : decode cX7_kills 31 = .ok (.getfield 43, 3) := by decide +kernel
theorem dX7_kills_34 : decode cX7_kills 34 = .ok (.if_icmp .ge 48, 3) := by decide +kernel
theorem dX7_kills_37 : decode cX7_kills 37 = .ok (.aload_n 0, 1) := by decide +kernel
theorem dX7_kills_38 : decode cX7_kills 38 = .ok (.getfield 47, 3) := by decide +kernel
theorem dX7_kills_41 : decode cX7_kills 41 = .ok (.iload_n 2, 1) := by decide +kernel
theorem dX7_kills_42 : decode cX7_kills 42 = .ok (.iaload, 1) := by decide +kernel
theorem dX7_kills_43 : decode cX7_kills 43 = .ok (.ifCond .lt 33, 3) := by decide +kernel
theorem dX7_kills_46 : decode cX7_kills 46 = .ok (.aload_n 0, 1) := by decide +kernel
theorem dX7_kills_47 : decode cX7_kills 47 = .ok (.getfield 47, 3) := by decide +kernel
theorem dX7_kills_50 : decode cX7_kills 50 = .ok (.iload_n 2, 1) := by decide +kernel
theorem dX7_kills_51 : decode cX7_kills 51 = .ok (.iaload, 1) := by decide +kernel
theorem dX7_kills_52 : decode cX7_kills 52 = .ok (.bipush 8, 2) := by decide +kernel
theorem dX7_kills_54 : decode cX7_kills 54 = .ok (.idiv, 1) := by decide +kernel
theorem dX7_kills_55 : decode cX7_kills 55 = .ok (.iload_n 1, 1) := by decide +kernel
theorem dX7_kills_56 : decode cX7_kills 56 = .ok (.if_icmp .eq 6, 3) := by decide +kernel
theorem dX7_kills_59 : decode cX7_kills 59 = .ok (.goto 17, 3) := by decide +kernel
theorem dX7_kills_62 : decode cX7_kills 62 = .ok (.aload_n 0, 1) := by decide +kernel
theorem dX7_kills_63 : decode cX7_kills 63 = .ok (.getfield 47, 3) := by decide +kernel
theorem dX7_kills_66 : decode cX7_kills 66 = .ok (.iload_n 2, 1) := by decide +kernel
theorem dX7_kills_67 : decode cX7_kills 67 = .ok (.iconst (-1), 1) := by decide +kernel
theorem dX7_kills_68 : decode cX7_kills 68 = .ok (.iastore, 1) := by decide +kernel
theorem dX7_kills_69 : decode cX7_kills 69 = .ok (.aload_n 0, 1) := by decide +kernel
theorem dX7_kills_70 : decode cX7_kills 70 = .ok (.getfield 50, 3) := by decide +kernel
theorem dX7_kills_73 : decode cX7_kills 73 = .ok (.iload_n 2, 1) := by decide +kernel
theorem dX7_kills_74 : decode cX7_kills 74 = .ok (.iconst 0, 1) := by decide +kernel
theorem dX7_kills_75 : decode cX7_kills 75 = .ok (.bastore, 1) := by decide +kernel
theorem dX7_kills_76 : decode cX7_kills 76 = .ok (.iinc 2 1, 3) := by decide +kernel
theorem dX7_kills_79 : decode cX7_kills 79 = .ok (.goto (-50), 3) := by decide +kernel
theorem dX7_kills_82 : decode cX7_kills 82 = .ok (.aload_n 0, 1) := by decide +kernel
theorem dX7_kills_83 : decode cX7_kills 83 = .ok (.getfield 94, 3) := by decide +kernel
theorem dX7_kills_86 : decode cX7_kills 86 = .ok (.iconst 1, 1) := by decide +kernel
theorem dX7_kills_87 : decode cX7_kills 87 = .ok (.isub, 1) := by decide +kernel
theorem dX7_kills_88 : decode cX7_kills 88 = .ok (.istore_n 2, 1) := by decide +kernel
theorem dX7_kills_89 : decode cX7_kills 89 = .ok (.iload_n 2, 1) := by decide +kernel
theorem dX7_kills_90 : decode cX7_kills 90 = .ok (.ifCond .lt 27, 3) := by decide +kernel
theorem dX7_kills_93 : decode cX7_kills 93 = .ok (.aload_n 0, 1) := by decide +kernel
theorem dX7_kills_94 : decode cX7_kills 94 = .ok (.getfield 56, 3) := by decide +kernel
theorem dX7_kills_97 : decode cX7_kills 97 = .ok (.iload_n 2, 1) := by decide +kernel
theorem dX7_kills_98 : decode cX7_kills 98 = .ok (.iaload, 1) := by decide +kernel
theorem dX7_kills_99 : decode cX7_kills 99 = .ok (.bipush 8, 2) := by decide +kernel
theorem dX7_kills_101 : decode cX7_kills 101 = .ok (.idiv, 1) := by decide +kernel
theorem dX7_kills_102 : decode cX7_kills 102 = .ok (.iload_n 1, 1) := by decide +kernel
theorem dX7_kills_103 : decode cX7_kills 103 = .ok (.if_icmp .ne 8, 3) := by decide +kernel
theorem dX7_kills_106 : decode cX7_kills 106 = .ok (.aload_n 0, 1) := by decide +kernel
theorem dX7_kills_107 : decode cX7_kills 107 = .ok (.iload_n 2, 1) := by decide +kernel
theorem dX7_kills_108 : decode cX7_kills 108 = .ok (.invokevirtual 101, 3) := by decide +kernel
theorem dX7_kills_111 : decode cX7_kills 111 = .ok (.iinc 2 (-1), 3) := by decide +kernel
theorem dX7_kills_114 : decode cX7_kills 114 = .ok (.goto (-25), 3) := by decide +kernel
theorem dX7_kills_117 : decode cX7_kills 117 = .ok (.bipush 8, 2) := by decide +kernel
theorem dX7_kills_119 : decode cX7_kills 119 = .ok (.iload_n 1, 1) := by decide +kernel
theorem dX7_kills_120 : decode cX7_kills 120 = .ok (.imul, 1) := by decide +kernel
theorem dX7_kills_121 : decode cX7_kills 121 = .ok (.istore_n 2, 1) := by decide +kernel
theorem dX7_kills_122 : decode cX7_kills 122 = .ok (.iload_n 2, 1) := by decide +kernel
theorem dX7_kills_123 : decode cX7_kills 123 = .ok (.bipush 8, 2) := by decide +kernel
theorem dX7_kills_125 : decode cX7_kills 125 = .ok (.iload_n 1, 1) := by decide +kernel
theorem dX7_kills_126 : decode cX7_kills 126 = .ok (.imul, 1) := by decide +kernel
theorem dX7_kills_127 : decode cX7_kills 127 = .ok (.bipush 8, 2) := by decide +kernel
theorem dX7_kills_129 : decode cX7_kills 129 = .ok (.iadd, 1) := by decide +kernel
theorem dX7_kills_130 : decode cX7_kills 130 = .ok (.if_icmp .ge 16, 3) := by decide +kernel
theorem dX7_kills_133 : decode cX7_kills 133 = .ok (.aload_n 0, 1) := by decide +kernel
theorem dX7_kills_134 : decode cX7_kills 134 = .ok (.getfield 40, 3) := by decide +kernel
theorem dX7_kills_137 : decode cX7_kills 137 = .ok (.iload_n 2, 1) := by decide +kernel
theorem dX7_kills_138 : decode cX7_kills 138 = .ok (.iconst 0, 1) := by decide +kernel
theorem dX7_kills_139 : decode cX7_kills 139 = .ok (.iastore, 1) := by decide +kernel
theorem dX7_kills_140 : decode cX7_kills 140 = .ok (.iinc 2 1, 3) := by decide +kernel
theorem dX7_kills_143 : decode cX7_kills 143 = .ok (.goto (-21), 3) := by decide +kernel
theorem dX7_kills_146 : decode cX7_kills 146 = .ok (.return_, 1) := by decide +kernel
theorem dX7_ticks_0 : decode cX7_ticks 0 = .ok (.aload_n 0, 1) := by decide +kernel
theorem dX7_ticks_1 : decode cX7_ticks 1 = .ok (.getfield 153, 3) := by decide +kernel
theorem dX7_ticks_4 : decode cX7_ticks 4 = .ok (.istore_n 1, 1) := by decide +kernel
theorem dX7_ticks_5 : decode cX7_ticks 5 = .ok (.aload_n 0, 1) := by decide +kernel
theorem dX7_ticks_6 : decode cX7_ticks 6 = .ok (.invokevirtual 156, 3) := by decide +kernel
theorem dX7_ticks_9 : decode cX7_ticks 9 = .ok (.aload_n 0, 1) := by decide +kernel
theorem dX7_ticks_10 : decode cX7_ticks 10 = .ok (.getfield 59, 3) := by decide +kernel
theorem dX7_ticks_13 : decode cX7_ticks 13 = .ok (.if_icmp .le 38, 3) := by decide +kernel
theorem dX7_ticks_16 : decode cX7_ticks 16 = .ok (.aload_n 0, 1) := by decide +kernel
theorem dX7_ticks_17 : decode cX7_ticks 17 = .ok (.invokevirtual 159, 3) := by decide +kernel
theorem dX7_ticks_20 : decode cX7_ticks 20 = .ok (.ifCond .lt 11, 3) := by decide +kernel
theorem dX7_ticks_23 : decode cX7_ticks 23 = .ok (.aload_n 0, 1) := by decide +kernel
theorem dX7_ticks_24 : decode cX7_ticks 24 = .ok (.aload_n 0, 1) := by decide +kernel
theorem dX7_ticks_25 : decode cX7_ticks 25 = .ok (.invokevirtual 159, 3) := by decide +kernel
theorem dX7_ticks_28 : decode cX7_ticks 28 = .ok (.invokevirtual 162, 3) := by decide +kernel
theorem dX7_ticks_31 : decode cX7_ticks 31 = .ok (.iconst 0, 1) := by decide +kernel
theorem dX7_ticks_32 : decode cX7_ticks 32 = .ok (.istore_n 2, 1) := by decide +kernel
theorem dX7_ticks_33 : decode cX7_ticks 33 = .ok (.iload_n 2, 1) := by decide +kernel
theorem dX7_ticks_34 : decode cX7_ticks 34 = .ok (.iconst 4, 1) := by decide +kernel
theorem dX7_ticks_35 : decode cX7_ticks 35 = .ok (.if_icmp .ge 16, 3) := by decide +kernel
theorem dX7_ticks_38 : decode cX7_ticks 38 = .ok (.aload_n 0, 1) := by decide +kernel
theorem dX7_ticks_39 : decode cX7_ticks 39 = .ok (.getfield 62, 3) := by decide +kernel
theorem dX7_ticks_42 : decode cX7_ticks 42 = .ok (.iload_n 2, 1) := by decide +kernel
theorem dX7_ticks_43 : decode cX7_ticks 43 = .ok (.iconst 0, 1) := by decide +kernel
theorem dX7_ticks_44 : decode cX7_ticks 44 = .ok (.iastore, 1) := by decide +kernel
theorem dX7_ticks_45 : decode cX7_ticks 45 = .ok (.iinc 2 1, 3) := by decide +kernel
theorem dX7_ticks_48 : decode cX7_ticks 48 = .ok (.goto (-15), 3) := by decide +kernel
theorem dX7_ticks_51 : decode cX7_ticks 51 = .ok (.aload_n 0, 1) := by decide +kernel
theorem dX7_ticks_52 : decode cX7_ticks 52 = .ok (.dup, 1) := by decide +kernel
theorem dX7_ticks_53 : decode cX7_ticks 53 = .ok (.getfield 133, 3) := by decide +kernel
theorem dX7_ticks_56 : decode cX7_ticks 56 = .ok (.iconst 1, 1) := by decide +kernel
theorem dX7_ticks_57 : decode cX7_ticks 57 = .ok (.iadd, 1) := by decide +kernel
theorem dX7_ticks_58 : decode cX7_ticks 58 = .ok (.putfield 133, 3) := by decide +kernel
theorem dX7_ticks_61 : decode cX7_ticks 61 = .ok (.aload_n 0, 1) := by decide +kernel
theorem dX7_ticks_62 : decode cX7_ticks 62 = .ok (.getfield 62, 3) := by decide +kernel
theorem dX7_ticks_65 : decode cX7_ticks 65 = .ok (.aload_n 0, 1) := by decide +kernel
theorem dX7_ticks_66 : decode cX7_ticks 66 = .ok (.getfield 133, 3) := by decide +kernel
theorem dX7_ticks_69 : decode cX7_ticks 69 = .ok (.iconst 4, 1) := by decide +kernel
theorem dX7_ticks_70 : decode cX7_ticks 70 = .ok (.irem, 1) := by decide +kernel
theorem dX7_ticks_71 : decode cX7_ticks 71 = .ok (.iconst 0, 1) := by decide +kernel
theorem dX7_ticks_72 : decode cX7_ticks 72 = .ok (.iastore, 1) := by decide +kernel
theorem dX7_ticks_73 : decode cX7_ticks 73 = .ok (.iconst 0, 1) := by decide +kernel
theorem dX7_ticks_74 : decode cX7_ticks 74 = .ok (.istore_n 2, 1) := by decide +kernel
theorem dX7_ticks_75 : decode cX7_ticks 75 = .ok (.iload_n 2, 1) := by decide +kernel
theorem dX7_ticks_76 : decode cX7_ticks 76 = .ok (.aload_n 0, 1) := by decide +kernel
theorem dX7_ticks_77 : decode cX7_ticks 77 = .ok (.getfield 68, 3) := by decide +kernel
theorem dX7_ticks_80 : decode cX7_ticks 80 = .ok (.if_icmp .ge 77, 3) := by decide +kernel
theorem dX7_ticks_83 : decode cX7_ticks 83 = .ok (.aload_n 0, 1) := by decide +kernel
theorem dX7_ticks_84 : decode cX7_ticks 84 = .ok (.getfield 20, 3) := by decide +kernel
theorem dX7_ticks_87 : decode cX7_ticks 87 = .ok (.iload_n 2, 1) := by decide +kernel
theorem dX7_ticks_88 : decode cX7_ticks 88 = .ok (.baload, 1) := by decide +kernel
theorem dX7_ticks_89 : decode cX7_ticks 89 = .ok (.ifCond .eq 62, 3) := by decide +kernel
theorem dX7_ticks_92 : decode cX7_ticks 92 = .ok (.aload_n 0, 1) := by decide +kernel
theorem dX7_ticks_93 : decode cX7_ticks 93 = .ok (.getfield 133, 3) := by decide +kernel
theorem dX7_ticks_96 : decode cX7_ticks 96 = .ok (.aload_n 0, 1) := by decide +kernel
theorem dX7_ticks_97 : decode cX7_ticks 97 = .ok (.getfield 24, 3) := by decide +kernel
theorem dX7_ticks_100 : decode cX7_ticks 100 = .ok (.iload_n 2, 1) := by decide +kernel
theorem dX7_ticks_101 : decode cX7_ticks 101 = .ok (.iaload, 1) := by decide +kernel
theorem dX7_ticks_102 : decode cX7_ticks 102 = .ok (.isub, 1) := by decide +kernel
theorem dX7_ticks_103 : decode cX7_ticks 103 = .ok (.aload_n 0, 1) := by decide +kernel
theorem dX7_ticks_104 : decode cX7_ticks 104 = .ok (.getfield 17, 3) := by decide +kernel
theorem dX7_ticks_107 : decode cX7_ticks 107 = .ok (.iload_n 2, 1) := by decide +kernel
theorem dX7_ticks_108 : decode cX7_ticks 108 = .ok (.iaload, 1) := by decide +kernel
theorem dX7_ticks_109 : decode cX7_ticks 109 = .ok (.if_icmp .lt 42, 3) := by decide +kernel
theorem dX7_ticks_112 : decode cX7_ticks 112 = .ok (.aload_n 0, 1) := by decide +kernel
theorem dX7_ticks_113 : decode cX7_ticks 113 = .ok (.getfield 13, 3) := by decide +kernel
theorem dX7_ticks_116 : decode cX7_ticks 116 = .ok (.iload_n 2, 1) := by decide +kernel
theorem dX7_ticks_117 : decode cX7_ticks 117 = .ok (.caload, 1) := by decide +kernel
theorem dX7_ticks_118 : decode cX7_ticks 118 = .ok (.bipush 110, 2) := by decide +kernel
theorem dX7_ticks_120 : decode cX7_ticks 120 = .ok (.if_icmp .ne 14, 3) := by decide +kernel
theorem dX7_ticks_123 : decode cX7_ticks 123 = .ok (.aload_n 0, 1) := by decide +kernel
theorem dX7_ticks_124 : decode cX7_ticks 124 = .ok (.iload_n 2, 1) := by decide +kernel
theorem dX7_ticks_125 : decode cX7_ticks 125 = .ok (.invokevirtual 165, 3) := by decide +kernel
theorem dX7_ticks_128 : decode cX7_ticks 128 = .ok (.ifCond .ne 6, 3) := by decide +kernel
theorem dX7_ticks_131 : decode cX7_ticks 131 = .ok (.goto 20, 3) := by decide +kernel
theorem dX7_ticks_134 : decode cX7_ticks 134 = .ok (.aload_n 0, 1) := by decide +kernel
theorem dX7_ticks_135 : decode cX7_ticks 135 = .ok (.getfield 20, 3) := by decide +kernel
theorem dX7_ticks_138 : decode cX7_ticks 138 = .ok (.iload_n 2, 1) := by decide +kernel
theorem dX7_ticks_139 : decode cX7_ticks 139 = .ok (.iconst 0, 1) := by decide +kernel
theorem dX7_ticks_140 : decode cX7_ticks 140 = .ok (.bastore, 1) := by decide +kernel
theorem dX7_ticks_141 : decode cX7_ticks 141 = .ok (.aload_n 0, 1) := by decide +kernel
theorem dX7_ticks_142 : decode cX7_ticks 142 = .ok (.getfield 27, 3) := by decide +kernel
theorem dX7_ticks_145 : decode cX7_ticks 145 = .ok (.iload_n 2, 1) := by decide +kernel
theorem dX7_ticks_146 : decode cX7_ticks 146 = .ok (.dup2, 1) := by decide +kernel
theorem dX7_ticks_147 : decode cX7_ticks 147 = .ok (.iaload, 1) := by decide +kernel
theorem dX7_ticks_148 : decode cX7_ticks 148 = .ok (.iconst 1, 1) := by decide +kernel
theorem dX7_ticks_149 : decode cX7_ticks 149 = .ok (.iadd, 1) := by decide +kernel
theorem dX7_ticks_150 : decode cX7_ticks 150 = .ok (.iastore, 1) := by decide +kernel
theorem dX7_ticks_151 : decode cX7_ticks 151 = .ok (.iinc 2 1, 3) := by decide +kernel
theorem dX7_ticks_154 : decode cX7_ticks 154 = .ok (.goto (-79), 3) := by decide +kernel
theorem dX7_ticks_157 : decode cX7_ticks 157 = .ok (.aload_n 0, 1) := by decide +kernel
theorem dX7_ticks_158 : decode cX7_ticks 158 = .ok (.getfield 153, 3) := by decide +kernel
theorem dX7_ticks_161 : decode cX7_ticks 161 = .ok (.iload_n 1, 1) := by decide +kernel
theorem dX7_ticks_162 : decode cX7_ticks 162 = .ok (.isub, 1) := by decide +kernel
theorem dX7_ticks_163 : decode cX7_ticks 163 = .ok (.ireturn, 1) := by decide +kernel
theorem dX7_tick_0 : decode cX7_tick 0 = .ok (.aload_n 0, 1) := by decide +kernel
theorem dX7_tick_1 : decode cX7_tick 1 = .ok (.iload_n 1, 1) := by decide +kernel
theorem dX7_tick_2 : decode cX7_tick 2 = .ok (.iconst 1, 1) := by decide +kernel
theorem dX7_tick_3 : decode cX7_tick 3 = .ok (.bipush 50, 2) := by decide +kernel
theorem dX7_tick_5 : decode cX7_tick 5 = .ok (.invokestatic 71, 3) := by decide +kernel
theorem dX7_tick_8 : decode cX7_tick 8 = .ok (.ifCond .eq 7, 3) := by decide +kernel
theorem dX7_tick_11 : decode cX7_tick 11 = .ok (.iconst 0, 1) := by decide +kernel
theorem dX7_tick_12 : decode cX7_tick 12 = .ok (.goto 4, 3) := by decide +kernel
theorem dX7_tick_15 : decode cX7_tick 15 = .ok (.iconst 1, 1) := by decide +kernel
theorem dX7_tick_16 : decode cX7_tick 16 = .ok (.invokevirtual 79, 3) := by decide +kernel
theorem dX7_tick_19 : decode cX7_tick 19 = .ok (.ifCond .eq 5, 3) := by decide +kernel
theorem dX7_tick_22 : decode cX7_tick 22 = .ok (.iconst 0, 1) := by decide +kernel
theorem dX7_tick_23 : decode cX7_tick 23 = .ok (.ireturn, 1) := by decide +kernel
theorem dX7_tick_24 : decode cX7_tick 24 = .ok (.iconst 0, 1) := by decide +kernel
theorem dX7_tick_25 : decode cX7_tick 25 = .ok (.istore_n 2, 1) := by decide +kernel
theorem dX7_tick_26 : decode cX7_tick 26 = .ok (.iconst 0, 1) := by decide +kernel
theorem dX7_tick_27 : decode cX7_tick 27 = .ok (.istore_n 3, 1) := by decide +kernel
theorem dX7_tick_28 : decode cX7_tick 28 = .ok (.iload_n 3, 1) := by decide +kernel
theorem dX7_tick_29 : decode cX7_tick 29 = .ok (.iload_n 1, 1) := by decide +kernel
theorem dX7_tick_30 : decode cX7_tick 30 = .ok (.if_icmp .ge 16, 3) := by decide +kernel
theorem dX7_tick_33 : decode cX7_tick 33 = .ok (.iload_n 2, 1) := by decide +kernel
theorem dX7_tick_34 : decode cX7_tick 34 = .ok (.aload_n 0, 1) := by decide +kernel
theorem dX7_tick_35 : decode cX7_tick 35 = .ok (.invokevirtual 168, 3) := by decide +kernel
theorem dX7_tick_38 : decode cX7_tick 38 = .ok (.iadd, 1) := by decide +kernel
theorem dX7_tick_39 : decode cX7_tick 39 = .ok (.istore_n 2, 1) := by decide +kernel
theorem dX7_tick_40 : decode cX7_tick 40 = .ok (.iinc 3 1, 3) := by decide +kernel
theorem dX7_tick_43 : decode cX7_tick 43 = .ok (.goto (-15), 3) := by decide +kernel
theorem dX7_tick_46 : decode cX7_tick 46 = .ok (.iload_n 2, 1) := by decide +kernel
theorem dX7_tick_47 : decode cX7_tick 47 = .ok (.ireturn, 1) := by decide +kernel
theorem dX7_time_0 : decode cX7_time 0 = .ok (.aload_n 0, 1) := by decide +kernel
theorem dX7_time_1 : decode cX7_time 1 = .ok (.aload_n 0, 1) := by decide +kernel
theorem dX7_time_2 : decode cX7_time 2 = .ok (.getfield 133, 3) := by decide +kernel
theorem dX7_time_5 : decode cX7_time 5 = .ok (.invokevirtual 171, 3) := by decide +kernel
theorem dX7_time_8 : decode cX7_time 8 = .ok (.ireturn, 1) := by decide +kernel
theorem dX7_placed_0 : decode cX7_placed 0 = .ok (.aload_n 0, 1) := by decide +kernel
theorem dX7_placed_1 : decode cX7_placed 1 = .ok (.iload_n 1, 1) := by decide +kernel
theorem dX7_placed_2 : decode cX7_placed 2 = .ok (.iload_n 2, 1) := by decide +kernel
theorem dX7_placed_3 : decode cX7_placed 3 = .ok (.invokevirtual 91, 3) := by decide +kernel
theorem dX7_placed_6 : decode cX7_placed 6 = .ok (.ifCond .eq 6, 3) := by decide +kernel
theorem dX7_placed_9 : decode cX7_placed 9 = .ok (.bipush 97, 2) := by decide +kernel
theorem dX7_placed_11 : decode cX7_placed 11 = .ok (.ireturn, 1) := by decide +kernel
theorem dX7_placed_12 : decode cX7_placed 12 = .ok (.aload_n 0, 1) := by decide +kernel
theorem dX7_placed_13 : decode cX7_placed 13 = .ok (.getfield 40, 3) := by decide +kernel
theorem dX7_placed_16 : decode cX7_placed 16 = .ok (.bipush 8, 2) := by decide +kernel
theorem dX7_placed_18 : decode cX7_placed 18 = .ok (.iload_n 1, 1) := by decide +kernel
theorem dX7_placed_19 : decode cX7_placed 19 = .ok (.imul, 1) := by decide +kernel
theorem dX7_placed_20 : decode cX7_placed 20 = .ok (.iload_n 2, 1) := by decide +kernel
theorem dX7_placed_21 : decode cX7_placed 21 = .ok (.iadd, 1) := by decide +kernel
theorem dX7_placed_22 : decode cX7_placed 22 = .ok (.iaload, 1) := by decide +kernel
theorem dX7_placed_23 : decode cX7_placed 23 = .ok (.istore_n 3, 1) := by decide +kernel
theorem dX7_placed_24 : decode cX7_placed 24 = .ok (.iload_n 3, 1) := by decide +kernel
theorem dX7_placed_25 : decode cX7_placed 25 = .ok (.iconst 1, 1) := by decide +kernel
theorem dX7_placed_26 : decode cX7_placed 26 = .ok (.if_icmp .ne 8, 3) := by decide +kernel
theorem dX7_placed_29 : decode cX7_placed 29 = .ok (.bipush 102, 2) := by decide +kernel
theorem dX7_placed_31 : decode cX7_placed 31 = .ok (.goto 25, 3) := by decide +kernel
theorem dX7_placed_34 : decode cX7_placed 34 = .ok (.iload_n 3, 1) := by decide +kernel
theorem dX7_placed_35 : decode cX7_placed 35 = .ok (.iconst 2, 1) := by decide +kernel
theorem dX7_placed_36 : decode cX7_placed 36 = .ok (.if_icmp .ne 8, 3) := by decide +kernel
theorem dX7_placed_39 : decode cX7_placed 39 = .ok (.bipush 115, 2) := by decide +kernel
theorem dX7_placed_41 : decode cX7_placed 41 = .ok (.goto 15, 3) := by decide +kernel
theorem dX7_placed_44 : decode cX7_placed 44 = .ok (.iload_n 3, 1) := by decide +kernel
theorem dX7_placed_45 : decode cX7_placed 45 = .ok (.iconst 3, 1) := by decide +kernel
theorem dX7_placed_46 : decode cX7_placed 46 = .ok (.if_icmp .ne 8, 3) := by decide +kernel
theorem dX7_placed_49 : decode cX7_placed 49 = .ok (.bipush 100, 2) := by decide +kernel
theorem dX7_placed_51 : decode cX7_placed 51 = .ok (.goto 5, 3) := by decide +kernel
theorem dX7_placed_54 : decode cX7_placed 54 = .ok (.bipush 45, 2) := by decide +kernel
theorem dX7_placed_56 : decode cX7_placed 56 = .ok (.ireturn, 1) := by decide +kernel
theorem dX7_placeOf_0 : decode cX7_placeOf 0 = .ok (.aload_n 0, 1) := by decide +kernel
theorem dX7_placeOf_1 : decode cX7_placeOf 1 = .ok (.iload_n 1, 1) := by decide +kernel
theorem dX7_placeOf_2 : decode cX7_placeOf 2 = .ok (.iload_n 2, 1) := by decide +kernel
theorem dX7_placeOf_3 : decode cX7_placeOf 3 = .ok (.invokevirtual 174, 3) := by decide +kernel
theorem dX7_placeOf_6 : decode cX7_placeOf 6 = .ok (.ireturn, 1) := by decide +kernel
theorem dX7_placeByEvents_0 : decode cX7_placeByEvents 0 = .ok (.aload_n 0, 1) := by decide +kernel
theorem dX7_placeByEvents_1 : decode cX7_placeByEvents 1 = .ok (.iload_n 1, 1) := by decide +kernel
theorem dX7_placeByEvents_2 : decode cX7_placeByEvents 2 = .ok (.iload_n 2, 1) := by decide +kernel
theorem dX7_placeByEvents_3 : decode cX7_placeByEvents 3 = .ok (.invokevirtual 174, 3) := by decide +kernel
theorem dX7_placeByEvents_6 : decode cX7_placeByEvents 6 = .ok (.ireturn, 1) := by decide +kernel
theorem dX7_frameOf_0 : decode cX7_frameOf 0 = .ok (.aload_n 0, 1) := by decide +kernel
theorem dX7_frameOf_1 : decode cX7_frameOf 1 = .ok (.iload_n 1, 1) := by decide +kernel
theorem dX7_frameOf_2 : decode cX7_frameOf 2 = .ok (.iload_n 2, 1) := by decide +kernel
theorem dX7_frameOf_3 : decode cX7_frameOf 3 = .ok (.invokevirtual 91, 3) := by decide +kernel
theorem dX7_frameOf_6 : decode cX7_frameOf 6 = .ok (.ifCond .ne 30, 3) := by decide +kernel
theorem dX7_frameOf_9 : decode cX7_frameOf 9 = .ok (.aload_n 0, 1) := by decide +kernel
theorem dX7_frameOf_10 : decode cX7_frameOf 10 = .ok (.aload_n 0, 1) := by decide +kernel
theorem dX7_frameOf_11 : decode cX7_frameOf 11 = .ok (.getfield 40, 3) := by decide +kernel
theorem dX7_frameOf_14 : decode cX7_frameOf 14 = .ok (.bipush 8, 2) := by decide +kernel
theorem dX7_frameOf_16 : decode cX7_frameOf 16 = .ok (.iload_n 1, 1) := by decide +kernel
theorem dX7_frameOf_17 : decode cX7_frameOf 17 = .ok (.imul, 1) := by decide +kernel
theorem dX7_frameOf_18 : decode cX7_frameOf 18 = .ok (.iload_n 2, 1) := by decide +kernel
theorem dX7_frameOf_19 : decode cX7_frameOf 19 = .ok (.iadd, 1) := by decide +kernel
theorem dX7_frameOf_20 : decode cX7_frameOf 20 = .ok (.iaload, 1) := by decide +kernel
theorem dX7_frameOf_21 : decode cX7_frameOf 21 = .ok (.iconst 1, 1) := by decide +kernel
theorem dX7_frameOf_22 : decode cX7_frameOf 22 = .ok (.if_icmp .ne 7, 3) := by decide +kernel
theorem dX7_frameOf_25 : decode cX7_frameOf 25 = .ok (.iconst 0, 1) := by decide +kernel
theorem dX7_frameOf_26 : decode cX7_frameOf 26 = .ok (.goto 4, 3) := by decide +kernel
theorem dX7_frameOf_29 : decode cX7_frameOf 29 = .ok (.iconst 2, 1) := by decide +kernel
theorem dX7_frameOf_30 : decode cX7_frameOf 30 = .ok (.invokevirtual 79, 3) := by decide +kernel
theorem dX7_frameOf_33 : decode cX7_frameOf 33 = .ok (.ifCond .eq 7, 3) := by decide +kernel
theorem dX7_frameOf_36 : decode cX7_frameOf 36 = .ok (.iconst 0, 1) := by decide +kernel
theorem dX7_frameOf_37 : decode cX7_frameOf 37 = .ok (.goto 13, 3) := by decide +kernel
theorem dX7_frameOf_40 : decode cX7_frameOf 40 = .ok (.aload_n 0, 1) := by decide +kernel
theorem dX7_frameOf_41 : decode cX7_frameOf 41 = .ok (.bipush 8, 2) := by decide +kernel
theorem dX7_frameOf_43 : decode cX7_frameOf 43 = .ok (.iload_n 1, 1) := by decide +kernel
theorem dX7_frameOf_44 : decode cX7_frameOf 44 = .ok (.imul, 1) := by decide +kernel
theorem dX7_frameOf_45 : decode cX7_frameOf 45 = .ok (.iload_n 2, 1) := by decide +kernel
theorem dX7_frameOf_46 : decode cX7_frameOf 46 = .ok (.iadd, 1) := by decide +kernel
theorem dX7_frameOf_47 : decode cX7_frameOf 47 = .ok (.invokevirtual 126, 3) := by decide +kernel
theorem dX7_frameOf_50 : decode cX7_frameOf 50 = .ok (.ireturn, 1) := by decide +kernel
theorem dX7_isReferenced_0 : decode cX7_isReferenced 0 = .ok (.aload_n 0, 1) := by decide +kernel
theorem dX7_isReferenced_1 : decode cX7_isReferenced 1 = .ok (.iload_n 1, 1) := by decide +kernel
theorem dX7_isReferenced_2 : decode cX7_isReferenced 2 = .ok (.iload_n 2, 1) := by decide +kernel
theorem dX7_isReferenced_3 : decode cX7_isReferenced 3 = .ok (.invokevirtual 91, 3) := by decide +kernel
theorem dX7_isReferenced_6 : decode cX7_isReferenced 6 = .ok (.ifCond .ne 40, 3) := by decide +kernel
theorem dX7_isReferenced_9 : decode cX7_isReferenced 9 = .ok (.aload_n 0, 1) := by decide +kernel
theorem dX7_isReferenced_10 : decode cX7_isReferenced 10 = .ok (.getfield 40, 3) := by decide +kernel
theorem dX7_isReferenced_13 : decode cX7_isReferenced 13 = .ok (.bipush 8, 2) := by decide +kernel
theorem dX7_isReferenced_15 : decode cX7_isReferenced 15 = .ok (.iload_n 1, 1) := by decide +kernel
theorem dX7_isReferenced_16 : decode cX7_isReferenced 16 = .ok (.imul, 1) := by decide +kernel
theorem dX7_isReferenced_17 : decode cX7_isReferenced 17 = .ok (.iload_n 2, 1) := by decide +kernel
theorem dX7_isReferenced_18 : decode cX7_isReferenced 18 = .ok (.iadd, 1) := by decide +kernel
theorem dX7_isReferenced_19 : decode cX7_isReferenced 19 = .ok (.iaload, 1) := by decide +kernel
theorem dX7_isReferenced_20 : decode cX7_isReferenced 20 = .ok (.iconst 1, 1) := by decide +kernel
theorem dX7_isReferenced_21 : decode cX7_isReferenced 21 = .ok (.if_icmp .ne 25, 3) := by decide +kernel
theorem dX7_isReferenced_24 : decode cX7_isReferenced 24 = .ok (.aload_n 0, 1) := by decide +kernel
theorem dX7_isReferenced_25 : decode cX7_isReferenced 25 = .ok (.getfield 50, 3) := by decide +kernel
theorem dX7_isReferenced_28 : decode cX7_isReferenced 28 = .ok (.aload_n 0, 1) := by decide +kernel
theorem dX7_isReferenced_29 : decode cX7_isReferenced 29 = .ok (.bipush 8, 2) := by decide +kernel
theorem dX7_isReferenced_31 : decode cX7_isReferenced 31 = .ok (.iload_n 1, 1) := by decide +kernel
theorem dX7_isReferenced_32 : decode cX7_isReferenced 32 = .ok (.imul, 1) := by decide +kernel
theorem dX7_isReferenced_33 : decode cX7_isReferenced 33 = .ok (.iload_n 2, 1) := by decide +kernel
theorem dX7_isReferenced_34 : decode cX7_isReferenced 34 = .ok (.iadd, 1) := by decide +kernel
theorem dX7_isReferenced_35 : decode cX7_isReferenced 35 = .ok (.invokevirtual 126, 3) := by decide +kernel
theorem dX7_isReferenced_38 : decode cX7_isReferenced 38 = .ok (.baload, 1) := by decide +kernel
theorem dX7_isReferenced_39 : decode cX7_isReferenced 39 = .ok (.ifCond .eq 7, 3) := by decide +kernel
theorem dX7_isReferenced_42 : decode cX7_isReferenced 42 = .ok (.iconst 1, 1) := by decide +kernel
theorem dX7_isReferenced_43 : decode cX7_isReferenced 43 = .ok (.goto 4, 3) := by decide +kernel
theorem dX7_isReferenced_46 : decode cX7_isReferenced 46 = .ok (.iconst 0, 1) := by decide +kernel
theorem dX7_isReferenced_47 : decode cX7_isReferenced 47 = .ok (.ireturn, 1) := by decide +kernel
theorem dX7_hand_0 : decode cX7_hand 0 = .ok (.aload_n 0, 1) := by decide +kernel
theorem dX7_hand_1 : decode cX7_hand 1 = .ok (.aload_n 0, 1) := by decide +kernel
theorem dX7_hand_2 : decode cX7_hand 2 = .ok (.getfield 114, 3) := by decide +kernel
theorem dX7_hand_5 : decode cX7_hand 5 = .ok (.invokevirtual 171, 3) := by decide +kernel
theorem dX7_hand_8 : decode cX7_hand 8 = .ok (.ireturn, 1) := by decide +kernel
theorem dX7_free_0 : decode cX7_free 0 = .ok (.aload_n 0, 1) := by decide +kernel
theorem dX7_free_1 : decode cX7_free 1 = .ok (.iconst 0, 1) := by decide +kernel
theorem dX7_free_2 : decode cX7_free 2 = .ok (.putfield 65, 3) := by decide +kernel
theorem dX7_free_5 : decode cX7_free 5 = .ok (.iconst 0, 1) := by decide +kernel
theorem dX7_free_6 : decode cX7_free 6 = .ok (.istore_n 1, 1) := by decide +kernel
theorem dX7_free_7 : decode cX7_free 7 = .ok (.iconst 0, 1) := by decide +kernel
theorem dX7_free_8 : decode cX7_free 8 = .ok (.istore_n 2, 1) := by decide +kernel
theorem dX7_free_9 : decode cX7_free 9 = .ok (.iload_n 2, 1) := by decide +kernel
theorem dX7_free_10 : decode cX7_free 10 = .ok (.aload_n 0, 1) := by decide +kernel
theorem dX7_free_11 : decode cX7_free 11 = .ok (.getfield 43, 3) := by decide +kernel
theorem dX7_free_14 : decode cX7_free 14 = .ok (.if_icmp .ge 26, 3) := by decide +kernel
theorem dX7_free_17 : decode cX7_free 17 = .ok (.iload_n 1, 1) := by decide +kernel
theorem dX7_free_18 : decode cX7_free 18 = .ok (.aload_n 0, 1) := by decide +kernel
theorem dX7_free_19 : decode cX7_free 19 = .ok (.getfield 47, 3) := by decide +kernel
theorem dX7_free_22 : decode cX7_free 22 = .ok (.iload_n 2, 1) := by decide +kernel
theorem dX7_free_23 : decode cX7_free 23 = .ok (.iaload, 1) := by decide +kernel
theorem dX7_free_24 : decode cX7_free 24 = .ok (.ifCond .ge 7, 3) := by decide +kernel
theorem dX7_free_27 : decode cX7_free 27 = .ok (.iconst 1, 1) := by decide +kernel
theorem dX7_free_28 : decode cX7_free 28 = .ok (.goto 4, 3) := by decide +kernel
theorem dX7_free_31 : decode cX7_free 31 = .ok (.iconst 0, 1) := by decide +kernel
theorem dX7_free_32 : decode cX7_free 32 = .ok (.iadd, 1) := by decide +kernel
theorem dX7_free_33 : decode cX7_free 33 = .ok (.istore_n 1, 1) := by decide +kernel
theorem dX7_free_34 : decode cX7_free 34 = .ok (.iinc 2 1, 3) := by decide +kernel
theorem dX7_free_37 : decode cX7_free 37 = .ok (.goto (-28), 3) := by decide +kernel
theorem dX7_free_40 : decode cX7_free 40 = .ok (.iload_n 1, 1) := by decide +kernel
theorem dX7_free_41 : decode cX7_free 41 = .ok (.ireturn, 1) := by decide +kernel
theorem dX7_stored_0 : decode cX7_stored 0 = .ok (.aload_n 0, 1) := by decide +kernel
theorem dX7_stored_1 : decode cX7_stored 1 = .ok (.aload_n 0, 1) := by decide +kernel
theorem dX7_stored_2 : decode cX7_stored 2 = .ok (.invokevirtual 97, 3) := by decide +kernel
theorem dX7_stored_5 : decode cX7_stored 5 = .ok (.invokevirtual 171, 3) := by decide +kernel
theorem dX7_stored_8 : decode cX7_stored 8 = .ok (.ireturn, 1) := by decide +kernel
theorem dX7_storedAt_0 : decode cX7_storedAt 0 = .ok (.aload_n 0, 1) := by decide +kernel
theorem dX7_storedAt_1 : decode cX7_storedAt 1 = .ok (.iload_n 1, 1) := by decide +kernel
theorem dX7_storedAt_2 : decode cX7_storedAt 2 = .ok (.iconst 0, 1) := by decide +kernel
theorem dX7_storedAt_3 : decode cX7_storedAt 3 = .ok (.aload_n 0, 1) := by decide +kernel
theorem dX7_storedAt_4 : decode cX7_storedAt 4 = .ok (.getfield 94, 3) := by decide +kernel
theorem dX7_storedAt_7 : decode cX7_storedAt 7 = .ok (.iconst 1, 1) := by decide +kernel
theorem dX7_storedAt_8 : decode cX7_storedAt 8 = .ok (.isub, 1) := by decide +kernel
theorem dX7_storedAt_9 : decode cX7_storedAt 9 = .ok (.invokestatic 71, 3) := by decide +kernel
theorem dX7_storedAt_12 : decode cX7_storedAt 12 = .ok (.ifCond .eq 7, 3) := by decide +kernel
theorem dX7_storedAt_15 : decode cX7_storedAt 15 = .ok (.iconst 0, 1) := by decide +kernel
theorem dX7_storedAt_16 : decode cX7_storedAt 16 = .ok (.goto 4, 3) := by decide +kernel
theorem dX7_storedAt_19 : decode cX7_storedAt 19 = .ok (.iconst 1, 1) := by decide +kernel
theorem dX7_storedAt_20 : decode cX7_storedAt 20 = .ok (.invokevirtual 79, 3) := by decide +kernel
theorem dX7_storedAt_23 : decode cX7_storedAt 23 = .ok (.ifCond .eq 7, 3) := by decide +kernel
theorem dX7_storedAt_26 : decode cX7_storedAt 26 = .ok (.iconst 0, 1) := by decide +kernel
theorem dX7_storedAt_27 : decode cX7_storedAt 27 = .ok (.goto 9, 3) := by decide +kernel
theorem dX7_storedAt_30 : decode cX7_storedAt 30 = .ok (.aload_n 0, 1) := by decide +kernel
theorem dX7_storedAt_31 : decode cX7_storedAt 31 = .ok (.getfield 56, 3) := by decide +kernel
theorem dX7_storedAt_34 : decode cX7_storedAt 34 = .ok (.iload_n 1, 1) := by decide +kernel
theorem dX7_storedAt_35 : decode cX7_storedAt 35 = .ok (.iaload, 1) := by decide +kernel
theorem dX7_storedAt_36 : decode cX7_storedAt 36 = .ok (.ireturn, 1) := by decide +kernel
theorem dX7_onDisk_0 : decode cX7_onDisk 0 = .ok (.aload_n 0, 1) := by decide +kernel
theorem dX7_onDisk_1 : decode cX7_onDisk 1 = .ok (.iconst 0, 1) := by decide +kernel
theorem dX7_onDisk_2 : decode cX7_onDisk 2 = .ok (.putfield 65, 3) := by decide +kernel
theorem dX7_onDisk_5 : decode cX7_onDisk 5 = .ok (.iconst 0, 1) := by decide +kernel
theorem dX7_onDisk_6 : decode cX7_onDisk 6 = .ok (.istore_n 1, 1) := by decide +kernel
theorem dX7_onDisk_7 : decode cX7_onDisk 7 = .ok (.iconst 0, 1) := by decide +kernel
theorem dX7_onDisk_8 : decode cX7_onDisk 8 = .ok (.istore_n 2, 1) := by decide +kernel
theorem dX7_onDisk_9 : decode cX7_onDisk 9 = .ok (.iload_n 2, 1) := by decide +kernel
theorem dX7_onDisk_10 : decode cX7_onDisk 10 = .ok (.aload_n 0, 1) := by decide +kernel
theorem dX7_onDisk_11 : decode cX7_onDisk 11 = .ok (.getfield 68, 3) := by decide +kernel
theorem dX7_onDisk_14 : decode cX7_onDisk 14 = .ok (.if_icmp .ge 18, 3) := by decide +kernel
theorem dX7_onDisk_17 : decode cX7_onDisk 17 = .ok (.iload_n 1, 1) := by decide +kernel
theorem dX7_onDisk_18 : decode cX7_onDisk 18 = .ok (.aload_n 0, 1) := by decide +kernel
theorem dX7_onDisk_19 : decode cX7_onDisk 19 = .ok (.iload_n 2, 1) := by decide +kernel
theorem dX7_onDisk_20 : decode cX7_onDisk 20 = .ok (.iconst 3, 1) := by decide +kernel
theorem dX7_onDisk_21 : decode cX7_onDisk 21 = .ok (.invokevirtual 146, 3) := by decide +kernel
theorem dX7_onDisk_24 : decode cX7_onDisk 24 = .ok (.iadd, 1) := by decide +kernel
theorem dX7_onDisk_25 : decode cX7_onDisk 25 = .ok (.istore_n 1, 1) := by decide +kernel
theorem dX7_onDisk_26 : decode cX7_onDisk 26 = .ok (.iinc 2 1, 3) := by decide +kernel
theorem dX7_onDisk_29 : decode cX7_onDisk 29 = .ok (.goto (-20), 3) := by decide +kernel
theorem dX7_onDisk_32 : decode cX7_onDisk 32 = .ok (.iload_n 1, 1) := by decide +kernel
theorem dX7_onDisk_33 : decode cX7_onDisk 33 = .ok (.ireturn, 1) := by decide +kernel
theorem dX7_pagesIn_0 : decode cX7_pagesIn 0 = .ok (.iload_n 2, 1) := by decide +kernel
theorem dX7_pagesIn_1 : decode cX7_pagesIn 1 = .ok (.bipush 102, 2) := by decide +kernel
theorem dX7_pagesIn_3 : decode cX7_pagesIn 3 = .ok (.if_icmp .ne 7, 3) := by decide +kernel
theorem dX7_pagesIn_6 : decode cX7_pagesIn 6 = .ok (.iconst 1, 1) := by decide +kernel
theorem dX7_pagesIn_7 : decode cX7_pagesIn 7 = .ok (.goto 34, 3) := by decide +kernel
theorem dX7_pagesIn_10 : decode cX7_pagesIn 10 = .ok (.iload_n 2, 1) := by decide +kernel
theorem dX7_pagesIn_11 : decode cX7_pagesIn 11 = .ok (.bipush 115, 2) := by decide +kernel
theorem dX7_pagesIn_13 : decode cX7_pagesIn 13 = .ok (.if_icmp .ne 7, 3) := by decide +kernel
theorem dX7_pagesIn_16 : decode cX7_pagesIn 16 = .ok (.iconst 2, 1) := by decide +kernel
theorem dX7_pagesIn_17 : decode cX7_pagesIn 17 = .ok (.goto 24, 3) := by decide +kernel
theorem dX7_pagesIn_20 : decode cX7_pagesIn 20 = .ok (.iload_n 2, 1) := by decide +kernel
theorem dX7_pagesIn_21 : decode cX7_pagesIn 21 = .ok (.bipush 100, 2) := by decide +kernel
theorem dX7_pagesIn_23 : decode cX7_pagesIn 23 = .ok (.if_icmp .ne 7, 3) := by decide +kernel
theorem dX7_pagesIn_26 : decode cX7_pagesIn 26 = .ok (.iconst 3, 1) := by decide +kernel
theorem dX7_pagesIn_27 : decode cX7_pagesIn 27 = .ok (.goto 14, 3) := by decide +kernel
theorem dX7_pagesIn_30 : decode cX7_pagesIn 30 = .ok (.iload_n 2, 1) := by decide +kernel
theorem dX7_pagesIn_31 : decode cX7_pagesIn 31 = .ok (.bipush 45, 2) := by decide +kernel
theorem dX7_pagesIn_33 : decode cX7_pagesIn 33 = .ok (.if_icmp .ne 7, 3) := by decide +kernel
theorem dX7_pagesIn_36 : decode cX7_pagesIn 36 = .ok (.iconst 0, 1) := by decide +kernel
theorem dX7_pagesIn_37 : decode cX7_pagesIn 37 = .ok (.goto 4, 3) := by decide +kernel
theorem dX7_pagesIn_40 : decode cX7_pagesIn 40 = .ok (.iconst (-1), 1) := by decide +kernel
theorem dX7_pagesIn_41 : decode cX7_pagesIn 41 = .ok (.istore_n 3, 1) := by decide +kernel
theorem dX7_pagesIn_42 : decode cX7_pagesIn 42 = .ok (.aload_n 0, 1) := by decide +kernel
theorem dX7_pagesIn_43 : decode cX7_pagesIn 43 = .ok (.aload_n 0, 1) := by decide +kernel
theorem dX7_pagesIn_44 : decode cX7_pagesIn 44 = .ok (.iload_n 1, 1) := by decide +kernel
theorem dX7_pagesIn_45 : decode cX7_pagesIn 45 = .ok (.invokevirtual 75, 3) := by decide +kernel
theorem dX7_pagesIn_48 : decode cX7_pagesIn 48 = .ok (.ifCond .eq 7, 3) := by decide +kernel
theorem dX7_pagesIn_51 : decode cX7_pagesIn 51 = .ok (.iconst 1, 1) := by decide +kernel
theorem dX7_pagesIn_52 : decode cX7_pagesIn 52 = .ok (.goto 12, 3) := by decide +kernel
theorem dX7_pagesIn_55 : decode cX7_pagesIn 55 = .ok (.iload_n 3, 1) := by decide +kernel
theorem dX7_pagesIn_56 : decode cX7_pagesIn 56 = .ok (.ifCond .ge 7, 3) := by decide +kernel
theorem dX7_pagesIn_59 : decode cX7_pagesIn 59 = .ok (.iconst 2, 1) := by decide +kernel
theorem dX7_pagesIn_60 : decode cX7_pagesIn 60 = .ok (.goto 4, 3) := by decide +kernel
theorem dX7_pagesIn_63 : decode cX7_pagesIn 63 = .ok (.iconst 0, 1) := by decide +kernel
theorem dX7_pagesIn_64 : decode cX7_pagesIn 64 = .ok (.invokevirtual 79, 3) := by decide +kernel
theorem dX7_pagesIn_67 : decode cX7_pagesIn 67 = .ok (.ifCond .eq 7, 3) := by decide +kernel
theorem dX7_pagesIn_70 : decode cX7_pagesIn 70 = .ok (.iconst 0, 1) := by decide +kernel
theorem dX7_pagesIn_71 : decode cX7_pagesIn 71 = .ok (.goto 9, 3) := by decide +kernel
theorem dX7_pagesIn_74 : decode cX7_pagesIn 74 = .ok (.aload_n 0, 1) := by decide +kernel
theorem dX7_pagesIn_75 : decode cX7_pagesIn 75 = .ok (.iload_n 1, 1) := by decide +kernel
theorem dX7_pagesIn_76 : decode cX7_pagesIn 76 = .ok (.iload_n 3, 1) := by decide +kernel
theorem dX7_pagesIn_77 : decode cX7_pagesIn 77 = .ok (.invokevirtual 146, 3) := by decide +kernel
theorem dX7_pagesIn_80 : decode cX7_pagesIn 80 = .ok (.ireturn, 1) := by decide +kernel
theorem dX7_pressure_0 : decode cX7_pressure 0 = .ok (.aload_n 0, 1) := by decide +kernel
theorem dX7_pressure_1 : decode cX7_pressure 1 = .ok (.aload_n 0, 1) := by decide +kernel
theorem dX7_pressure_2 : decode cX7_pressure 2 = .ok (.invokevirtual 156, 3) := by decide +kernel
theorem dX7_pressure_5 : decode cX7_pressure 5 = .ok (.invokevirtual 171, 3) := by decide +kernel
theorem dX7_pressure_8 : decode cX7_pressure 8 = .ok (.ireturn, 1) := by decide +kernel
theorem dX7_stallsOf_0 : decode cX7_stallsOf 0 = .ok (.aload_n 0, 1) := by decide +kernel
theorem dX7_stallsOf_1 : decode cX7_stallsOf 1 = .ok (.iload_n 1, 1) := by decide +kernel
theorem dX7_stallsOf_2 : decode cX7_stallsOf 2 = .ok (.invokevirtual 178, 3) := by decide +kernel
theorem dX7_stallsOf_5 : decode cX7_stallsOf 5 = .ok (.ifCond .eq 7, 3) := by decide +kernel
theorem dX7_stallsOf_8 : decode cX7_stallsOf 8 = .ok (.lconst 0, 1) := by decide +kernel
theorem dX7_stallsOf_9 : decode cX7_stallsOf 9 = .ok (.goto 9, 3) := by decide +kernel
theorem dX7_stallsOf_12 : decode cX7_stallsOf 12 = .ok (.aload_n 0, 1) := by decide +kernel
theorem dX7_stallsOf_13 : decode cX7_stallsOf 13 = .ok (.getfield 33, 3) := by decide +kernel
theorem dX7_stallsOf_16 : decode cX7_stallsOf 16 = .ok (.iload_n 1, 1) := by decide +kernel
theorem dX7_stallsOf_17 : decode cX7_stallsOf 17 = .ok (.laload, 1) := by decide +kernel
theorem dX7_stallsOf_18 : decode cX7_stallsOf 18 = .ok (.lreturn, 1) := by decide +kernel
theorem dX7_stateOf_0 : decode cX7_stateOf 0 = .ok (.aload_n 0, 1) := by decide +kernel
theorem dX7_stateOf_1 : decode cX7_stateOf 1 = .ok (.iload_n 1, 1) := by decide +kernel
theorem dX7_stateOf_2 : decode cX7_stateOf 2 = .ok (.invokevirtual 178, 3) := by decide +kernel
theorem dX7_stateOf_5 : decode cX7_stateOf 5 = .ok (.ifCond .eq 8, 3) := by decide +kernel
theorem dX7_stateOf_8 : decode cX7_stateOf 8 = .ok (.bipush 97, 2) := by decide +kernel
theorem dX7_stateOf_10 : decode cX7_stateOf 10 = .ok (.goto 32, 3) := by decide +kernel
theorem dX7_stateOf_13 : decode cX7_stateOf 13 = .ok (.aload_n 0, 1) := by decide +kernel
theorem dX7_stateOf_14 : decode cX7_stateOf 14 = .ok (.getfield 20, 3) := by decide +kernel
theorem dX7_stateOf_17 : decode cX7_stateOf 17 = .ok (.iload_n 1, 1) := by decide +kernel
theorem dX7_stateOf_18 : decode cX7_stateOf 18 = .ok (.baload, 1) := by decide +kernel
theorem dX7_stateOf_19 : decode cX7_stateOf 19 = .ok (.ifCond .eq 8, 3) := by decide +kernel
theorem dX7_stateOf_22 : decode cX7_stateOf 22 = .ok (.bipush 100, 2) := by decide +kernel
theorem dX7_stateOf_24 : decode cX7_stateOf 24 = .ok (.goto 18, 3) := by decide +kernel
theorem dX7_stateOf_27 : decode cX7_stateOf 27 = .ok (.aload_n 0, 1) := by decide +kernel
theorem dX7_stateOf_28 : decode cX7_stateOf 28 = .ok (.iload_n 1, 1) := by decide +kernel
theorem dX7_stateOf_29 : decode cX7_stateOf 29 = .ok (.invokevirtual 88, 3) := by decide +kernel
theorem dX7_stateOf_32 : decode cX7_stateOf 32 = .ok (.ifCond .eq 8, 3) := by decide +kernel
theorem dX7_stateOf_35 : decode cX7_stateOf 35 = .ok (.bipush 114, 2) := by decide +kernel
theorem dX7_stateOf_37 : decode cX7_stateOf 37 = .ok (.goto 5, 3) := by decide +kernel
theorem dX7_stateOf_40 : decode cX7_stateOf 40 = .ok (.bipush 119, 2) := by decide +kernel
theorem dX7_stateOf_42 : decode cX7_stateOf 42 = .ok (.ireturn, 1) := by decide +kernel
theorem dX7_waitsFor_0 : decode cX7_waitsFor 0 = .ok (.aload_n 0, 1) := by decide +kernel
theorem dX7_waitsFor_1 : decode cX7_waitsFor 1 = .ok (.iload_n 1, 1) := by decide +kernel
theorem dX7_waitsFor_2 : decode cX7_waitsFor 2 = .ok (.invokevirtual 178, 3) := by decide +kernel
theorem dX7_waitsFor_5 : decode cX7_waitsFor 5 = .ok (.ifCond .eq 5, 3) := by decide +kernel
theorem dX7_waitsFor_8 : decode cX7_waitsFor 8 = .ok (.iconst 0, 1) := by decide +kernel
theorem dX7_waitsFor_9 : decode cX7_waitsFor 9 = .ok (.ireturn, 1) := by decide +kernel
theorem dX7_waitsFor_10 : decode cX7_waitsFor 10 = .ok (.iconst 0, 1) := by decide +kernel
theorem dX7_waitsFor_11 : decode cX7_waitsFor 11 = .ok (.istore_n 2, 1) := by decide +kernel
theorem dX7_waitsFor_12 : decode cX7_waitsFor 12 = .ok (.iload_n 2, 1) := by decide +kernel
theorem dX7_waitsFor_13 : decode cX7_waitsFor 13 = .ok (.aload_n 0, 1) := by decide +kernel
theorem dX7_waitsFor_14 : decode cX7_waitsFor 14 = .ok (.getfield 68, 3) := by decide +kernel
theorem dX7_waitsFor_17 : decode cX7_waitsFor 17 = .ok (.if_icmp .ge 28, 3) := by decide +kernel
theorem dX7_waitsFor_20 : decode cX7_waitsFor 20 = .ok (.aload_n 0, 1) := by decide +kernel
theorem dX7_waitsFor_21 : decode cX7_waitsFor 21 = .ok (.iload_n 1, 1) := by decide +kernel
theorem dX7_waitsFor_22 : decode cX7_waitsFor 22 = .ok (.iload_n 2, 1) := by decide +kernel
theorem dX7_waitsFor_23 : decode cX7_waitsFor 23 = .ok (.invokevirtual 82, 3) := by decide +kernel
theorem dX7_waitsFor_26 : decode cX7_waitsFor 26 = .ok (.ifCond .eq 13, 3) := by decide +kernel
theorem dX7_waitsFor_29 : decode cX7_waitsFor 29 = .ok (.aload_n 0, 1) := by decide +kernel
theorem dX7_waitsFor_30 : decode cX7_waitsFor 30 = .ok (.iload_n 2, 1) := by decide +kernel
theorem dX7_waitsFor_31 : decode cX7_waitsFor 31 = .ok (.invokevirtual 88, 3) := by decide +kernel
theorem dX7_waitsFor_34 : decode cX7_waitsFor 34 = .ok (.ifCond .ne 5, 3) := by decide +kernel
theorem dX7_waitsFor_37 : decode cX7_waitsFor 37 = .ok (.iload_n 2, 1) := by decide +kernel
theorem dX7_waitsFor_38 : decode cX7_waitsFor 38 = .ok (.ireturn, 1) := by decide +kernel
theorem dX7_waitsFor_39 : decode cX7_waitsFor 39 = .ok (.iinc 2 1, 3) := by decide +kernel
theorem dX7_waitsFor_42 : decode cX7_waitsFor 42 = .ok (.goto (-30), 3) := by decide +kernel
theorem dX7_waitsFor_45 : decode cX7_waitsFor 45 = .ok (.aload_n 0, 1) := by decide +kernel
theorem dX7_waitsFor_46 : decode cX7_waitsFor 46 = .ok (.iconst 2, 1) := by decide +kernel
theorem dX7_waitsFor_47 : decode cX7_waitsFor 47 = .ok (.putfield 65, 3) := by decide +kernel
theorem dX7_waitsFor_50 : decode cX7_waitsFor 50 = .ok (.iconst 0, 1) := by decide +kernel
theorem dX7_waitsFor_51 : decode cX7_waitsFor 51 = .ok (.ireturn, 1) := by decide +kernel
theorem dX7_isNeeded_0 : decode cX7_isNeeded 0 = .ok (.aload_n 0, 1) := by decide +kernel
theorem dX7_isNeeded_1 : decode cX7_isNeeded 1 = .ok (.iload_n 1, 1) := by decide +kernel
theorem dX7_isNeeded_2 : decode cX7_isNeeded 2 = .ok (.invokevirtual 178, 3) := by decide +kernel
theorem dX7_isNeeded_5 : decode cX7_isNeeded 5 = .ok (.ifCond .ne 15, 3) := by decide +kernel
theorem dX7_isNeeded_8 : decode cX7_isNeeded 8 = .ok (.aload_n 0, 1) := by decide +kernel
theorem dX7_isNeeded_9 : decode cX7_isNeeded 9 = .ok (.iload_n 1, 1) := by decide +kernel
theorem dX7_isNeeded_10 : decode cX7_isNeeded 10 = .ok (.invokevirtual 165, 3) := by decide +kernel
theorem dX7_isNeeded_13 : decode cX7_isNeeded 13 = .ok (.ifCond .eq 7, 3) := by decide +kernel
theorem dX7_isNeeded_16 : decode cX7_isNeeded 16 = .ok (.iconst 1, 1) := by decide +kernel
theorem dX7_isNeeded_17 : decode cX7_isNeeded 17 = .ok (.goto 4, 3) := by decide +kernel
theorem dX7_isNeeded_20 : decode cX7_isNeeded 20 = .ok (.iconst 0, 1) := by decide +kernel
theorem dX7_isNeeded_21 : decode cX7_isNeeded 21 = .ok (.ireturn, 1) := by decide +kernel
theorem dX7_startsIn_0 : decode cX7_startsIn 0 = .ok (.aload_n 0, 1) := by decide +kernel
theorem dX7_startsIn_1 : decode cX7_startsIn 1 = .ok (.iload_n 1, 1) := by decide +kernel
theorem dX7_startsIn_2 : decode cX7_startsIn 2 = .ok (.invokevirtual 178, 3) := by decide +kernel
theorem dX7_startsIn_5 : decode cX7_startsIn 5 = .ok (.ifCond .ne 24, 3) := by decide +kernel
theorem dX7_startsIn_8 : decode cX7_startsIn 8 = .ok (.aload_n 0, 1) := by decide +kernel
theorem dX7_startsIn_9 : decode cX7_startsIn 9 = .ok (.aload_n 0, 1) := by decide +kernel
theorem dX7_startsIn_10 : decode cX7_startsIn 10 = .ok (.getfield 20, 3) := by decide +kernel
theorem dX7_startsIn_13 : decode cX7_startsIn 13 = .ok (.iload_n 1, 1) := by decide +kernel
theorem dX7_startsIn_14 : decode cX7_startsIn 14 = .ok (.baload, 1) := by decide +kernel
theorem dX7_startsIn_15 : decode cX7_startsIn 15 = .ok (.ifCond .eq 7, 3) := by decide +kernel
theorem dX7_startsIn_18 : decode cX7_startsIn 18 = .ok (.iconst 0, 1) := by decide +kernel
theorem dX7_startsIn_19 : decode cX7_startsIn 19 = .ok (.goto 4, 3) := by decide +kernel
theorem dX7_startsIn_22 : decode cX7_startsIn 22 = .ok (.iconst 2, 1) := by decide +kernel
theorem dX7_startsIn_23 : decode cX7_startsIn 23 = .ok (.invokevirtual 79, 3) := by decide +kernel
theorem dX7_startsIn_26 : decode cX7_startsIn 26 = .ok (.ifCond .eq 5, 3) := by decide +kernel
theorem dX7_startsIn_29 : decode cX7_startsIn 29 = .ok (.iconst 0, 1) := by decide +kernel
theorem dX7_startsIn_30 : decode cX7_startsIn 30 = .ok (.ireturn, 1) := by decide +kernel
theorem dX7_startsIn_31 : decode cX7_startsIn 31 = .ok (.aload_n 0, 1) := by decide +kernel
theorem dX7_startsIn_32 : decode cX7_startsIn 32 = .ok (.getfield 17, 3) := by decide +kernel
theorem dX7_startsIn_35 : decode cX7_startsIn 35 = .ok (.iload_n 1, 1) := by decide +kernel
theorem dX7_startsIn_36 : decode cX7_startsIn 36 = .ok (.iaload, 1) := by decide +kernel
theorem dX7_startsIn_37 : decode cX7_startsIn 37 = .ok (.aload_n 0, 1) := by decide +kernel
theorem dX7_startsIn_38 : decode cX7_startsIn 38 = .ok (.getfield 133, 3) := by decide +kernel
theorem dX7_startsIn_41 : decode cX7_startsIn 41 = .ok (.aload_n 0, 1) := by decide +kernel
theorem dX7_startsIn_42 : decode cX7_startsIn 42 = .ok (.getfield 24, 3) := by decide +kernel
theorem dX7_startsIn_45 : decode cX7_startsIn 45 = .ok (.iload_n 1, 1) := by decide +kernel
theorem dX7_startsIn_46 : decode cX7_startsIn 46 = .ok (.iaload, 1) := by decide +kernel
theorem dX7_startsIn_47 : decode cX7_startsIn 47 = .ok (.isub, 1) := by decide +kernel
theorem dX7_startsIn_48 : decode cX7_startsIn 48 = .ok (.isub, 1) := by decide +kernel
theorem dX7_startsIn_49 : decode cX7_startsIn 49 = .ok (.istore_n 2, 1) := by decide +kernel
theorem dX7_startsIn_50 : decode cX7_startsIn 50 = .ok (.iload_n 2, 1) := by decide +kernel
theorem dX7_startsIn_51 : decode cX7_startsIn 51 = .ok (.iconst 1, 1) := by decide +kernel
theorem dX7_startsIn_52 : decode cX7_startsIn 52 = .ok (.if_icmp .ge 7, 3) := by decide +kernel
theorem dX7_startsIn_55 : decode cX7_startsIn 55 = .ok (.iconst 1, 1) := by decide +kernel
theorem dX7_startsIn_56 : decode cX7_startsIn 56 = .ok (.goto 4, 3) := by decide +kernel
theorem dX7_startsIn_59 : decode cX7_startsIn 59 = .ok (.iload_n 2, 1) := by decide +kernel
theorem dX7_startsIn_60 : decode cX7_startsIn 60 = .ok (.ireturn, 1) := by decide +kernel
theorem dX7_starts_0 : decode cX7_starts 0 = .ok (.aload_n 0, 1) := by decide +kernel
theorem dX7_starts_1 : decode cX7_starts 1 = .ok (.iload_n 1, 1) := by decide +kernel
theorem dX7_starts_2 : decode cX7_starts 2 = .ok (.invokevirtual 178, 3) := by decide +kernel
theorem dX7_starts_5 : decode cX7_starts 5 = .ok (.ifCond .eq 7, 3) := by decide +kernel
theorem dX7_starts_8 : decode cX7_starts 8 = .ok (.iconst 0, 1) := by decide +kernel
theorem dX7_starts_9 : decode cX7_starts 9 = .ok (.goto 9, 3) := by decide +kernel
theorem dX7_starts_12 : decode cX7_starts 12 = .ok (.aload_n 0, 1) := by decide +kernel
theorem dX7_starts_13 : decode cX7_starts 13 = .ok (.getfield 27, 3) := by decide +kernel
theorem dX7_starts_16 : decode cX7_starts 16 = .ok (.iload_n 1, 1) := by decide +kernel
theorem dX7_starts_17 : decode cX7_starts 17 = .ok (.iaload, 1) := by decide +kernel
theorem dX7_starts_18 : decode cX7_starts 18 = .ok (.ireturn, 1) := by decide +kernel
theorem dX7_score_0 : decode cX7_score 0 = .ok (.aload_n 0, 1) := by decide +kernel
theorem dX7_score_1 : decode cX7_score 1 = .ok (.iload_n 1, 1) := by decide +kernel
theorem dX7_score_2 : decode cX7_score 2 = .ok (.invokevirtual 178, 3) := by decide +kernel
theorem dX7_score_5 : decode cX7_score 5 = .ok (.ifCond .eq 7, 3) := by decide +kernel
theorem dX7_score_8 : decode cX7_score 8 = .ok (.iconst 0, 1) := by decide +kernel
theorem dX7_score_9 : decode cX7_score 9 = .ok (.goto 8, 3) := by decide +kernel
theorem dX7_score_12 : decode cX7_score 12 = .ok (.aload_n 0, 1) := by decide +kernel
theorem dX7_score_13 : decode cX7_score 13 = .ok (.iload_n 1, 1) := by decide +kernel
theorem dX7_score_14 : decode cX7_score 14 = .ok (.invokevirtual 150, 3) := by decide +kernel
theorem dX7_score_17 : decode cX7_score 17 = .ok (.ireturn, 1) := by decide +kernel
theorem dX7_victim_0 : decode cX7_victim 0 = .ok (.aload_n 0, 1) := by decide +kernel
theorem dX7_victim_1 : decode cX7_victim 1 = .ok (.aload_n 0, 1) := by decide +kernel
theorem dX7_victim_2 : decode cX7_victim 2 = .ok (.invokevirtual 159, 3) := by decide +kernel
theorem dX7_victim_5 : decode cX7_victim 5 = .ok (.ifCond .ge 7, 3) := by decide +kernel
theorem dX7_victim_8 : decode cX7_victim 8 = .ok (.iconst 1, 1) := by decide +kernel
theorem dX7_victim_9 : decode cX7_victim 9 = .ok (.goto 4, 3) := by decide +kernel
theorem dX7_victim_12 : decode cX7_victim 12 = .ok (.iconst 0, 1) := by decide +kernel
theorem dX7_victim_13 : decode cX7_victim 13 = .ok (.invokevirtual 79, 3) := by decide +kernel
theorem dX7_victim_16 : decode cX7_victim 16 = .ok (.ifCond .eq 7, 3) := by decide +kernel
theorem dX7_victim_19 : decode cX7_victim 19 = .ok (.iconst 0, 1) := by decide +kernel
theorem dX7_victim_20 : decode cX7_victim 20 = .ok (.goto 7, 3) := by decide +kernel
theorem dX7_victim_23 : decode cX7_victim 23 = .ok (.aload_n 0, 1) := by decide +kernel
theorem dX7_victim_24 : decode cX7_victim 24 = .ok (.invokevirtual 159, 3) := by decide +kernel
theorem dX7_victim_27 : decode cX7_victim 27 = .ok (.ireturn, 1) := by decide +kernel
theorem dX7_deaths_0 : decode cX7_deaths 0 = .ok (.aload_n 0, 1) := by decide +kernel
theorem dX7_deaths_1 : decode cX7_deaths 1 = .ok (.aload_n 0, 1) := by decide +kernel
theorem dX7_deaths_2 : decode cX7_deaths 2 = .ok (.getfield 153, 3) := by decide +kernel
theorem dX7_deaths_5 : decode cX7_deaths 5 = .ok (.invokevirtual 171, 3) := by decide +kernel
theorem dX7_deaths_8 : decode cX7_deaths 8 = .ok (.ireturn, 1) := by decide +kernel
theorem dX7_smoothShare_0 : decode cX7_smoothShare 0 = .ok (.aload_n 0, 1) := by decide +kernel
theorem dX7_smoothShare_1 : decode cX7_smoothShare 1 = .ok (.aload_n 0, 1) := by decide +kernel
theorem dX7_smoothShare_2 : decode cX7_smoothShare 2 = .ok (.getfield 140, 3) := by decide +kernel
theorem dX7_smoothShare_5 : decode cX7_smoothShare 5 = .ok (.ifCond .ne 7, 3) := by decide +kernel
theorem dX7_smoothShare_8 : decode cX7_smoothShare 8 = .ok (.iconst 1, 1) := by decide +kernel
theorem dX7_smoothShare_9 : decode cX7_smoothShare 9 = .ok (.goto 4, 3) := by decide +kernel
theorem dX7_smoothShare_12 : decode cX7_smoothShare 12 = .ok (.iconst 0, 1) := by decide +kernel
theorem dX7_smoothShare_13 : decode cX7_smoothShare 13 = .ok (.invokevirtual 79, 3) := by decide +kernel
theorem dX7_smoothShare_16 : decode cX7_smoothShare 16 = .ok (.ifCond .eq 7, 3) := by decide +kernel
theorem dX7_smoothShare_19 : decode cX7_smoothShare 19 = .ok (.fconst 0, 1) := by decide +kernel
theorem dX7_smoothShare_20 : decode cX7_smoothShare 20 = .ok (.goto 14, 3) := by decide +kernel
theorem dX7_smoothShare_23 : decode cX7_smoothShare 23 = .ok (.aload_n 0, 1) := by decide +kernel
theorem dX7_smoothShare_24 : decode cX7_smoothShare 24 = .ok (.getfield 143, 3) := by decide +kernel
theorem dX7_smoothShare_27 : decode cX7_smoothShare 27 = .ok (.i2f, 1) := by decide +kernel
theorem dX7_smoothShare_28 : decode cX7_smoothShare 28 = .ok (.aload_n 0, 1) := by decide +kernel
theorem dX7_smoothShare_29 : decode cX7_smoothShare 29 = .ok (.getfield 140, 3) := by decide +kernel
theorem dX7_smoothShare_32 : decode cX7_smoothShare 32 = .ok (.i2f, 1) := by decide +kernel
theorem dX7_smoothShare_33 : decode cX7_smoothShare 33 = .ok (.fdiv, 1) := by decide +kernel
theorem dX7_smoothShare_34 : decode cX7_smoothShare 34 = .ok (.freturn, 1) := by decide +kernel
theorem dX7_meanStalls_0 : decode cX7_meanStalls 0 = .ok (.aload_n 0, 1) := by decide +kernel
theorem dX7_meanStalls_1 : decode cX7_meanStalls 1 = .ok (.aload_n 0, 1) := by decide +kernel
theorem dX7_meanStalls_2 : decode cX7_meanStalls 2 = .ok (.getfield 140, 3) := by decide +kernel
theorem dX7_meanStalls_5 : decode cX7_meanStalls 5 = .ok (.ifCond .ne 7, 3) := by decide +kernel
theorem dX7_meanStalls_8 : decode cX7_meanStalls 8 = .ok (.iconst 1, 1) := by decide +kernel
theorem dX7_meanStalls_9 : decode cX7_meanStalls 9 = .ok (.goto 4, 3) := by decide +kernel
theorem dX7_meanStalls_12 : decode cX7_meanStalls 12 = .ok (.iconst 0, 1) := by decide +kernel
theorem dX7_meanStalls_13 : decode cX7_meanStalls 13 = .ok (.invokevirtual 79, 3) := by decide +kernel
theorem dX7_meanStalls_16 : decode cX7_meanStalls 16 = .ok (.ifCond .eq 7, 3) := by decide +kernel
theorem dX7_meanStalls_19 : decode cX7_meanStalls 19 = .ok (.dconst 0, 1) := by decide +kernel
theorem dX7_meanStalls_20 : decode cX7_meanStalls 20 = .ok (.goto 14, 3) := by decide +kernel
theorem dX7_meanStalls_23 : decode cX7_meanStalls 23 = .ok (.aload_n 0, 1) := by decide +kernel
theorem dX7_meanStalls_24 : decode cX7_meanStalls 24 = .ok (.getfield 136, 3) := by decide +kernel
theorem dX7_meanStalls_27 : decode cX7_meanStalls 27 = .ok (.l2d, 1) := by decide +kernel
theorem dX7_meanStalls_28 : decode cX7_meanStalls 28 = .ok (.aload_n 0, 1) := by decide +kernel
theorem dX7_meanStalls_29 : decode cX7_meanStalls 29 = .ok (.getfield 140, 3) := by decide +kernel
theorem dX7_meanStalls_32 : decode cX7_meanStalls 32 = .ok (.i2d, 1) := by decide +kernel
theorem dX7_meanStalls_33 : decode cX7_meanStalls 33 = .ok (.ddiv, 1) := by decide +kernel
theorem dX7_meanStalls_34 : decode cX7_meanStalls 34 = .ok (.dreturn, 1) := by decide +kernel
theorem dX7_isSound_0 : decode cX7_isSound 0 = .ok (.aload_n 0, 1) := by decide +kernel
theorem dX7_isSound_1 : decode cX7_isSound 1 = .ok (.iconst 0, 1) := by decide +kernel
theorem dX7_isSound_2 : decode cX7_isSound 2 = .ok (.putfield 65, 3) := by decide +kernel
theorem dX7_isSound_5 : decode cX7_isSound 5 = .ok (.iconst 0, 1) := by decide +kernel
theorem dX7_isSound_6 : decode cX7_isSound 6 = .ok (.istore_n 1, 1) := by decide +kernel
theorem dX7_isSound_7 : decode cX7_isSound 7 = .ok (.iconst 0, 1) := by decide +kernel
theorem dX7_isSound_8 : decode cX7_isSound 8 = .ok (.istore_n 2, 1) := by decide +kernel
theorem dX7_isSound_9 : decode cX7_isSound 9 = .ok (.iload_n 2, 1) := by decide +kernel
theorem dX7_isSound_10 : decode cX7_isSound 10 = .ok (.aload_n 0, 1) := by decide +kernel
theorem dX7_isSound_11 : decode cX7_isSound 11 = .ok (.getfield 68, 3) := by decide +kernel
theorem dX7_isSound_14 : decode cX7_isSound 14 = .ok (.if_icmp .ge 18, 3) := by decide +kernel
theorem dX7_isSound_17 : decode cX7_isSound 17 = .ok (.iload_n 1, 1) := by decide +kernel
theorem dX7_isSound_18 : decode cX7_isSound 18 = .ok (.aload_n 0, 1) := by decide +kernel
theorem dX7_isSound_19 : decode cX7_isSound 19 = .ok (.iload_n 2, 1) := by decide +kernel
theorem dX7_isSound_20 : decode cX7_isSound 20 = .ok (.iconst 1, 1) := by decide +kernel
theorem dX7_isSound_21 : decode cX7_isSound 21 = .ok (.invokevirtual 146, 3) := by decide +kernel
theorem dX7_isSound_24 : decode cX7_isSound 24 = .ok (.iadd, 1) := by decide +kernel
theorem dX7_isSound_25 : decode cX7_isSound 25 = .ok (.istore_n 1, 1) := by decide +kernel
theorem dX7_isSound_26 : decode cX7_isSound 26 = .ok (.iinc 2 1, 3) := by decide +kernel
theorem dX7_isSound_29 : decode cX7_isSound 29 = .ok (.goto (-20), 3) := by decide +kernel
theorem dX7_isSound_32 : decode cX7_isSound 32 = .ok (.iconst 0, 1) := by decide +kernel
theorem dX7_isSound_33 : decode cX7_isSound 33 = .ok (.istore_n 2, 1) := by decide +kernel
theorem dX7_isSound_34 : decode cX7_isSound 34 = .ok (.iconst 0, 1) := by decide +kernel
theorem dX7_isSound_35 : decode cX7_isSound 35 = .ok (.istore_n 3, 1) := by decide +kernel
theorem dX7_isSound_36 : decode cX7_isSound 36 = .ok (.iload_n 3, 1) := by decide +kernel
theorem dX7_isSound_37 : decode cX7_isSound 37 = .ok (.aload_n 0, 1) := by decide +kernel
theorem dX7_isSound_38 : decode cX7_isSound 38 = .ok (.getfield 43, 3) := by decide +kernel
theorem dX7_isSound_41 : decode cX7_isSound 41 = .ok (.if_icmp .ge 26, 3) := by decide +kernel
theorem dX7_isSound_44 : decode cX7_isSound 44 = .ok (.iload_n 2, 1) := by decide +kernel
theorem dX7_isSound_45 : decode cX7_isSound 45 = .ok (.aload_n 0, 1) := by decide +kernel
theorem dX7_isSound_46 : decode cX7_isSound 46 = .ok (.getfield 47, 3) := by decide +kernel
theorem dX7_isSound_49 : decode cX7_isSound 49 = .ok (.iload_n 3, 1) := by decide +kernel
theorem dX7_isSound_50 : decode cX7_isSound 50 = .ok (.iaload, 1) := by decide +kernel
theorem dX7_isSound_51 : decode cX7_isSound 51 = .ok (.ifCond .ge 7, 3) := by decide +kernel
theorem dX7_isSound_54 : decode cX7_isSound 54 = .ok (.iconst 0, 1) := by decide +kernel
theorem dX7_isSound_55 : decode cX7_isSound 55 = .ok (.goto 4, 3) := by decide +kernel
theorem dX7_isSound_58 : decode cX7_isSound 58 = .ok (.iconst 1, 1) := by decide +kernel
theorem dX7_isSound_59 : decode cX7_isSound 59 = .ok (.iadd, 1) := by decide +kernel
theorem dX7_isSound_60 : decode cX7_isSound 60 = .ok (.istore_n 2, 1) := by decide +kernel
theorem dX7_isSound_61 : decode cX7_isSound 61 = .ok (.iinc 3 1, 3) := by decide +kernel
theorem dX7_isSound_64 : decode cX7_isSound 64 = .ok (.goto (-28), 3) := by decide +kernel
theorem dX7_isSound_67 : decode cX7_isSound 67 = .ok (.iload_n 1, 1) := by decide +kernel
theorem dX7_isSound_68 : decode cX7_isSound 68 = .ok (.iload_n 2, 1) := by decide +kernel
theorem dX7_isSound_69 : decode cX7_isSound 69 = .ok (.if_icmp .ne 18, 3) := by decide +kernel
theorem dX7_isSound_72 : decode cX7_isSound 72 = .ok (.aload_n 0, 1) := by decide +kernel
theorem dX7_isSound_73 : decode cX7_isSound 73 = .ok (.invokevirtual 97, 3) := by decide +kernel
theorem dX7_isSound_76 : decode cX7_isSound 76 = .ok (.aload_n 0, 1) := by decide +kernel
theorem dX7_isSound_77 : decode cX7_isSound 77 = .ok (.getfield 53, 3) := by decide +kernel
theorem dX7_isSound_80 : decode cX7_isSound 80 = .ok (.if_icmp .gt 7, 3) := by decide +kernel
theorem dX7_isSound_83 : decode cX7_isSound 83 = .ok (.iconst 1, 1) := by decide +kernel
theorem dX7_isSound_84 : decode cX7_isSound 84 = .ok (.goto 4, 3) := by decide +kernel
theorem dX7_isSound_87 : decode cX7_isSound 87 = .ok (.iconst 0, 1) := by decide +kernel
theorem dX7_isSound_88 : decode cX7_isSound 88 = .ok (.ireturn, 1) := by decide +kernel
theorem dJx00060_init_a7421_0 : decode cJx00060_init_a7421 0 = .ok (.aload_n 0, 1) := by decide +kernel
theorem dJx00060_init_a7421_1 : decode cJx00060_init_a7421 1 = .ok (.aload_n 1, 1) := by decide +kernel
theorem dJx00060_init_a7421_2 : decode cJx00060_init_a7421 2 = .ok (.invokespecial 7, 3) := by decide +kernel
theorem dJx00060_init_a7421_5 : decode cJx00060_init_a7421 5 = .ok (.return_, 1) := by decide +kernel
theorem dJ6_bitCount_0f7a4_0 : decode cJ6_bitCount_0f7a4 0 = .ok (.iload_n 0, 1) := by decide +kernel
theorem dJ6_bitCount_0f7a4_1 : decode cJ6_bitCount_0f7a4 1 = .ok (.iload_n 0, 1) := by decide +kernel
theorem dJ6_bitCount_0f7a4_2 : decode cJ6_bitCount_0f7a4 2 = .ok (.iconst 1, 1) := by decide +kernel
theorem dJ6_bitCount_0f7a4_3 : decode cJ6_bitCount_0f7a4 3 = .ok (.iushr, 1) := by decide +kernel
theorem dJ6_bitCount_0f7a4_4 : decode cJ6_bitCount_0f7a4 4 = .ok (.ldc_w 265, 3) := by decide +kernel
theorem dJ6_bitCount_0f7a4_7 : decode cJ6_bitCount_0f7a4 7 = .ok (.iand, 1) := by decide +kernel
theorem dJ6_bitCount_0f7a4_8 : decode cJ6_bitCount_0f7a4 8 = .ok (.isub, 1) := by decide +kernel
theorem dJ6_bitCount_0f7a4_9 : decode cJ6_bitCount_0f7a4 9 = .ok (.istore_n 0, 1) := by decide +kernel
theorem dJ6_bitCount_0f7a4_10 : decode cJ6_bitCount_0f7a4 10 = .ok (.iload_n 0, 1) := by decide +kernel
theorem dJ6_bitCount_0f7a4_11 : decode cJ6_bitCount_0f7a4 11 = .ok (.ldc_w 266, 3) := by decide +kernel
theorem dJ6_bitCount_0f7a4_14 : decode cJ6_bitCount_0f7a4 14 = .ok (.iand, 1) := by decide +kernel
theorem dJ6_bitCount_0f7a4_15 : decode cJ6_bitCount_0f7a4 15 = .ok (.iload_n 0, 1) := by decide +kernel
theorem dJ6_bitCount_0f7a4_16 : decode cJ6_bitCount_0f7a4 16 = .ok (.iconst 2, 1) := by decide +kernel
theorem dJ6_bitCount_0f7a4_17 : decode cJ6_bitCount_0f7a4 17 = .ok (.iushr, 1) := by decide +kernel
theorem dJ6_bitCount_0f7a4_18 : decode cJ6_bitCount_0f7a4 18 = .ok (.ldc_w 266, 3) := by decide +kernel
theorem dJ6_bitCount_0f7a4_21 : decode cJ6_bitCount_0f7a4 21 = .ok (.iand, 1) := by decide +kernel
theorem dJ6_bitCount_0f7a4_22 : decode cJ6_bitCount_0f7a4 22 = .ok (.iadd, 1) := by decide +kernel
theorem dJ6_bitCount_0f7a4_23 : decode cJ6_bitCount_0f7a4 23 = .ok (.istore_n 0, 1) := by decide +kernel
theorem dJ6_bitCount_0f7a4_24 : decode cJ6_bitCount_0f7a4 24 = .ok (.iload_n 0, 1) := by decide +kernel
theorem dJ6_bitCount_0f7a4_25 : decode cJ6_bitCount_0f7a4 25 = .ok (.iload_n 0, 1) := by decide +kernel
theorem dJ6_bitCount_0f7a4_26 : decode cJ6_bitCount_0f7a4 26 = .ok (.iconst 4, 1) := by decide +kernel
theorem dJ6_bitCount_0f7a4_27 : decode cJ6_bitCount_0f7a4 27 = .ok (.iushr, 1) := by decide +kernel
theorem dJ6_bitCount_0f7a4_28 : decode cJ6_bitCount_0f7a4 28 = .ok (.iadd, 1) := by decide +kernel
theorem dJ6_bitCount_0f7a4_29 : decode cJ6_bitCount_0f7a4 29 = .ok (.ldc_w 267, 3) := by decide +kernel
theorem dJ6_bitCount_0f7a4_32 : decode cJ6_bitCount_0f7a4 32 = .ok (.iand, 1) := by decide +kernel
theorem dJ6_bitCount_0f7a4_33 : decode cJ6_bitCount_0f7a4 33 = .ok (.istore_n 0, 1) := by decide +kernel
theorem dJ6_bitCount_0f7a4_34 : decode cJ6_bitCount_0f7a4 34 = .ok (.iload_n 0, 1) := by decide +kernel
theorem dJ6_bitCount_0f7a4_35 : decode cJ6_bitCount_0f7a4 35 = .ok (.iload_n 0, 1) := by decide +kernel
theorem dJ6_bitCount_0f7a4_36 : decode cJ6_bitCount_0f7a4 36 = .ok (.bipush 8, 2) := by decide +kernel
theorem dJ6_bitCount_0f7a4_38 : decode cJ6_bitCount_0f7a4 38 = .ok (.iushr, 1) := by decide +kernel
theorem dJ6_bitCount_0f7a4_39 : decode cJ6_bitCount_0f7a4 39 = .ok (.iadd, 1) := by decide +kernel
theorem dJ6_bitCount_0f7a4_40 : decode cJ6_bitCount_0f7a4 40 = .ok (.istore_n 0, 1) := by decide +kernel
theorem dJ6_bitCount_0f7a4_41 : decode cJ6_bitCount_0f7a4 41 = .ok (.iload_n 0, 1) := by decide +kernel
theorem dJ6_bitCount_0f7a4_42 : decode cJ6_bitCount_0f7a4 42 = .ok (.iload_n 0, 1) := by decide +kernel
theorem dJ6_bitCount_0f7a4_43 : decode cJ6_bitCount_0f7a4 43 = .ok (.bipush 16, 2) := by decide +kernel
theorem dJ6_bitCount_0f7a4_45 : decode cJ6_bitCount_0f7a4 45 = .ok (.iushr, 1) := by decide +kernel
theorem dJ6_bitCount_0f7a4_46 : decode cJ6_bitCount_0f7a4 46 = .ok (.iadd, 1) := by decide +kernel
theorem dJ6_bitCount_0f7a4_47 : decode cJ6_bitCount_0f7a4 47 = .ok (.istore_n 0, 1) := by decide +kernel
theorem dJ6_bitCount_0f7a4_48 : decode cJ6_bitCount_0f7a4 48 = .ok (.iload_n 0, 1) := by decide +kernel
theorem dJ6_bitCount_0f7a4_49 : decode cJ6_bitCount_0f7a4 49 = .ok (.bipush 63, 2) := by decide +kernel
theorem dJ6_bitCount_0f7a4_51 : decode cJ6_bitCount_0f7a4 51 = .ok (.iand, 1) := by decide +kernel
theorem dJ6_bitCount_0f7a4_52 : decode cJ6_bitCount_0f7a4 52 = .ok (.ireturn, 1) := by decide +kernel
theorem dJ9_max_7cf53_0 : decode cJ9_max_7cf53 0 = .ok (.iload_n 0, 1) := by decide +kernel
theorem dJ9_max_7cf53_1 : decode cJ9_max_7cf53 1 = .ok (.iload_n 1, 1) := by decide +kernel
theorem dJ9_max_7cf53_2 : decode cJ9_max_7cf53 2 = .ok (.if_icmp .lt 7, 3) := by decide +kernel
theorem dJ9_max_7cf53_5 : decode cJ9_max_7cf53 5 = .ok (.iload_n 0, 1) := by decide +kernel
theorem dJ9_max_7cf53_6 : decode cJ9_max_7cf53 6 = .ok (.goto 4, 3) := by decide +kernel
theorem dJ9_max_7cf53_9 : decode cJ9_max_7cf53 9 = .ok (.iload_n 1, 1) := by decide +kernel
theorem dJ9_max_7cf53_10 : decode cJ9_max_7cf53 10 = .ok (.ireturn, 1) := by decide +kernel
theorem dJ9_min_7cf53_0 : decode cJ9_min_7cf53 0 = .ok (.iload_n 0, 1) := by decide +kernel
theorem dJ9_min_7cf53_1 : decode cJ9_min_7cf53 1 = .ok (.iload_n 1, 1) := by decide +kernel
theorem dJ9_min_7cf53_2 : decode cJ9_min_7cf53 2 = .ok (.if_icmp .gt 7, 3) := by decide +kernel
theorem dJ9_min_7cf53_5 : decode cJ9_min_7cf53 5 = .ok (.iload_n 0, 1) := by decide +kernel
theorem dJ9_min_7cf53_6 : decode cJ9_min_7cf53 6 = .ok (.goto 4, 3) := by decide +kernel
theorem dJ9_min_7cf53_9 : decode cJ9_min_7cf53 9 = .ok (.iload_n 1, 1) := by decide +kernel
theorem dJ9_min_7cf53_10 : decode cJ9_min_7cf53 10 = .ok (.ireturn, 1) := by decide +kernel
theorem dJxa1e45_init_da8c8_0 : decode cJxa1e45_init_da8c8 0 = .ok (.aload_n 0, 1) := by decide +kernel
theorem dJxa1e45_init_da8c8_1 : decode cJxa1e45_init_da8c8 1 = .ok (.invokespecial 1, 3) := by decide +kernel
theorem dJxa1e45_init_da8c8_4 : decode cJxa1e45_init_da8c8 4 = .ok (.return_, 1) := by decide +kernel
theorem dJxc12de_init_da8c8_0 : decode cJxc12de_init_da8c8 0 = .ok (.aload_n 0, 1) := by decide +kernel
theorem dJxc12de_init_da8c8_1 : decode cJxc12de_init_da8c8 1 = .ok (.invokespecial 1, 3) := by decide +kernel
theorem dJxc12de_init_da8c8_4 : decode cJxc12de_init_da8c8 4 = .ok (.aload_n 0, 1) := by decide +kernel
theorem dJxc12de_init_da8c8_5 : decode cJxc12de_init_da8c8 5 = .ok (.iconst 0, 1) := by decide +kernel
theorem dJxc12de_init_da8c8_6 : decode cJxc12de_init_da8c8 6 = .ok (.putfield 7, 3) := by decide +kernel
theorem dJxc12de_init_da8c8_9 : decode cJxc12de_init_da8c8 9 = .ok (.return_, 1) := by decide +kernel
theorem dJx4a65c_init_da8c8_0 : decode cJx4a65c_init_da8c8 0 = .ok (.aload_n 0, 1) := by decide +kernel
theorem dJx4a65c_init_da8c8_1 : decode cJx4a65c_init_da8c8 1 = .ok (.invokespecial 1, 3) := by decide +kernel
theorem dJx4a65c_init_da8c8_4 : decode cJx4a65c_init_da8c8 4 = .ok (.aload_n 0, 1) := by decide +kernel
theorem dJx4a65c_init_da8c8_5 : decode cJx4a65c_init_da8c8 5 = .ok (.getstatic 39, 3) := by decide +kernel
theorem dJx4a65c_init_da8c8_8 : decode cJx4a65c_init_da8c8 8 = .ok (.putfield 9, 3) := by decide +kernel
theorem dJx4a65c_init_da8c8_11 : decode cJx4a65c_init_da8c8 11 = .ok (.return_, 1) := by decide +kernel
theorem dJx4a65c_grow_92f84_0 : decode cJx4a65c_grow_92f84 0 = .ok (.aload_n 0, 1) := by decide +kernel
theorem dJx4a65c_grow_92f84_1 : decode cJx4a65c_grow_92f84 1 = .ok (.getfield 9, 3) := by decide +kernel
theorem dJx4a65c_grow_92f84_4 : decode cJx4a65c_grow_92f84 4 = .ok (.arraylength, 1) := by decide +kernel
theorem dJx4a65c_grow_92f84_5 : decode cJx4a65c_grow_92f84 5 = .ok (.istore_n 2, 1) := by decide +kernel
theorem dJx4a65c_grow_92f84_6 : decode cJx4a65c_grow_92f84 6 = .ok (.iload_n 2, 1) := by decide +kernel
theorem dJx4a65c_grow_92f84_7 : decode cJx4a65c_grow_92f84 7 = .ok (.ifCond .gt 13, 3) := by decide +kernel
theorem dJx4a65c_grow_92f84_10 : decode cJx4a65c_grow_92f84 10 = .ok (.aload_n 0, 1) := by decide +kernel
theorem dJx4a65c_grow_92f84_11 : decode cJx4a65c_grow_92f84 11 = .ok (.getfield 9, 3) := by decide +kernel
theorem dJx4a65c_grow_92f84_14 : decode cJx4a65c_grow_92f84 14 = .ok (.getstatic 39, 3) := by decide +kernel
theorem dJx4a65c_grow_92f84_17 : decode cJx4a65c_grow_92f84 17 = .ok (.if_acmp .eq 28, 3) := by decide +kernel
theorem dJx4a65c_grow_92f84_20 : decode cJx4a65c_grow_92f84 20 = .ok (.iload_n 2, 1) := by decide +kernel
theorem dJx4a65c_grow_92f84_21 : decode cJx4a65c_grow_92f84 21 = .ok (.iload_n 1, 1) := by decide +kernel
theorem dJx4a65c_grow_92f84_22 : decode cJx4a65c_grow_92f84 22 = .ok (.iload_n 2, 1) := by decide +kernel
theorem dJx4a65c_grow_92f84_23 : decode cJx4a65c_grow_92f84 23 = .ok (.isub, 1) := by decide +kernel
theorem dJx4a65c_grow_92f84_24 : decode cJx4a65c_grow_92f84 24 = .ok (.iload_n 2, 1) := by decide +kernel
theorem dJx4a65c_grow_92f84_25 : decode cJx4a65c_grow_92f84 25 = .ok (.iconst 1, 1) := by decide +kernel
theorem dJx4a65c_grow_92f84_26 : decode cJx4a65c_grow_92f84 26 = .ok (.ishr, 1) := by decide +kernel
theorem dJx4a65c_grow_92f84_27 : decode cJx4a65c_grow_92f84 27 = .ok (.invokestatic 73, 3) := by decide +kernel
theorem dJx4a65c_grow_92f84_30 : decode cJx4a65c_grow_92f84 30 = .ok (.istore_n 3, 1) := by decide +kernel
theorem dJx4a65c_grow_92f84_31 : decode cJx4a65c_grow_92f84 31 = .ok (.aload_n 0, 1) := by decide +kernel
theorem dJx4a65c_grow_92f84_32 : decode cJx4a65c_grow_92f84 32 = .ok (.aload_n 0, 1) := by decide +kernel
theorem dJx4a65c_grow_92f84_33 : decode cJx4a65c_grow_92f84 33 = .ok (.getfield 9, 3) := by decide +kernel
theorem dJx4a65c_grow_92f84_36 : decode cJx4a65c_grow_92f84 36 = .ok (.iload_n 3, 1) := by decide +kernel
theorem dJx4a65c_grow_92f84_37 : decode cJx4a65c_grow_92f84 37 = .ok (.invokestatic 66, 3) := by decide +kernel
theorem dJx4a65c_grow_92f84_40 : decode cJx4a65c_grow_92f84 40 = .ok (.dup_x1, 1) := by decide +kernel
theorem dJx4a65c_grow_92f84_41 : decode cJx4a65c_grow_92f84 41 = .ok (.putfield 9, 3) := by decide +kernel
theorem dJx4a65c_grow_92f84_44 : decode cJx4a65c_grow_92f84 44 = .ok (.areturn, 1) := by decide +kernel
theorem dJx4a65c_grow_92f84_45 : decode cJx4a65c_grow_92f84 45 = .ok (.aload_n 0, 1) := by decide +kernel
theorem dJx4a65c_grow_92f84_46 : decode cJx4a65c_grow_92f84 46 = .ok (.bipush 10, 2) := by decide +kernel
theorem dJx4a65c_grow_92f84_48 : decode cJx4a65c_grow_92f84 48 = .ok (.iload_n 1, 1) := by decide +kernel
theorem dJx4a65c_grow_92f84_49 : decode cJx4a65c_grow_92f84 49 = .ok (.invokestatic 79, 3) := by decide +kernel
theorem dJx4a65c_grow_92f84_52 : decode cJx4a65c_grow_92f84 52 = .ok (.anewarray 7, 3) := by decide +kernel
theorem dJx4a65c_grow_92f84_55 : decode cJx4a65c_grow_92f84 55 = .ok (.dup_x1, 1) := by decide +kernel
theorem dJx4a65c_grow_92f84_56 : decode cJx4a65c_grow_92f84 56 = .ok (.putfield 9, 3) := by decide +kernel
theorem dJx4a65c_grow_92f84_59 : decode cJx4a65c_grow_92f84 59 = .ok (.areturn, 1) := by decide +kernel
theorem dJx4a65c_grow_d5877_0 : decode cJx4a65c_grow_d5877 0 = .ok (.aload_n 0, 1) := by decide +kernel
theorem dJx4a65c_grow_d5877_1 : decode cJx4a65c_grow_d5877 1 = .ok (.aload_n 0, 1) := by decide +kernel
theorem dJx4a65c_grow_d5877_2 : decode cJx4a65c_grow_d5877 2 = .ok (.getfield 48, 3) := by decide +kernel
theorem dJx4a65c_grow_d5877_5 : decode cJx4a65c_grow_d5877 5 = .ok (.iconst 1, 1) := by decide +kernel
theorem dJx4a65c_grow_d5877_6 : decode cJx4a65c_grow_d5877 6 = .ok (.iadd, 1) := by decide +kernel
theorem dJx4a65c_grow_d5877_7 : decode cJx4a65c_grow_d5877 7 = .ok (.invokevirtual 69, 3) := by decide +kernel
theorem dJx4a65c_grow_d5877_10 : decode cJx4a65c_grow_d5877 10 = .ok (.areturn, 1) := by decide +kernel
theorem dJx4a65c_size_8abf5_0 : decode cJx4a65c_size_8abf5 0 = .ok (.aload_n 0, 1) := by decide +kernel
theorem dJx4a65c_size_8abf5_1 : decode cJx4a65c_size_8abf5 1 = .ok (.getfield 48, 3) := by decide +kernel
theorem dJx4a65c_size_8abf5_4 : decode cJx4a65c_size_8abf5 4 = .ok (.ireturn, 1) := by decide +kernel
theorem dJx4a65c_elementData_915e3_0 : decode cJx4a65c_elementData_915e3 0 = .ok (.aload_n 0, 1) := by decide +kernel
theorem dJx4a65c_elementData_915e3_1 : decode cJx4a65c_elementData_915e3 1 = .ok (.getfield 9, 3) := by decide +kernel
theorem dJx4a65c_elementData_915e3_4 : decode cJx4a65c_elementData_915e3 4 = .ok (.iload_n 1, 1) := by decide +kernel
theorem dJx4a65c_elementData_915e3_5 : decode cJx4a65c_elementData_915e3 5 = .ok (.aaload, 1) := by decide +kernel
theorem dJx4a65c_elementData_915e3_6 : decode cJx4a65c_elementData_915e3 6 = .ok (.areturn, 1) := by decide +kernel
theorem dJx4a65c_get_915e3_0 : decode cJx4a65c_get_915e3 0 = .ok (.iload_n 1, 1) := by decide +kernel
theorem dJx4a65c_get_915e3_1 : decode cJx4a65c_get_915e3 1 = .ok (.aload_n 0, 1) := by decide +kernel
theorem dJx4a65c_get_915e3_2 : decode cJx4a65c_get_915e3 2 = .ok (.getfield 48, 3) := by decide +kernel
theorem dJx4a65c_get_915e3_5 : decode cJx4a65c_get_915e3 5 = .ok (.invokestatic 118, 3) := by decide +kernel
theorem dJx4a65c_get_915e3_8 : decode cJx4a65c_get_915e3 8 = .ok (.pop, 1) := by decide +kernel
theorem dJx4a65c_get_915e3_9 : decode cJx4a65c_get_915e3 9 = .ok (.aload_n 0, 1) := by decide +kernel
theorem dJx4a65c_get_915e3_10 : decode cJx4a65c_get_915e3 10 = .ok (.iload_n 1, 1) := by decide +kernel
theorem dJx4a65c_get_915e3_11 : decode cJx4a65c_get_915e3 11 = .ok (.invokevirtual 123, 3) := by decide +kernel
theorem dJx4a65c_get_915e3_14 : decode cJx4a65c_get_915e3 14 = .ok (.areturn, 1) := by decide +kernel
theorem dJx4a65c_add_72be8_0 : decode cJx4a65c_add_72be8 0 = .ok (.iload_n 3, 1) := by decide +kernel
theorem dJx4a65c_add_72be8_1 : decode cJx4a65c_add_72be8 1 = .ok (.aload_n 2, 1) := by decide +kernel
theorem dJx4a65c_add_72be8_2 : decode cJx4a65c_add_72be8 2 = .ok (.arraylength, 1) := by decide +kernel
theorem dJx4a65c_add_72be8_3 : decode cJx4a65c_add_72be8 3 = .ok (.if_icmp .ne 8, 3) := by decide +kernel
theorem dJx4a65c_add_72be8_6 : decode cJx4a65c_add_72be8 6 = .ok (.aload_n 0, 1) := by decide +kernel
theorem dJx4a65c_add_72be8_7 : decode cJx4a65c_add_72be8 7 = .ok (.invokevirtual 129, 3) := by decide +kernel
theorem dJx4a65c_add_72be8_10 : decode cJx4a65c_add_72be8 10 = .ok (.astore_n 2, 1) := by decide +kernel
theorem dJx4a65c_add_72be8_11 : decode cJx4a65c_add_72be8 11 = .ok (.aload_n 2, 1) := by decide +kernel
theorem dJx4a65c_add_72be8_12 : decode cJx4a65c_add_72be8 12 = .ok (.iload_n 3, 1) := by decide +kernel
theorem dJx4a65c_add_72be8_13 : decode cJx4a65c_add_72be8 13 = .ok (.aload_n 1, 1) := by decide +kernel
theorem dJx4a65c_add_72be8_14 : decode cJx4a65c_add_72be8 14 = .ok (.aastore, 1) := by decide +kernel
theorem dJx4a65c_add_72be8_15 : decode cJx4a65c_add_72be8 15 = .ok (.aload_n 0, 1) := by decide +kernel
theorem dJx4a65c_add_72be8_16 : decode cJx4a65c_add_72be8 16 = .ok (.iload_n 3, 1) := by decide +kernel
theorem dJx4a65c_add_72be8_17 : decode cJx4a65c_add_72be8 17 = .ok (.iconst 1, 1) := by decide +kernel
theorem dJx4a65c_add_72be8_18 : decode cJx4a65c_add_72be8 18 = .ok (.iadd, 1) := by decide +kernel
theorem dJx4a65c_add_72be8_19 : decode cJx4a65c_add_72be8 19 = .ok (.putfield 48, 3) := by decide +kernel
theorem dJx4a65c_add_72be8_22 : decode cJx4a65c_add_72be8 22 = .ok (.return_, 1) := by decide +kernel
theorem dJx4a65c_add_9ea2d_0 : decode cJx4a65c_add_9ea2d 0 = .ok (.aload_n 0, 1) := by decide +kernel
theorem dJx4a65c_add_9ea2d_1 : decode cJx4a65c_add_9ea2d 1 = .ok (.dup, 1) := by decide +kernel
theorem dJx4a65c_add_9ea2d_2 : decode cJx4a65c_add_9ea2d 2 = .ok (.getfield 63, 3) := by decide +kernel
theorem dJx4a65c_add_9ea2d_5 : decode cJx4a65c_add_9ea2d 5 = .ok (.iconst 1, 1) := by decide +kernel
theorem dJx4a65c_add_9ea2d_6 : decode cJx4a65c_add_9ea2d 6 = .ok (.iadd, 1) := by decide +kernel
theorem dJx4a65c_add_9ea2d_7 : decode cJx4a65c_add_9ea2d 7 = .ok (.putfield 63, 3) := by decide +kernel
theorem dJx4a65c_add_9ea2d_10 : decode cJx4a65c_add_9ea2d 10 = .ok (.aload_n 0, 1) := by decide +kernel
theorem dJx4a65c_add_9ea2d_11 : decode cJx4a65c_add_9ea2d 11 = .ok (.aload_n 1, 1) := by decide +kernel
theorem dJx4a65c_add_9ea2d_12 : decode cJx4a65c_add_9ea2d 12 = .ok (.aload_n 0, 1) := by decide +kernel
theorem dJx4a65c_add_9ea2d_13 : decode cJx4a65c_add_9ea2d 13 = .ok (.getfield 9, 3) := by decide +kernel
theorem dJx4a65c_add_9ea2d_16 : decode cJx4a65c_add_9ea2d 16 = .ok (.aload_n 0, 1) := by decide +kernel
theorem dJx4a65c_add_9ea2d_17 : decode cJx4a65c_add_9ea2d 17 = .ok (.getfield 48, 3) := by decide +kernel
theorem dJx4a65c_add_9ea2d_20 : decode cJx4a65c_add_9ea2d 20 = .ok (.invokevirtual 131, 3) := by decide +kernel
theorem dJx4a65c_add_9ea2d_23 : decode cJx4a65c_add_9ea2d 23 = .ok (.iconst 1, 1) := by decide +kernel
theorem dJx4a65c_add_9ea2d_24 : decode cJx4a65c_add_9ea2d 24 = .ok (.ireturn, 1) := by decide +kernel
theorem dJx4a65c_remove_915e3_0 : decode cJx4a65c_remove_915e3 0 = .ok (.iload_n 1, 1) := by decide +kernel
theorem dJx4a65c_remove_915e3_1 : decode cJx4a65c_remove_915e3 1 = .ok (.aload_n 0, 1) := by decide +kernel
theorem dJx4a65c_remove_915e3_2 : decode cJx4a65c_remove_915e3 2 = .ok (.getfield 48, 3) := by decide +kernel
theorem dJx4a65c_remove_915e3_5 : decode cJx4a65c_remove_915e3 5 = .ok (.invokestatic 118, 3) := by decide +kernel
theorem dJx4a65c_remove_915e3_8 : decode cJx4a65c_remove_915e3 8 = .ok (.pop, 1) := by decide +kernel
theorem dJx4a65c_remove_915e3_9 : decode cJx4a65c_remove_915e3 9 = .ok (.aload_n 0, 1) := by decide +kernel
theorem dJx4a65c_remove_915e3_10 : decode cJx4a65c_remove_915e3 10 = .ok (.getfield 9, 3) := by decide +kernel
theorem dJx4a65c_remove_915e3_13 : decode cJx4a65c_remove_915e3 13 = .ok (.astore_n 2, 1) := by decide +kernel
theorem dJx4a65c_remove_915e3_14 : decode cJx4a65c_remove_915e3 14 = .ok (.aload_n 2, 1) := by decide +kernel
theorem dJx4a65c_remove_915e3_15 : decode cJx4a65c_remove_915e3 15 = .ok (.iload_n 1, 1) := by decide +kernel
theorem dJx4a65c_remove_915e3_16 : decode cJx4a65c_remove_915e3 16 = .ok (.aaload, 1) := by decide +kernel
theorem dJx4a65c_remove_915e3_17 : decode cJx4a65c_remove_915e3 17 = .ok (.astore_n 3, 1) := by decide +kernel
theorem dJx4a65c_remove_915e3_18 : decode cJx4a65c_remove_915e3 18 = .ok (.aload_n 0, 1) := by decide +kernel
theorem dJx4a65c_remove_915e3_19 : decode cJx4a65c_remove_915e3 19 = .ok (.aload_n 2, 1) := by decide +kernel
theorem dJx4a65c_remove_915e3_20 : decode cJx4a65c_remove_915e3 20 = .ok (.iload_n 1, 1) := by decide +kernel
theorem dJx4a65c_remove_915e3_21 : decode cJx4a65c_remove_915e3 21 = .ok (.invokevirtual 144, 3) := by decide +kernel
theorem dJx4a65c_remove_915e3_24 : decode cJx4a65c_remove_915e3 24 = .ok (.aload_n 3, 1) := by decide +kernel
theorem dJx4a65c_remove_915e3_25 : decode cJx4a65c_remove_915e3 25 = .ok (.areturn, 1) := by decide +kernel
theorem dJx4a65c_fastRemove_b59b0_0 : decode cJx4a65c_fastRemove_b59b0 0 = .ok (.aload_n 0, 1) := by decide +kernel
theorem dJx4a65c_fastRemove_b59b0_1 : decode cJx4a65c_fastRemove_b59b0 1 = .ok (.dup, 1) := by decide +kernel
theorem dJx4a65c_fastRemove_b59b0_2 : decode cJx4a65c_fastRemove_b59b0 2 = .ok (.getfield 63, 3) := by decide +kernel
theorem dJx4a65c_fastRemove_b59b0_5 : decode cJx4a65c_fastRemove_b59b0 5 = .ok (.iconst 1, 1) := by decide +kernel
theorem dJx4a65c_fastRemove_b59b0_6 : decode cJx4a65c_fastRemove_b59b0 6 = .ok (.iadd, 1) := by decide +kernel
theorem dJx4a65c_fastRemove_b59b0_7 : decode cJx4a65c_fastRemove_b59b0 7 = .ok (.putfield 63, 3) := by decide +kernel
theorem dJx4a65c_fastRemove_b59b0_10 : decode cJx4a65c_fastRemove_b59b0 10 = .ok (.aload_n 0, 1) := by decide +kernel
theorem dJx4a65c_fastRemove_b59b0_11 : decode cJx4a65c_fastRemove_b59b0 11 = .ok (.getfield 48, 3) := by decide +kernel
theorem dJx4a65c_fastRemove_b59b0_14 : decode cJx4a65c_fastRemove_b59b0 14 = .ok (.iconst 1, 1) := by decide +kernel
theorem dJx4a65c_fastRemove_b59b0_15 : decode cJx4a65c_fastRemove_b59b0 15 = .ok (.isub, 1) := by decide +kernel
theorem dJx4a65c_fastRemove_b59b0_16 : decode cJx4a65c_fastRemove_b59b0 16 = .ok (.dup, 1) := by decide +kernel
theorem dJx4a65c_fastRemove_b59b0_17 : decode cJx4a65c_fastRemove_b59b0 17 = .ok (.istore_n 3, 1) := by decide +kernel
theorem dJx4a65c_fastRemove_b59b0_18 : decode cJx4a65c_fastRemove_b59b0 18 = .ok (.iload_n 2, 1) := by decide +kernel
theorem dJx4a65c_fastRemove_b59b0_19 : decode cJx4a65c_fastRemove_b59b0 19 = .ok (.if_icmp .le 15, 3) := by decide +kernel
theorem dJx4a65c_fastRemove_b59b0_22 : decode cJx4a65c_fastRemove_b59b0 22 = .ok (.aload_n 1, 1) := by decide +kernel
theorem dJx4a65c_fastRemove_b59b0_23 : decode cJx4a65c_fastRemove_b59b0 23 = .ok (.iload_n 2, 1) := by decide +kernel
theorem dJx4a65c_fastRemove_b59b0_24 : decode cJx4a65c_fastRemove_b59b0 24 = .ok (.iconst 1, 1) := by decide +kernel
theorem dJx4a65c_fastRemove_b59b0_25 : decode cJx4a65c_fastRemove_b59b0 25 = .ok (.iadd, 1) := by decide +kernel
theorem dJx4a65c_fastRemove_b59b0_26 : decode cJx4a65c_fastRemove_b59b0 26 = .ok (.aload_n 1, 1) := by decide +kernel
theorem dJx4a65c_fastRemove_b59b0_27 : decode cJx4a65c_fastRemove_b59b0 27 = .ok (.iload_n 2, 1) := by decide +kernel
theorem dJx4a65c_fastRemove_b59b0_28 : decode cJx4a65c_fastRemove_b59b0 28 = .ok (.iload_n 3, 1) := by decide +kernel
theorem dJx4a65c_fastRemove_b59b0_29 : decode cJx4a65c_fastRemove_b59b0 29 = .ok (.iload_n 2, 1) := by decide +kernel
theorem dJx4a65c_fastRemove_b59b0_30 : decode cJx4a65c_fastRemove_b59b0 30 = .ok (.isub, 1) := by decide +kernel
theorem dJx4a65c_fastRemove_b59b0_31 : decode cJx4a65c_fastRemove_b59b0 31 = .ok (.invokestatic 112, 3) := by decide +kernel
theorem dJx4a65c_fastRemove_b59b0_34 : decode cJx4a65c_fastRemove_b59b0 34 = .ok (.aload_n 1, 1) := by decide +kernel
theorem dJx4a65c_fastRemove_b59b0_35 : decode cJx4a65c_fastRemove_b59b0 35 = .ok (.aload_n 0, 1) := by decide +kernel
theorem dJx4a65c_fastRemove_b59b0_36 : decode cJx4a65c_fastRemove_b59b0 36 = .ok (.iload_n 3, 1) := by decide +kernel
theorem dJx4a65c_fastRemove_b59b0_37 : decode cJx4a65c_fastRemove_b59b0 37 = .ok (.dup_x1, 1) := by decide +kernel
theorem dJx4a65c_fastRemove_b59b0_38 : decode cJx4a65c_fastRemove_b59b0 38 = .ok (.putfield 48, 3) := by decide +kernel
theorem dJx4a65c_fastRemove_b59b0_41 : decode cJx4a65c_fastRemove_b59b0 41 = .ok (.aconst_null, 1) := by decide +kernel
theorem dJx4a65c_fastRemove_b59b0_42 : decode cJx4a65c_fastRemove_b59b0 42 = .ok (.aastore, 1) := by decide +kernel
theorem dJx4a65c_fastRemove_b59b0_43 : decode cJx4a65c_fastRemove_b59b0 43 = .ok (.return_, 1) := by decide +kernel
theorem dJ7_copyOf_1904c_0 : decode cJ7_copyOf_1904c 0 = .ok (.aload_n 0, 1) := by decide +kernel
theorem dJ7_copyOf_1904c_1 : decode cJ7_copyOf_1904c 1 = .ok (.iload_n 1, 1) := by decide +kernel
theorem dJ7_copyOf_1904c_2 : decode cJ7_copyOf_1904c 2 = .ok (.aload_n 0, 1) := by decide +kernel
theorem dJ7_copyOf_1904c_3 : decode cJ7_copyOf_1904c 3 = .ok (.invokevirtual 86, 3) := by decide +kernel
theorem dJ7_copyOf_1904c_6 : decode cJ7_copyOf_1904c 6 = .ok (.invokestatic 300, 3) := by decide +kernel
theorem dJ7_copyOf_1904c_9 : decode cJ7_copyOf_1904c 9 = .ok (.areturn, 1) := by decide +kernel
theorem dJ7_copyOf_6403c_0 : decode cJ7_copyOf_6403c 0 = .ok (.aload_n 2, 1) := by decide +kernel
theorem dJ7_copyOf_6403c_1 : decode cJ7_copyOf_6403c 1 = .ok (.ldc 110, 2) := by decide +kernel
theorem dJ7_copyOf_6403c_3 : decode cJ7_copyOf_6403c 3 = .ok (.if_acmp .ne 10, 3) := by decide +kernel
theorem dJ7_copyOf_6403c_6 : decode cJ7_copyOf_6403c 6 = .ok (.iload_n 1, 1) := by decide +kernel
theorem dJ7_copyOf_6403c_7 : decode cJ7_copyOf_6403c 7 = .ok (.anewarray 2, 3) := by decide +kernel
theorem dJ7_copyOf_6403c_10 : decode cJ7_copyOf_6403c 10 = .ok (.goto 14, 3) := by decide +kernel
theorem dJ7_copyOf_6403c_13 : decode cJ7_copyOf_6403c 13 = .ok (.aload_n 2, 1) := by decide +kernel
theorem dJ7_copyOf_6403c_14 : decode cJ7_copyOf_6403c 14 = .ok (.invokevirtual 90, 3) := by decide +kernel
theorem dJ7_copyOf_6403c_17 : decode cJ7_copyOf_6403c 17 = .ok (.iload_n 1, 1) := by decide +kernel
theorem dJ7_copyOf_6403c_18 : decode cJ7_copyOf_6403c 18 = .ok (.invokestatic 95, 3) := by decide +kernel
theorem dJ7_copyOf_6403c_21 : decode cJ7_copyOf_6403c 21 = .ok (.checkcast 110, 3) := by decide +kernel
theorem dJ7_copyOf_6403c_24 : decode cJ7_copyOf_6403c 24 = .ok (.astore_n 3, 1) := by decide +kernel
theorem dJ7_copyOf_6403c_25 : decode cJ7_copyOf_6403c 25 = .ok (.aload_n 0, 1) := by decide +kernel
theorem dJ7_copyOf_6403c_26 : decode cJ7_copyOf_6403c 26 = .ok (.iconst 0, 1) := by decide +kernel
theorem dJ7_copyOf_6403c_27 : decode cJ7_copyOf_6403c 27 = .ok (.aload_n 3, 1) := by decide +kernel
theorem dJ7_copyOf_6403c_28 : decode cJ7_copyOf_6403c 28 = .ok (.iconst 0, 1) := by decide +kernel
theorem dJ7_copyOf_6403c_29 : decode cJ7_copyOf_6403c 29 = .ok (.aload_n 0, 1) := by decide +kernel
theorem dJ7_copyOf_6403c_30 : decode cJ7_copyOf_6403c 30 = .ok (.arraylength, 1) := by decide +kernel
theorem dJ7_copyOf_6403c_31 : decode cJ7_copyOf_6403c 31 = .ok (.iload_n 1, 1) := by decide +kernel
theorem dJ7_copyOf_6403c_32 : decode cJ7_copyOf_6403c 32 = .ok (.invokestatic 304, 3) := by decide +kernel
theorem dJ7_copyOf_6403c_35 : decode cJ7_copyOf_6403c 35 = .ok (.invokestatic 150, 3) := by decide +kernel
theorem dJ7_copyOf_6403c_38 : decode cJ7_copyOf_6403c 38 = .ok (.aload_n 3, 1) := by decide +kernel
theorem dJ7_copyOf_6403c_39 : decode cJ7_copyOf_6403c 39 = .ok (.areturn, 1) := by decide +kernel
theorem dJ15_checkIndex_7cf53_0 : decode cJ15_checkIndex_7cf53 0 = .ok (.iload_n 0, 1) := by decide +kernel
theorem dJ15_checkIndex_7cf53_1 : decode cJ15_checkIndex_7cf53 1 = .ok (.iload_n 1, 1) := by decide +kernel
theorem dJ15_checkIndex_7cf53_2 : decode cJ15_checkIndex_7cf53 2 = .ok (.aconst_null, 1) := by decide +kernel
theorem dJ15_checkIndex_7cf53_3 : decode cJ15_checkIndex_7cf53 3 = .ok (.invokestatic 105, 3) := by decide +kernel
theorem dJ15_checkIndex_7cf53_6 : decode cJ15_checkIndex_7cf53 6 = .ok (.ireturn, 1) := by decide +kernel
theorem dJ8_newLength_cabcc_0 : decode cJ8_newLength_cabcc 0 = .ok (.iload_n 0, 1) := by decide +kernel
theorem dJ8_newLength_cabcc_1 : decode cJ8_newLength_cabcc 1 = .ok (.iload_n 1, 1) := by decide +kernel
theorem dJ8_newLength_cabcc_2 : decode cJ8_newLength_cabcc 2 = .ok (.iload_n 2, 1) := by decide +kernel
theorem dJ8_newLength_cabcc_3 : decode cJ8_newLength_cabcc 3 = .ok (.invokestatic 194, 3) := by decide +kernel
theorem dJ8_newLength_cabcc_6 : decode cJ8_newLength_cabcc 6 = .ok (.iadd, 1) := by decide +kernel
theorem dJ8_newLength_cabcc_7 : decode cJ8_newLength_cabcc 7 = .ok (.istore_n 3, 1) := by decide +kernel
theorem dJ8_newLength_cabcc_8 : decode cJ8_newLength_cabcc 8 = .ok (.iconst 0, 1) := by decide +kernel
theorem dJ8_newLength_cabcc_9 : decode cJ8_newLength_cabcc 9 = .ok (.iload_n 3, 1) := by decide +kernel
theorem dJ8_newLength_cabcc_10 : decode cJ8_newLength_cabcc 10 = .ok (.if_icmp .ge 11, 3) := by decide +kernel
theorem dJ8_newLength_cabcc_13 : decode cJ8_newLength_cabcc 13 = .ok (.iload_n 3, 1) := by decide +kernel
theorem dJ8_newLength_cabcc_14 : decode cJ8_newLength_cabcc 14 = .ok (.ldc 200, 2) := by decide +kernel
theorem dJ8_newLength_cabcc_16 : decode cJ8_newLength_cabcc 16 = .ok (.if_icmp .gt 5, 3) := by decide +kernel
theorem dJ8_newLength_cabcc_19 : decode cJ8_newLength_cabcc 19 = .ok (.iload_n 3, 1) := by decide +kernel
theorem dJ8_newLength_cabcc_20 : decode cJ8_newLength_cabcc 20 = .ok (.ireturn, 1) := by decide +kernel
theorem dJ8_newLength_cabcc_21 : decode cJ8_newLength_cabcc 21 = .ok (.iload_n 0, 1) := by decide +kernel
theorem dJ8_newLength_cabcc_22 : decode cJ8_newLength_cabcc 22 = .ok (.iload_n 1, 1) := by decide +kernel
theorem dJ8_newLength_cabcc_23 : decode cJ8_newLength_cabcc 23 = .ok (.invokestatic 201, 3) := by decide +kernel
theorem dJ8_newLength_cabcc_26 : decode cJ8_newLength_cabcc 26 = .ok (.ireturn, 1) := by decide +kernel
theorem dJ8_hugeLength_7cf53_0 : decode cJ8_hugeLength_7cf53 0 = .ok (.iload_n 0, 1) := by decide +kernel
theorem dJ8_hugeLength_7cf53_1 : decode cJ8_hugeLength_7cf53 1 = .ok (.iload_n 1, 1) := by decide +kernel
theorem dJ8_hugeLength_7cf53_2 : decode cJ8_hugeLength_7cf53 2 = .ok (.iadd, 1) := by decide +kernel
theorem dJ8_hugeLength_7cf53_3 : decode cJ8_hugeLength_7cf53 3 = .ok (.istore_n 2, 1) := by decide +kernel
theorem dJ8_hugeLength_7cf53_4 : decode cJ8_hugeLength_7cf53 4 = .ok (.iload_n 2, 1) := by decide +kernel
theorem dJ8_hugeLength_7cf53_5 : decode cJ8_hugeLength_7cf53 5 = .ok (.ifCond .ge 44, 3) := by decide +kernel
theorem dJ8_hugeLength_7cf53_8 : decode cJ8_hugeLength_7cf53 8 = .ok (.new 204, 3) := by decide +kernel
theorem dJ8_hugeLength_7cf53_11 : decode cJ8_hugeLength_7cf53 11 = .ok (.dup, 1) := by decide +kernel
theorem dJ8_hugeLength_7cf53_12 : decode cJ8_hugeLength_7cf53 12 = .ok (.new 89, 3) := by decide +kernel
theorem dJ8_hugeLength_7cf53_15 : decode cJ8_hugeLength_7cf53 15 = .ok (.dup, 1) := by decide +kernel
theorem dJ8_hugeLength_7cf53_16 : decode cJ8_hugeLength_7cf53 16 = .ok (.invokespecial 91, 3) := by decide +kernel
theorem dJ8_hugeLength_7cf53_19 : decode cJ8_hugeLength_7cf53 19 = .ok (.ldc 206, 2) := by decide +kernel
theorem dJ8_hugeLength_7cf53_21 : decode cJ8_hugeLength_7cf53 21 = .ok (.invokevirtual 94, 3) := by decide +kernel
theorem dJ8_hugeLength_7cf53_24 : decode cJ8_hugeLength_7cf53 24 = .ok (.iload_n 0, 1) := by decide +kernel
theorem dJ8_hugeLength_7cf53_25 : decode cJ8_hugeLength_7cf53 25 = .ok (.invokevirtual 98, 3) := by decide +kernel
theorem dJ8_hugeLength_7cf53_28 : decode cJ8_hugeLength_7cf53 28 = .ok (.ldc 208, 2) := by decide +kernel
theorem dJ8_hugeLength_7cf53_30 : decode cJ8_hugeLength_7cf53 30 = .ok (.invokevirtual 94, 3) := by decide +kernel
theorem dJ8_hugeLength_7cf53_33 : decode cJ8_hugeLength_7cf53 33 = .ok (.iload_n 1, 1) := by decide +kernel
theorem dJ8_hugeLength_7cf53_34 : decode cJ8_hugeLength_7cf53 34 = .ok (.invokevirtual 98, 3) := by decide +kernel
theorem dJ8_hugeLength_7cf53_37 : decode cJ8_hugeLength_7cf53 37 = .ok (.ldc 210, 2) := by decide +kernel
theorem dJ8_hugeLength_7cf53_39 : decode cJ8_hugeLength_7cf53 39 = .ok (.invokevirtual 94, 3) := by decide +kernel
theorem dJ8_hugeLength_7cf53_42 : decode cJ8_hugeLength_7cf53 42 = .ok (.invokevirtual 101, 3) := by decide +kernel
theorem dJ8_hugeLength_7cf53_45 : decode cJ8_hugeLength_7cf53 45 = .ok (.invokespecial 212, 3) := by decide +kernel
theorem dJ8_hugeLength_7cf53_48 : decode cJ8_hugeLength_7cf53 48 = .ok (.athrow, 1) := by decide +kernel
theorem dJ8_hugeLength_7cf53_49 : decode cJ8_hugeLength_7cf53 49 = .ok (.iload_n 2, 1) := by decide +kernel
theorem dJ8_hugeLength_7cf53_50 : decode cJ8_hugeLength_7cf53 50 = .ok (.ldc 200, 2) := by decide +kernel
theorem dJ8_hugeLength_7cf53_52 : decode cJ8_hugeLength_7cf53 52 = .ok (.if_icmp .gt 6, 3) := by decide +kernel
theorem dJ8_hugeLength_7cf53_55 : decode cJ8_hugeLength_7cf53 55 = .ok (.ldc 200, 2) := by decide +kernel
theorem dJ8_hugeLength_7cf53_57 : decode cJ8_hugeLength_7cf53 57 = .ok (.ireturn, 1) := by decide +kernel
theorem dJ8_hugeLength_7cf53_58 : decode cJ8_hugeLength_7cf53 58 = .ok (.iload_n 2, 1) := by decide +kernel
theorem dJ8_hugeLength_7cf53_59 : decode cJ8_hugeLength_7cf53 59 = .ok (.ireturn, 1) := by decide +kernel
theorem dJ3_checkIndex_8e157_0 : decode cJ3_checkIndex_8e157 0 = .ok (.iload_n 0, 1) := by decide +kernel
theorem dJ3_checkIndex_8e157_1 : decode cJ3_checkIndex_8e157 1 = .ok (.ifCond .lt 8, 3) := by decide +kernel
theorem dJ3_checkIndex_8e157_4 : decode cJ3_checkIndex_8e157 4 = .ok (.iload_n 0, 1) := by decide +kernel
theorem dJ3_checkIndex_8e157_5 : decode cJ3_checkIndex_8e157 5 = .ok (.iload_n 1, 1) := by decide +kernel
theorem dJ3_checkIndex_8e157_6 : decode cJ3_checkIndex_8e157 6 = .ok (.if_icmp .lt 10, 3) := by decide +kernel
theorem dJ3_checkIndex_8e157_9 : decode cJ3_checkIndex_8e157 9 = .ok (.aload_n 2, 1) := by decide +kernel
theorem dJ3_checkIndex_8e157_10 : decode cJ3_checkIndex_8e157 10 = .ok (.iload_n 0, 1) := by decide +kernel
theorem dJ3_checkIndex_8e157_11 : decode cJ3_checkIndex_8e157 11 = .ok (.iload_n 1, 1) := by decide +kernel
theorem dJ3_checkIndex_8e157_12 : decode cJ3_checkIndex_8e157 12 = .ok (.invokestatic 95, 3) := by decide +kernel
theorem dJ3_checkIndex_8e157_15 : decode cJ3_checkIndex_8e157 15 = .ok (.athrow, 1) := by decide +kernel
theorem dJ3_checkIndex_8e157_16 : decode cJ3_checkIndex_8e157 16 = .ok (.iload_n 0, 1) := by decide +kernel
theorem dJ3_checkIndex_8e157_17 : decode cJ3_checkIndex_8e157 17 = .ok (.ireturn, 1) := by decide +kernel
theorem dL_addService_0 : decode cL_addService 0 = .ok (.aload 4, 2) := by decide +kernel
theorem dL_addService_2 : decode cL_addService 2 = .ok (.iconst 0, 1) := by decide +kernel
theorem dL_addService_3 : decode cL_addService 3 = .ok (.aload_n 0, 1) := by decide +kernel
theorem dL_addService_4 : decode cL_addService 4 = .ok (.iload_n 1, 1) := by decide +kernel
theorem dL_addService_5 : decode cL_addService 5 = .ok (.iload_n 2, 1) := by decide +kernel
theorem dL_addService_6 : decode cL_addService 6 = .ok (.iload_n 3, 1) := by decide +kernel
theorem dL_addService_7 : decode cL_addService 7 = .ok (.invokevirtual 7, 3) := by decide +kernel
theorem dL_addService_10 : decode cL_addService 10 = .ok (.i2l, 1) := by decide +kernel
theorem dL_addService_11 : decode cL_addService 11 = .ok (.lastore, 1) := by decide +kernel
theorem dL_addService_12 : decode cL_addService 12 = .ok (.goto 11, 3) := by decide +kernel
theorem dL_addService_15 : decode cL_addService 15 = .ok (.astore 5, 2) := by decide +kernel
theorem dL_addService_17 : decode cL_addService 17 = .ok (.iconst 1, 1) := by decide +kernel
theorem dL_addService_18 : decode cL_addService 18 = .ok (.ireturn, 1) := by decide +kernel
theorem dL_addService_19 : decode cL_addService 19 = .ok (.astore 5, 2) := by decide +kernel
theorem dL_addService_21 : decode cL_addService 21 = .ok (.iconst 2, 1) := by decide +kernel
theorem dL_addService_22 : decode cL_addService 22 = .ok (.ireturn, 1) := by decide +kernel
theorem dL_addService_23 : decode cL_addService 23 = .ok (.iconst 0, 1) := by decide +kernel
theorem dL_addService_24 : decode cL_addService 24 = .ok (.ireturn, 1) := by decide +kernel
theorem dL_addNeed_0 : decode cL_addNeed 0 = .ok (.aload_n 3, 1) := by decide +kernel
theorem dL_addNeed_1 : decode cL_addNeed 1 = .ok (.iconst 0, 1) := by decide +kernel
theorem dL_addNeed_2 : decode cL_addNeed 2 = .ok (.aload_n 0, 1) := by decide +kernel
theorem dL_addNeed_3 : decode cL_addNeed 3 = .ok (.iload_n 1, 1) := by decide +kernel
theorem dL_addNeed_4 : decode cL_addNeed 4 = .ok (.iload_n 2, 1) := by decide +kernel
theorem dL_addNeed_5 : decode cL_addNeed 5 = .ok (.invokevirtual 17, 3) := by decide +kernel
theorem dL_addNeed_8 : decode cL_addNeed 8 = .ok (.i2l, 1) := by decide +kernel
theorem dL_addNeed_9 : decode cL_addNeed 9 = .ok (.lastore, 1) := by decide +kernel
theorem dL_addNeed_10 : decode cL_addNeed 10 = .ok (.goto 15, 3) := by decide +kernel
theorem dL_addNeed_13 : decode cL_addNeed 13 = .ok (.astore 4, 2) := by decide +kernel
theorem dL_addNeed_15 : decode cL_addNeed 15 = .ok (.iconst 1, 1) := by decide +kernel
theorem dL_addNeed_16 : decode cL_addNeed 16 = .ok (.ireturn, 1) := by decide +kernel
theorem dL_addNeed_17 : decode cL_addNeed 17 = .ok (.astore 4, 2) := by decide +kernel
theorem dL_addNeed_19 : decode cL_addNeed 19 = .ok (.iconst 2, 1) := by decide +kernel
theorem dL_addNeed_20 : decode cL_addNeed 20 = .ok (.ireturn, 1) := by decide +kernel
theorem dL_addNeed_21 : decode cL_addNeed 21 = .ok (.astore 4, 2) := by decide +kernel
theorem dL_addNeed_23 : decode cL_addNeed 23 = .ok (.iconst 3, 1) := by decide +kernel
theorem dL_addNeed_24 : decode cL_addNeed 24 = .ok (.ireturn, 1) := by decide +kernel
theorem dL_addNeed_25 : decode cL_addNeed 25 = .ok (.iconst 0, 1) := by decide +kernel
theorem dL_addNeed_26 : decode cL_addNeed 26 = .ok (.ireturn, 1) := by decide +kernel
theorem dL_setSize_0 : decode cL_setSize 0 = .ok (.aload 4, 2) := by decide +kernel
theorem dL_setSize_2 : decode cL_setSize 2 = .ok (.iconst 0, 1) := by decide +kernel
theorem dL_setSize_3 : decode cL_setSize 3 = .ok (.aload_n 0, 1) := by decide +kernel
theorem dL_setSize_4 : decode cL_setSize 4 = .ok (.iload_n 1, 1) := by decide +kernel
theorem dL_setSize_5 : decode cL_setSize 5 = .ok (.iload_n 2, 1) := by decide +kernel
theorem dL_setSize_6 : decode cL_setSize 6 = .ok (.iload_n 3, 1) := by decide +kernel
theorem dL_setSize_7 : decode cL_setSize 7 = .ok (.invokevirtual 25, 3) := by decide +kernel
theorem dL_setSize_10 : decode cL_setSize 10 = .ok (.i2l, 1) := by decide +kernel
theorem dL_setSize_11 : decode cL_setSize 11 = .ok (.lastore, 1) := by decide +kernel
theorem dL_setSize_12 : decode cL_setSize 12 = .ok (.goto 15, 3) := by decide +kernel
theorem dL_setSize_15 : decode cL_setSize 15 = .ok (.astore 5, 2) := by decide +kernel
theorem dL_setSize_17 : decode cL_setSize 17 = .ok (.iconst 1, 1) := by decide +kernel
theorem dL_setSize_18 : decode cL_setSize 18 = .ok (.ireturn, 1) := by decide +kernel
theorem dL_setSize_19 : decode cL_setSize 19 = .ok (.astore 5, 2) := by decide +kernel
theorem dL_setSize_21 : decode cL_setSize 21 = .ok (.iconst 2, 1) := by decide +kernel
theorem dL_setSize_22 : decode cL_setSize 22 = .ok (.ireturn, 1) := by decide +kernel
theorem dL_setSize_23 : decode cL_setSize 23 = .ok (.astore 5, 2) := by decide +kernel
theorem dL_setSize_25 : decode cL_setSize 25 = .ok (.iconst 3, 1) := by decide +kernel
theorem dL_setSize_26 : decode cL_setSize 26 = .ok (.ireturn, 1) := by decide +kernel
theorem dL_setSize_27 : decode cL_setSize 27 = .ok (.iconst 0, 1) := by decide +kernel
theorem dL_setSize_28 : decode cL_setSize 28 = .ok (.ireturn, 1) := by decide +kernel
theorem dL_setFrames_0 : decode cL_setFrames 0 = .ok (.aload_n 2, 1) := by decide +kernel
theorem dL_setFrames_1 : decode cL_setFrames 1 = .ok (.iconst 0, 1) := by decide +kernel
theorem dL_setFrames_2 : decode cL_setFrames 2 = .ok (.aload_n 0, 1) := by decide +kernel
theorem dL_setFrames_3 : decode cL_setFrames 3 = .ok (.iload_n 1, 1) := by decide +kernel
theorem dL_setFrames_4 : decode cL_setFrames 4 = .ok (.invokevirtual 29, 3) := by decide +kernel
theorem dL_setFrames_7 : decode cL_setFrames 7 = .ok (.i2l, 1) := by decide +kernel
theorem dL_setFrames_8 : decode cL_setFrames 8 = .ok (.lastore, 1) := by decide +kernel
theorem dL_setFrames_9 : decode cL_setFrames 9 = .ok (.goto 6, 3) := by decide +kernel
theorem dL_setFrames_12 : decode cL_setFrames 12 = .ok (.astore_n 3, 1) := by decide +kernel
theorem dL_setFrames_13 : decode cL_setFrames 13 = .ok (.iconst 1, 1) := by decide +kernel
theorem dL_setFrames_14 : decode cL_setFrames 14 = .ok (.ireturn, 1) := by decide +kernel
theorem dL_setFrames_15 : decode cL_setFrames 15 = .ok (.iconst 0, 1) := by decide +kernel
theorem dL_setFrames_16 : decode cL_setFrames 16 = .ok (.ireturn, 1) := by decide +kernel
theorem dL_setRoom_0 : decode cL_setRoom 0 = .ok (.aload_n 2, 1) := by decide +kernel
theorem dL_setRoom_1 : decode cL_setRoom 1 = .ok (.iconst 0, 1) := by decide +kernel
theorem dL_setRoom_2 : decode cL_setRoom 2 = .ok (.aload_n 0, 1) := by decide +kernel
theorem dL_setRoom_3 : decode cL_setRoom 3 = .ok (.iload_n 1, 1) := by decide +kernel
theorem dL_setRoom_4 : decode cL_setRoom 4 = .ok (.invokevirtual 33, 3) := by decide +kernel
theorem dL_setRoom_7 : decode cL_setRoom 7 = .ok (.i2l, 1) := by decide +kernel
theorem dL_setRoom_8 : decode cL_setRoom 8 = .ok (.lastore, 1) := by decide +kernel
theorem dL_setRoom_9 : decode cL_setRoom 9 = .ok (.goto 6, 3) := by decide +kernel
theorem dL_setRoom_12 : decode cL_setRoom 12 = .ok (.astore_n 3, 1) := by decide +kernel
theorem dL_setRoom_13 : decode cL_setRoom 13 = .ok (.iconst 1, 1) := by decide +kernel
theorem dL_setRoom_14 : decode cL_setRoom 14 = .ok (.ireturn, 1) := by decide +kernel
theorem dL_setRoom_15 : decode cL_setRoom 15 = .ok (.iconst 0, 1) := by decide +kernel
theorem dL_setRoom_16 : decode cL_setRoom 16 = .ok (.ireturn, 1) := by decide +kernel
theorem dL_setLimit_0 : decode cL_setLimit 0 = .ok (.aload_n 2, 1) := by decide +kernel
theorem dL_setLimit_1 : decode cL_setLimit 1 = .ok (.iconst 0, 1) := by decide +kernel
theorem dL_setLimit_2 : decode cL_setLimit 2 = .ok (.aload_n 0, 1) := by decide +kernel
theorem dL_setLimit_3 : decode cL_setLimit 3 = .ok (.iload_n 1, 1) := by decide +kernel
theorem dL_setLimit_4 : decode cL_setLimit 4 = .ok (.invokevirtual 36, 3) := by decide +kernel
theorem dL_setLimit_7 : decode cL_setLimit 7 = .ok (.i2l, 1) := by decide +kernel
theorem dL_setLimit_8 : decode cL_setLimit 8 = .ok (.lastore, 1) := by decide +kernel
theorem dL_setLimit_9 : decode cL_setLimit 9 = .ok (.goto 6, 3) := by decide +kernel
theorem dL_setLimit_12 : decode cL_setLimit 12 = .ok (.astore_n 3, 1) := by decide +kernel
theorem dL_setLimit_13 : decode cL_setLimit 13 = .ok (.iconst 1, 1) := by decide +kernel
theorem dL_setLimit_14 : decode cL_setLimit 14 = .ok (.ireturn, 1) := by decide +kernel
theorem dL_setLimit_15 : decode cL_setLimit 15 = .ok (.iconst 0, 1) := by decide +kernel
theorem dL_setLimit_16 : decode cL_setLimit 16 = .ok (.ireturn, 1) := by decide +kernel
theorem dL_touch_0 : decode cL_touch 0 = .ok (.aload_n 3, 1) := by decide +kernel
theorem dL_touch_1 : decode cL_touch 1 = .ok (.iconst 0, 1) := by decide +kernel
theorem dL_touch_2 : decode cL_touch 2 = .ok (.aload_n 0, 1) := by decide +kernel
theorem dL_touch_3 : decode cL_touch 3 = .ok (.iload_n 1, 1) := by decide +kernel
theorem dL_touch_4 : decode cL_touch 4 = .ok (.iload_n 2, 1) := by decide +kernel
theorem dL_touch_5 : decode cL_touch 5 = .ok (.invokevirtual 39, 3) := by decide +kernel
theorem dL_touch_8 : decode cL_touch 8 = .ok (.i2l, 1) := by decide +kernel
theorem dL_touch_9 : decode cL_touch 9 = .ok (.lastore, 1) := by decide +kernel
theorem dL_touch_10 : decode cL_touch 10 = .ok (.goto 11, 3) := by decide +kernel
theorem dL_touch_13 : decode cL_touch 13 = .ok (.astore 4, 2) := by decide +kernel
theorem dL_touch_15 : decode cL_touch 15 = .ok (.iconst 1, 1) := by decide +kernel
theorem dL_touch_16 : decode cL_touch 16 = .ok (.ireturn, 1) := by decide +kernel
theorem dL_touch_17 : decode cL_touch 17 = .ok (.astore 4, 2) := by decide +kernel
theorem dL_touch_19 : decode cL_touch 19 = .ok (.iconst 2, 1) := by decide +kernel
theorem dL_touch_20 : decode cL_touch 20 = .ok (.ireturn, 1) := by decide +kernel
theorem dL_touch_21 : decode cL_touch 21 = .ok (.iconst 0, 1) := by decide +kernel
theorem dL_touch_22 : decode cL_touch 22 = .ok (.ireturn, 1) := by decide +kernel
theorem dL_tick_0 : decode cL_tick 0 = .ok (.aload_n 2, 1) := by decide +kernel
theorem dL_tick_1 : decode cL_tick 1 = .ok (.iconst 0, 1) := by decide +kernel
theorem dL_tick_2 : decode cL_tick 2 = .ok (.aload_n 0, 1) := by decide +kernel
theorem dL_tick_3 : decode cL_tick 3 = .ok (.iload_n 1, 1) := by decide +kernel
theorem dL_tick_4 : decode cL_tick 4 = .ok (.invokevirtual 42, 3) := by decide +kernel
theorem dL_tick_7 : decode cL_tick 7 = .ok (.i2l, 1) := by decide +kernel
theorem dL_tick_8 : decode cL_tick 8 = .ok (.lastore, 1) := by decide +kernel
theorem dL_tick_9 : decode cL_tick 9 = .ok (.goto 6, 3) := by decide +kernel
theorem dL_tick_12 : decode cL_tick 12 = .ok (.astore_n 3, 1) := by decide +kernel
theorem dL_tick_13 : decode cL_tick 13 = .ok (.iconst 1, 1) := by decide +kernel
theorem dL_tick_14 : decode cL_tick 14 = .ok (.ireturn, 1) := by decide +kernel
theorem dL_tick_15 : decode cL_tick 15 = .ok (.iconst 0, 1) := by decide +kernel
theorem dL_tick_16 : decode cL_tick 16 = .ok (.ireturn, 1) := by decide +kernel
theorem dL_placeOf_0 : decode cL_placeOf 0 = .ok (.aload_n 3, 1) := by decide +kernel
theorem dL_placeOf_1 : decode cL_placeOf 1 = .ok (.iconst 0, 1) := by decide +kernel
theorem dL_placeOf_2 : decode cL_placeOf 2 = .ok (.aload_n 0, 1) := by decide +kernel
theorem dL_placeOf_3 : decode cL_placeOf 3 = .ok (.iload_n 1, 1) := by decide +kernel
theorem dL_placeOf_4 : decode cL_placeOf 4 = .ok (.iload_n 2, 1) := by decide +kernel
theorem dL_placeOf_5 : decode cL_placeOf 5 = .ok (.invokevirtual 45, 3) := by decide +kernel
theorem dL_placeOf_8 : decode cL_placeOf 8 = .ok (.i2l, 1) := by decide +kernel
theorem dL_placeOf_9 : decode cL_placeOf 9 = .ok (.lastore, 1) := by decide +kernel
theorem dL_placeOf_10 : decode cL_placeOf 10 = .ok (.goto 7, 3) := by decide +kernel
theorem dL_placeOf_13 : decode cL_placeOf 13 = .ok (.astore 4, 2) := by decide +kernel
theorem dL_placeOf_15 : decode cL_placeOf 15 = .ok (.iconst 1, 1) := by decide +kernel
theorem dL_placeOf_16 : decode cL_placeOf 16 = .ok (.ireturn, 1) := by decide +kernel
theorem dL_placeOf_17 : decode cL_placeOf 17 = .ok (.iconst 0, 1) := by decide +kernel
theorem dL_placeOf_18 : decode cL_placeOf 18 = .ok (.ireturn, 1) := by decide +kernel
theorem dL_placeByEvents_0 : decode cL_placeByEvents 0 = .ok (.aload_n 3, 1) := by decide +kernel
theorem dL_placeByEvents_1 : decode cL_placeByEvents 1 = .ok (.iconst 0, 1) := by decide +kernel
theorem dL_placeByEvents_2 : decode cL_placeByEvents 2 = .ok (.aload_n 0, 1) := by decide +kernel
theorem dL_placeByEvents_3 : decode cL_placeByEvents 3 = .ok (.iload_n 1, 1) := by decide +kernel
theorem dL_placeByEvents_4 : decode cL_placeByEvents 4 = .ok (.iload_n 2, 1) := by decide +kernel
theorem dL_placeByEvents_5 : decode cL_placeByEvents 5 = .ok (.invokevirtual 49, 3) := by decide +kernel
theorem dL_placeByEvents_8 : decode cL_placeByEvents 8 = .ok (.i2l, 1) := by decide +kernel
theorem dL_placeByEvents_9 : decode cL_placeByEvents 9 = .ok (.lastore, 1) := by decide +kernel
theorem dL_placeByEvents_10 : decode cL_placeByEvents 10 = .ok (.goto 7, 3) := by decide +kernel
theorem dL_placeByEvents_13 : decode cL_placeByEvents 13 = .ok (.astore 4, 2) := by decide +kernel
theorem dL_placeByEvents_15 : decode cL_placeByEvents 15 = .ok (.iconst 1, 1) := by decide +kernel
theorem dL_placeByEvents_16 : decode cL_placeByEvents 16 = .ok (.ireturn, 1) := by decide +kernel
theorem dL_placeByEvents_17 : decode cL_placeByEvents 17 = .ok (.iconst 0, 1) := by decide +kernel
theorem dL_placeByEvents_18 : decode cL_placeByEvents 18 = .ok (.ireturn, 1) := by decide +kernel
theorem dL_frameOf_0 : decode cL_frameOf 0 = .ok (.aload_n 3, 1) := by decide +kernel
theorem dL_frameOf_1 : decode cL_frameOf 1 = .ok (.iconst 0, 1) := by decide +kernel
theorem dL_frameOf_2 : decode cL_frameOf 2 = .ok (.aload_n 0, 1) := by decide +kernel
theorem dL_frameOf_3 : decode cL_frameOf 3 = .ok (.iload_n 1, 1) := by decide +kernel
theorem dL_frameOf_4 : decode cL_frameOf 4 = .ok (.iload_n 2, 1) := by decide +kernel
theorem dL_frameOf_5 : decode cL_frameOf 5 = .ok (.invokevirtual 52, 3) := by decide +kernel
theorem dL_frameOf_8 : decode cL_frameOf 8 = .ok (.i2l, 1) := by decide +kernel
theorem dL_frameOf_9 : decode cL_frameOf 9 = .ok (.lastore, 1) := by decide +kernel
theorem dL_frameOf_10 : decode cL_frameOf 10 = .ok (.goto 11, 3) := by decide +kernel
theorem dL_frameOf_13 : decode cL_frameOf 13 = .ok (.astore 4, 2) := by decide +kernel
theorem dL_frameOf_15 : decode cL_frameOf 15 = .ok (.iconst 1, 1) := by decide +kernel
theorem dL_frameOf_16 : decode cL_frameOf 16 = .ok (.ireturn, 1) := by decide +kernel
theorem dL_frameOf_17 : decode cL_frameOf 17 = .ok (.astore 4, 2) := by decide +kernel
theorem dL_frameOf_19 : decode cL_frameOf 19 = .ok (.iconst 2, 1) := by decide +kernel
theorem dL_frameOf_20 : decode cL_frameOf 20 = .ok (.ireturn, 1) := by decide +kernel
theorem dL_frameOf_21 : decode cL_frameOf 21 = .ok (.iconst 0, 1) := by decide +kernel
theorem dL_frameOf_22 : decode cL_frameOf 22 = .ok (.ireturn, 1) := by decide +kernel
theorem dL_isReferenced_0 : decode cL_isReferenced 0 = .ok (.aload_n 3, 1) := by decide +kernel
theorem dL_isReferenced_1 : decode cL_isReferenced 1 = .ok (.iconst 0, 1) := by decide +kernel
theorem dL_isReferenced_2 : decode cL_isReferenced 2 = .ok (.aload_n 0, 1) := by decide +kernel
theorem dL_isReferenced_3 : decode cL_isReferenced 3 = .ok (.iload_n 1, 1) := by decide +kernel
theorem dL_isReferenced_4 : decode cL_isReferenced 4 = .ok (.iload_n 2, 1) := by decide +kernel
theorem dL_isReferenced_5 : decode cL_isReferenced 5 = .ok (.invokevirtual 57, 3) := by decide +kernel
theorem dL_isReferenced_8 : decode cL_isReferenced 8 = .ok (.ifCond .eq 7, 3) := by decide +kernel
theorem dL_isReferenced_11 : decode cL_isReferenced 11 = .ok (.lconst 1, 1) := by decide +kernel
theorem dL_isReferenced_12 : decode cL_isReferenced 12 = .ok (.goto 4, 3) := by decide +kernel
theorem dL_isReferenced_15 : decode cL_isReferenced 15 = .ok (.lconst 0, 1) := by decide +kernel
theorem dL_isReferenced_16 : decode cL_isReferenced 16 = .ok (.lastore, 1) := by decide +kernel
theorem dL_isReferenced_17 : decode cL_isReferenced 17 = .ok (.goto 7, 3) := by decide +kernel
theorem dL_isReferenced_20 : decode cL_isReferenced 20 = .ok (.astore 4, 2) := by decide +kernel
theorem dL_isReferenced_22 : decode cL_isReferenced 22 = .ok (.iconst 1, 1) := by decide +kernel
theorem dL_isReferenced_23 : decode cL_isReferenced 23 = .ok (.ireturn, 1) := by decide +kernel
theorem dL_isReferenced_24 : decode cL_isReferenced 24 = .ok (.iconst 0, 1) := by decide +kernel
theorem dL_isReferenced_25 : decode cL_isReferenced 25 = .ok (.ireturn, 1) := by decide +kernel
theorem dL_storedAt_0 : decode cL_storedAt 0 = .ok (.aload_n 2, 1) := by decide +kernel
theorem dL_storedAt_1 : decode cL_storedAt 1 = .ok (.iconst 0, 1) := by decide +kernel
theorem dL_storedAt_2 : decode cL_storedAt 2 = .ok (.aload_n 0, 1) := by decide +kernel
theorem dL_storedAt_3 : decode cL_storedAt 3 = .ok (.iload_n 1, 1) := by decide +kernel
theorem dL_storedAt_4 : decode cL_storedAt 4 = .ok (.invokevirtual 61, 3) := by decide +kernel
theorem dL_storedAt_7 : decode cL_storedAt 7 = .ok (.i2l, 1) := by decide +kernel
theorem dL_storedAt_8 : decode cL_storedAt 8 = .ok (.lastore, 1) := by decide +kernel
theorem dL_storedAt_9 : decode cL_storedAt 9 = .ok (.goto 6, 3) := by decide +kernel
theorem dL_storedAt_12 : decode cL_storedAt 12 = .ok (.astore_n 3, 1) := by decide +kernel
theorem dL_storedAt_13 : decode cL_storedAt 13 = .ok (.iconst 1, 1) := by decide +kernel
theorem dL_storedAt_14 : decode cL_storedAt 14 = .ok (.ireturn, 1) := by decide +kernel
theorem dL_storedAt_15 : decode cL_storedAt 15 = .ok (.iconst 0, 1) := by decide +kernel
theorem dL_storedAt_16 : decode cL_storedAt 16 = .ok (.ireturn, 1) := by decide +kernel
theorem dL_pagesIn_0 : decode cL_pagesIn 0 = .ok (.aload_n 3, 1) := by decide +kernel
theorem dL_pagesIn_1 : decode cL_pagesIn 1 = .ok (.iconst 0, 1) := by decide +kernel
theorem dL_pagesIn_2 : decode cL_pagesIn 2 = .ok (.aload_n 0, 1) := by decide +kernel
theorem dL_pagesIn_3 : decode cL_pagesIn 3 = .ok (.iload_n 1, 1) := by decide +kernel
theorem dL_pagesIn_4 : decode cL_pagesIn 4 = .ok (.iload_n 2, 1) := by decide +kernel
theorem dL_pagesIn_5 : decode cL_pagesIn 5 = .ok (.invokevirtual 64, 3) := by decide +kernel
theorem dL_pagesIn_8 : decode cL_pagesIn 8 = .ok (.i2l, 1) := by decide +kernel
theorem dL_pagesIn_9 : decode cL_pagesIn 9 = .ok (.lastore, 1) := by decide +kernel
theorem dL_pagesIn_10 : decode cL_pagesIn 10 = .ok (.goto 11, 3) := by decide +kernel
theorem dL_pagesIn_13 : decode cL_pagesIn 13 = .ok (.astore 4, 2) := by decide +kernel
theorem dL_pagesIn_15 : decode cL_pagesIn 15 = .ok (.iconst 1, 1) := by decide +kernel
theorem dL_pagesIn_16 : decode cL_pagesIn 16 = .ok (.ireturn, 1) := by decide +kernel
theorem dL_pagesIn_17 : decode cL_pagesIn 17 = .ok (.astore 4, 2) := by decide +kernel
theorem dL_pagesIn_19 : decode cL_pagesIn 19 = .ok (.iconst 2, 1) := by decide +kernel
theorem dL_pagesIn_20 : decode cL_pagesIn 20 = .ok (.ireturn, 1) := by decide +kernel
theorem dL_pagesIn_21 : decode cL_pagesIn 21 = .ok (.iconst 0, 1) := by decide +kernel
theorem dL_pagesIn_22 : decode cL_pagesIn 22 = .ok (.ireturn, 1) := by decide +kernel
theorem dL_stallsOf_0 : decode cL_stallsOf 0 = .ok (.aload_n 2, 1) := by decide +kernel
theorem dL_stallsOf_1 : decode cL_stallsOf 1 = .ok (.iconst 0, 1) := by decide +kernel
theorem dL_stallsOf_2 : decode cL_stallsOf 2 = .ok (.aload_n 0, 1) := by decide +kernel
theorem dL_stallsOf_3 : decode cL_stallsOf 3 = .ok (.iload_n 1, 1) := by decide +kernel
theorem dL_stallsOf_4 : decode cL_stallsOf 4 = .ok (.invokevirtual 68, 3) := by decide +kernel
theorem dL_stallsOf_7 : decode cL_stallsOf 7 = .ok (.lastore, 1) := by decide +kernel
theorem dL_stallsOf_8 : decode cL_stallsOf 8 = .ok (.goto 6, 3) := by decide +kernel
theorem dL_stallsOf_11 : decode cL_stallsOf 11 = .ok (.astore_n 3, 1) := by decide +kernel
theorem dL_stallsOf_12 : decode cL_stallsOf 12 = .ok (.iconst 1, 1) := by decide +kernel
theorem dL_stallsOf_13 : decode cL_stallsOf 13 = .ok (.ireturn, 1) := by decide +kernel
theorem dL_stallsOf_14 : decode cL_stallsOf 14 = .ok (.iconst 0, 1) := by decide +kernel
theorem dL_stallsOf_15 : decode cL_stallsOf 15 = .ok (.ireturn, 1) := by decide +kernel
theorem dL_stateOf_0 : decode cL_stateOf 0 = .ok (.aload_n 2, 1) := by decide +kernel
theorem dL_stateOf_1 : decode cL_stateOf 1 = .ok (.iconst 0, 1) := by decide +kernel
theorem dL_stateOf_2 : decode cL_stateOf 2 = .ok (.aload_n 0, 1) := by decide +kernel
theorem dL_stateOf_3 : decode cL_stateOf 3 = .ok (.iload_n 1, 1) := by decide +kernel
theorem dL_stateOf_4 : decode cL_stateOf 4 = .ok (.invokevirtual 72, 3) := by decide +kernel
theorem dL_stateOf_7 : decode cL_stateOf 7 = .ok (.i2l, 1) := by decide +kernel
theorem dL_stateOf_8 : decode cL_stateOf 8 = .ok (.lastore, 1) := by decide +kernel
theorem dL_stateOf_9 : decode cL_stateOf 9 = .ok (.goto 6, 3) := by decide +kernel
theorem dL_stateOf_12 : decode cL_stateOf 12 = .ok (.astore_n 3, 1) := by decide +kernel
theorem dL_stateOf_13 : decode cL_stateOf 13 = .ok (.iconst 1, 1) := by decide +kernel
theorem dL_stateOf_14 : decode cL_stateOf 14 = .ok (.ireturn, 1) := by decide +kernel
theorem dL_stateOf_15 : decode cL_stateOf 15 = .ok (.iconst 0, 1) := by decide +kernel
theorem dL_stateOf_16 : decode cL_stateOf 16 = .ok (.ireturn, 1) := by decide +kernel
theorem dL_waitsFor_0 : decode cL_waitsFor 0 = .ok (.aload_n 2, 1) := by decide +kernel
theorem dL_waitsFor_1 : decode cL_waitsFor 1 = .ok (.iconst 0, 1) := by decide +kernel
theorem dL_waitsFor_2 : decode cL_waitsFor 2 = .ok (.aload_n 0, 1) := by decide +kernel
theorem dL_waitsFor_3 : decode cL_waitsFor 3 = .ok (.iload_n 1, 1) := by decide +kernel
theorem dL_waitsFor_4 : decode cL_waitsFor 4 = .ok (.invokevirtual 76, 3) := by decide +kernel
theorem dL_waitsFor_7 : decode cL_waitsFor 7 = .ok (.i2l, 1) := by decide +kernel
theorem dL_waitsFor_8 : decode cL_waitsFor 8 = .ok (.lastore, 1) := by decide +kernel
theorem dL_waitsFor_9 : decode cL_waitsFor 9 = .ok (.goto 9, 3) := by decide +kernel
theorem dL_waitsFor_12 : decode cL_waitsFor 12 = .ok (.astore_n 3, 1) := by decide +kernel
theorem dL_waitsFor_13 : decode cL_waitsFor 13 = .ok (.iconst 1, 1) := by decide +kernel
theorem dL_waitsFor_14 : decode cL_waitsFor 14 = .ok (.ireturn, 1) := by decide +kernel
theorem dL_waitsFor_15 : decode cL_waitsFor 15 = .ok (.astore_n 3, 1) := by decide +kernel
theorem dL_waitsFor_16 : decode cL_waitsFor 16 = .ok (.iconst 2, 1) := by decide +kernel
theorem dL_waitsFor_17 : decode cL_waitsFor 17 = .ok (.ireturn, 1) := by decide +kernel
theorem dL_waitsFor_18 : decode cL_waitsFor 18 = .ok (.iconst 0, 1) := by decide +kernel
theorem dL_waitsFor_19 : decode cL_waitsFor 19 = .ok (.ireturn, 1) := by decide +kernel
theorem dL_isNeeded_0 : decode cL_isNeeded 0 = .ok (.aload_n 2, 1) := by decide +kernel
theorem dL_isNeeded_1 : decode cL_isNeeded 1 = .ok (.iconst 0, 1) := by decide +kernel
theorem dL_isNeeded_2 : decode cL_isNeeded 2 = .ok (.aload_n 0, 1) := by decide +kernel
theorem dL_isNeeded_3 : decode cL_isNeeded 3 = .ok (.iload_n 1, 1) := by decide +kernel
theorem dL_isNeeded_4 : decode cL_isNeeded 4 = .ok (.invokevirtual 79, 3) := by decide +kernel
theorem dL_isNeeded_7 : decode cL_isNeeded 7 = .ok (.ifCond .eq 7, 3) := by decide +kernel
theorem dL_isNeeded_10 : decode cL_isNeeded 10 = .ok (.lconst 1, 1) := by decide +kernel
theorem dL_isNeeded_11 : decode cL_isNeeded 11 = .ok (.goto 4, 3) := by decide +kernel
theorem dL_isNeeded_14 : decode cL_isNeeded 14 = .ok (.lconst 0, 1) := by decide +kernel
theorem dL_isNeeded_15 : decode cL_isNeeded 15 = .ok (.lastore, 1) := by decide +kernel
theorem dL_isNeeded_16 : decode cL_isNeeded 16 = .ok (.goto 6, 3) := by decide +kernel
theorem dL_isNeeded_19 : decode cL_isNeeded 19 = .ok (.astore_n 3, 1) := by decide +kernel
theorem dL_isNeeded_20 : decode cL_isNeeded 20 = .ok (.iconst 1, 1) := by decide +kernel
theorem dL_isNeeded_21 : decode cL_isNeeded 21 = .ok (.ireturn, 1) := by decide +kernel
theorem dL_isNeeded_22 : decode cL_isNeeded 22 = .ok (.iconst 0, 1) := by decide +kernel
theorem dL_isNeeded_23 : decode cL_isNeeded 23 = .ok (.ireturn, 1) := by decide +kernel
theorem dL_startsIn_0 : decode cL_startsIn 0 = .ok (.aload_n 2, 1) := by decide +kernel
theorem dL_startsIn_1 : decode cL_startsIn 1 = .ok (.iconst 0, 1) := by decide +kernel
theorem dL_startsIn_2 : decode cL_startsIn 2 = .ok (.aload_n 0, 1) := by decide +kernel
theorem dL_startsIn_3 : decode cL_startsIn 3 = .ok (.iload_n 1, 1) := by decide +kernel
theorem dL_startsIn_4 : decode cL_startsIn 4 = .ok (.invokevirtual 83, 3) := by decide +kernel
theorem dL_startsIn_7 : decode cL_startsIn 7 = .ok (.i2l, 1) := by decide +kernel
theorem dL_startsIn_8 : decode cL_startsIn 8 = .ok (.lastore, 1) := by decide +kernel
theorem dL_startsIn_9 : decode cL_startsIn 9 = .ok (.goto 9, 3) := by decide +kernel
theorem dL_startsIn_12 : decode cL_startsIn 12 = .ok (.astore_n 3, 1) := by decide +kernel
theorem dL_startsIn_13 : decode cL_startsIn 13 = .ok (.iconst 1, 1) := by decide +kernel
theorem dL_startsIn_14 : decode cL_startsIn 14 = .ok (.ireturn, 1) := by decide +kernel
theorem dL_startsIn_15 : decode cL_startsIn 15 = .ok (.astore_n 3, 1) := by decide +kernel
theorem dL_startsIn_16 : decode cL_startsIn 16 = .ok (.iconst 2, 1) := by decide +kernel
theorem dL_startsIn_17 : decode cL_startsIn 17 = .ok (.ireturn, 1) := by decide +kernel
theorem dL_startsIn_18 : decode cL_startsIn 18 = .ok (.iconst 0, 1) := by decide +kernel
theorem dL_startsIn_19 : decode cL_startsIn 19 = .ok (.ireturn, 1) := by decide +kernel
theorem dL_starts_0 : decode cL_starts 0 = .ok (.aload_n 2, 1) := by decide +kernel
theorem dL_starts_1 : decode cL_starts 1 = .ok (.iconst 0, 1) := by decide +kernel
theorem dL_starts_2 : decode cL_starts 2 = .ok (.aload_n 0, 1) := by decide +kernel
theorem dL_starts_3 : decode cL_starts 3 = .ok (.iload_n 1, 1) := by decide +kernel
theorem dL_starts_4 : decode cL_starts 4 = .ok (.invokevirtual 86, 3) := by decide +kernel
theorem dL_starts_7 : decode cL_starts 7 = .ok (.i2l, 1) := by decide +kernel
theorem dL_starts_8 : decode cL_starts 8 = .ok (.lastore, 1) := by decide +kernel
theorem dL_starts_9 : decode cL_starts 9 = .ok (.goto 6, 3) := by decide +kernel
theorem dL_starts_12 : decode cL_starts 12 = .ok (.astore_n 3, 1) := by decide +kernel
theorem dL_starts_13 : decode cL_starts 13 = .ok (.iconst 1, 1) := by decide +kernel
theorem dL_starts_14 : decode cL_starts 14 = .ok (.ireturn, 1) := by decide +kernel
theorem dL_starts_15 : decode cL_starts 15 = .ok (.iconst 0, 1) := by decide +kernel
theorem dL_starts_16 : decode cL_starts 16 = .ok (.ireturn, 1) := by decide +kernel
theorem dL_score_0 : decode cL_score 0 = .ok (.aload_n 2, 1) := by decide +kernel
theorem dL_score_1 : decode cL_score 1 = .ok (.iconst 0, 1) := by decide +kernel
theorem dL_score_2 : decode cL_score 2 = .ok (.aload_n 0, 1) := by decide +kernel
theorem dL_score_3 : decode cL_score 3 = .ok (.iload_n 1, 1) := by decide +kernel
theorem dL_score_4 : decode cL_score 4 = .ok (.invokevirtual 89, 3) := by decide +kernel
theorem dL_score_7 : decode cL_score 7 = .ok (.i2l, 1) := by decide +kernel
theorem dL_score_8 : decode cL_score 8 = .ok (.lastore, 1) := by decide +kernel
theorem dL_score_9 : decode cL_score 9 = .ok (.goto 6, 3) := by decide +kernel
theorem dL_score_12 : decode cL_score 12 = .ok (.astore_n 3, 1) := by decide +kernel
theorem dL_score_13 : decode cL_score 13 = .ok (.iconst 1, 1) := by decide +kernel
theorem dL_score_14 : decode cL_score 14 = .ok (.ireturn, 1) := by decide +kernel
theorem dL_score_15 : decode cL_score 15 = .ok (.iconst 0, 1) := by decide +kernel
theorem dL_score_16 : decode cL_score 16 = .ok (.ireturn, 1) := by decide +kernel
theorem dL_victim_0 : decode cL_victim 0 = .ok (.aload_n 1, 1) := by decide +kernel
theorem dL_victim_1 : decode cL_victim 1 = .ok (.iconst 0, 1) := by decide +kernel
theorem dL_victim_2 : decode cL_victim 2 = .ok (.aload_n 0, 1) := by decide +kernel
theorem dL_victim_3 : decode cL_victim 3 = .ok (.invokevirtual 92, 3) := by decide +kernel
theorem dL_victim_6 : decode cL_victim 6 = .ok (.i2l, 1) := by decide +kernel
theorem dL_victim_7 : decode cL_victim 7 = .ok (.lastore, 1) := by decide +kernel
theorem dL_victim_8 : decode cL_victim 8 = .ok (.goto 6, 3) := by decide +kernel
theorem dL_victim_11 : decode cL_victim 11 = .ok (.astore_n 2, 1) := by decide +kernel
theorem dL_victim_12 : decode cL_victim 12 = .ok (.iconst 1, 1) := by decide +kernel
theorem dL_victim_13 : decode cL_victim 13 = .ok (.ireturn, 1) := by decide +kernel
theorem dL_victim_14 : decode cL_victim 14 = .ok (.iconst 0, 1) := by decide +kernel
theorem dL_victim_15 : decode cL_victim 15 = .ok (.ireturn, 1) := by decide +kernel
theorem dL_smoothShare_0 : decode cL_smoothShare 0 = .ok (.aload_n 1, 1) := by decide +kernel
theorem dL_smoothShare_1 : decode cL_smoothShare 1 = .ok (.iconst 0, 1) := by decide +kernel
theorem dL_smoothShare_2 : decode cL_smoothShare 2 = .ok (.aload_n 0, 1) := by decide +kernel
theorem dL_smoothShare_3 : decode cL_smoothShare 3 = .ok (.invokevirtual 96, 3) := by decide +kernel
theorem dL_smoothShare_6 : decode cL_smoothShare 6 = .ok (.f2d, 1) := by decide +kernel
theorem dL_smoothShare_7 : decode cL_smoothShare 7 = .ok (.dastore, 1) := by decide +kernel
theorem dL_smoothShare_8 : decode cL_smoothShare 8 = .ok (.goto 6, 3) := by decide +kernel
theorem dL_smoothShare_11 : decode cL_smoothShare 11 = .ok (.astore_n 2, 1) := by decide +kernel
theorem dL_smoothShare_12 : decode cL_smoothShare 12 = .ok (.iconst 1, 1) := by decide +kernel
theorem dL_smoothShare_13 : decode cL_smoothShare 13 = .ok (.ireturn, 1) := by decide +kernel
theorem dL_smoothShare_14 : decode cL_smoothShare 14 = .ok (.iconst 0, 1) := by decide +kernel
theorem dL_smoothShare_15 : decode cL_smoothShare 15 = .ok (.ireturn, 1) := by decide +kernel
theorem dL_meanStalls_0 : decode cL_meanStalls 0 = .ok (.aload_n 1, 1) := by decide +kernel
theorem dL_meanStalls_1 : decode cL_meanStalls 1 = .ok (.iconst 0, 1) := by decide +kernel
theorem dL_meanStalls_2 : decode cL_meanStalls 2 = .ok (.aload_n 0, 1) := by decide +kernel
theorem dL_meanStalls_3 : decode cL_meanStalls 3 = .ok (.invokevirtual 102, 3) := by decide +kernel
theorem dL_meanStalls_6 : decode cL_meanStalls 6 = .ok (.dastore, 1) := by decide +kernel
theorem dL_meanStalls_7 : decode cL_meanStalls 7 = .ok (.goto 6, 3) := by decide +kernel
theorem dL_meanStalls_10 : decode cL_meanStalls 10 = .ok (.astore_n 2, 1) := by decide +kernel
theorem dL_meanStalls_11 : decode cL_meanStalls 11 = .ok (.iconst 1, 1) := by decide +kernel
theorem dL_meanStalls_12 : decode cL_meanStalls 12 = .ok (.ireturn, 1) := by decide +kernel
theorem dL_meanStalls_13 : decode cL_meanStalls 13 = .ok (.iconst 0, 1) := by decide +kernel
theorem dL_meanStalls_14 : decode cL_meanStalls 14 = .ok (.ireturn, 1) := by decide +kernel
theorem dL_law_0 : decode cL_law 0 = .ok (.new 8, 3) := by decide +kernel
theorem dL_law_3 : decode cL_law 3 = .ok (.dup, 1) := by decide +kernel
theorem dL_law_4 : decode cL_law 4 = .ok (.invokespecial 106, 3) := by decide +kernel
theorem dL_law_7 : decode cL_law 7 = .ok (.astore_n 1, 1) := by decide +kernel
theorem dL_law_8 : decode cL_law 8 = .ok (.new 107, 3) := by decide +kernel
theorem dL_law_11 : decode cL_law 11 = .ok (.dup, 1) := by decide +kernel
theorem dL_law_12 : decode cL_law 12 = .ok (.invokespecial 109, 3) := by decide +kernel
theorem dL_law_15 : decode cL_law 15 = .ok (.astore_n 2, 1) := by decide +kernel
theorem dL_law_16 : decode cL_law 16 = .ok (.iconst 1, 1) := by decide +kernel
theorem dL_law_17 : decode cL_law 17 = .ok (.newarray .long, 2) := by decide +kernel
theorem dL_law_19 : decode cL_law 19 = .ok (.astore_n 3, 1) := by decide +kernel
theorem dL_law_20 : decode cL_law 20 = .ok (.iconst 1, 1) := by decide +kernel
theorem dL_law_21 : decode cL_law 21 = .ok (.newarray .double, 2) := by decide +kernel
theorem dL_law_23 : decode cL_law 23 = .ok (.astore 4, 2) := by decide +kernel
theorem dL_law_25 : decode cL_law 25 = .ok (.iconst 0, 1) := by decide +kernel
theorem dL_law_26 : decode cL_law 26 = .ok (.istore 5, 2) := by decide +kernel
theorem dL_law_28 : decode cL_law 28 = .ok (.iload 5, 2) := by decide +kernel
theorem dL_law_30 : decode cL_law 30 = .ok (.aload_n 0, 1) := by decide +kernel
theorem dL_law_31 : decode cL_law 31 = .ok (.arraylength, 1) := by decide +kernel
theorem dL_law_32 : decode cL_law 32 = .ok (.iconst 4, 1) := by decide +kernel
theorem dL_law_33 : decode cL_law 33 = .ok (.isub, 1) := by decide +kernel
theorem dL_law_34 : decode cL_law 34 = .ok (.if_icmp .gt 1764, 3) := by decide +kernel
theorem dL_law_37 : decode cL_law 37 = .ok (.aload_n 0, 1) := by decide +kernel
theorem dL_law_38 : decode cL_law 38 = .ok (.iload 5, 2) := by decide +kernel
theorem dL_law_40 : decode cL_law 40 = .ok (.iaload, 1) := by decide +kernel
theorem dL_law_41 : decode cL_law 41 = .ok (.bipush 31, 2) := by decide +kernel
theorem dL_law_43 : decode cL_law 43 = .ok (.iand, 1) := by decide +kernel
theorem dL_law_44 : decode cL_law 44 = .ok (.tableswitch 1748 0 31 #[144, 226, 294, 374, 430, 486, 542, 610, 666, 679, 747, 815, 883, 958, 971, 984, 997, 1053, 1066, 1136, 1149, 1204, 1260, 1316, 1379, 1435, 1491, 1547, 1591, 1604, 1670, 1735], 144) := by decide +kernel
theorem dL_law_188 : decode cL_law 188 = .ok (.aload_n 1, 1) := by decide +kernel
theorem dL_law_189 : decode cL_law 189 = .ok (.aload_n 0, 1) := by decide +kernel
theorem dL_law_190 : decode cL_law 190 = .ok (.iload 5, 2) := by decide +kernel
theorem dL_law_192 : decode cL_law 192 = .ok (.iconst 1, 1) := by decide +kernel
theorem dL_law_193 : decode cL_law 193 = .ok (.iadd, 1) := by decide +kernel
theorem dL_law_194 : decode cL_law 194 = .ok (.iaload, 1) := by decide +kernel
theorem dL_law_195 : decode cL_law 195 = .ok (.aload_n 0, 1) := by decide +kernel
theorem dL_law_196 : decode cL_law 196 = .ok (.iload 5, 2) := by decide +kernel
theorem dL_law_198 : decode cL_law 198 = .ok (.iconst 2, 1) := by decide +kernel
theorem dL_law_199 : decode cL_law 199 = .ok (.iadd, 1) := by decide +kernel
theorem dL_law_200 : decode cL_law 200 = .ok (.iaload, 1) := by decide +kernel
theorem dL_law_201 : decode cL_law 201 = .ok (.i2c, 1) := by decide +kernel
theorem dL_law_202 : decode cL_law 202 = .ok (.aload_n 0, 1) := by decide +kernel
theorem dL_law_203 : decode cL_law 203 = .ok (.iload 5, 2) := by decide +kernel
theorem dL_law_205 : decode cL_law 205 = .ok (.iconst 3, 1) := by decide +kernel
theorem dL_law_206 : decode cL_law 206 = .ok (.iadd, 1) := by decide +kernel
theorem dL_law_207 : decode cL_law 207 = .ok (.iaload, 1) := by decide +kernel
theorem dL_law_208 : decode cL_law 208 = .ok (.aload_n 3, 1) := by decide +kernel
theorem dL_law_209 : decode cL_law 209 = .ok (.invokestatic 110, 3) := by decide +kernel
theorem dL_law_212 : decode cL_law 212 = .ok (.istore 6, 2) := by decide +kernel
theorem dL_law_214 : decode cL_law 214 = .ok (.aload_n 2, 1) := by decide +kernel
theorem dL_law_215 : decode cL_law 215 = .ok (.aload_n 0, 1) := by decide +kernel
theorem dL_law_216 : decode cL_law 216 = .ok (.iload 5, 2) := by decide +kernel
theorem dL_law_218 : decode cL_law 218 = .ok (.iconst 1, 1) := by decide +kernel
theorem dL_law_219 : decode cL_law 219 = .ok (.iadd, 1) := by decide +kernel
theorem dL_law_220 : decode cL_law 220 = .ok (.iaload, 1) := by decide +kernel
theorem dL_law_221 : decode cL_law 221 = .ok (.aload_n 0, 1) := by decide +kernel
theorem dL_law_222 : decode cL_law 222 = .ok (.iload 5, 2) := by decide +kernel
theorem dL_law_224 : decode cL_law 224 = .ok (.iconst 2, 1) := by decide +kernel
theorem dL_law_225 : decode cL_law 225 = .ok (.iadd, 1) := by decide +kernel
theorem dL_law_226 : decode cL_law 226 = .ok (.iaload, 1) := by decide +kernel
theorem dL_law_227 : decode cL_law 227 = .ok (.i2c, 1) := by decide +kernel
theorem dL_law_228 : decode cL_law 228 = .ok (.aload_n 0, 1) := by decide +kernel
theorem dL_law_229 : decode cL_law 229 = .ok (.iload 5, 2) := by decide +kernel
theorem dL_law_231 : decode cL_law 231 = .ok (.iconst 3, 1) := by decide +kernel
theorem dL_law_232 : decode cL_law 232 = .ok (.iadd, 1) := by decide +kernel
theorem dL_law_233 : decode cL_law 233 = .ok (.iaload, 1) := by decide +kernel
theorem dL_law_234 : decode cL_law 234 = .ok (.invokevirtual 115, 3) := by decide +kernel
theorem dL_law_237 : decode cL_law 237 = .ok (.istore 7, 2) := by decide +kernel
theorem dL_law_239 : decode cL_law 239 = .ok (.aload_n 2, 1) := by decide +kernel
theorem dL_law_240 : decode cL_law 240 = .ok (.invokevirtual 116, 3) := by decide +kernel
theorem dL_law_243 : decode cL_law 243 = .ok (.iload 6, 2) := by decide +kernel
theorem dL_law_245 : decode cL_law 245 = .ok (.if_icmp .eq 5, 3) := by decide +kernel
theorem dL_law_248 : decode cL_law 248 = .ok (.iconst 0, 1) := by decide +kernel
theorem dL_law_249 : decode cL_law 249 = .ok (.ireturn, 1) := by decide +kernel
theorem dL_law_250 : decode cL_law 250 = .ok (.iload 6, 2) := by decide +kernel
theorem dL_law_252 : decode cL_law 252 = .ok (.ifCond .ne 15, 3) := by decide +kernel
theorem dL_law_255 : decode cL_law 255 = .ok (.aload_n 3, 1) := by decide +kernel
theorem dL_law_256 : decode cL_law 256 = .ok (.iconst 0, 1) := by decide +kernel
theorem dL_law_257 : decode cL_law 257 = .ok (.laload, 1) := by decide +kernel
theorem dL_law_258 : decode cL_law 258 = .ok (.iload 7, 2) := by decide +kernel
theorem dL_law_260 : decode cL_law 260 = .ok (.i2l, 1) := by decide +kernel
theorem dL_law_261 : decode cL_law 261 = .ok (.lcmp, 1) := by decide +kernel
theorem dL_law_262 : decode cL_law 262 = .ok (.ifCond .eq 5, 3) := by decide +kernel
theorem dL_law_265 : decode cL_law 265 = .ok (.iconst 0, 1) := by decide +kernel
theorem dL_law_266 : decode cL_law 266 = .ok (.ireturn, 1) := by decide +kernel
theorem dL_law_267 : decode cL_law 267 = .ok (.goto 1525, 3) := by decide +kernel
theorem dL_law_270 : decode cL_law 270 = .ok (.aload_n 1, 1) := by decide +kernel
theorem dL_law_271 : decode cL_law 271 = .ok (.aload_n 0, 1) := by decide +kernel
theorem dL_law_272 : decode cL_law 272 = .ok (.iload 5, 2) := by decide +kernel
theorem dL_law_274 : decode cL_law 274 = .ok (.iconst 1, 1) := by decide +kernel
theorem dL_law_275 : decode cL_law 275 = .ok (.iadd, 1) := by decide +kernel
theorem dL_law_276 : decode cL_law 276 = .ok (.iaload, 1) := by decide +kernel
theorem dL_law_277 : decode cL_law 277 = .ok (.aload_n 0, 1) := by decide +kernel
theorem dL_law_278 : decode cL_law 278 = .ok (.iload 5, 2) := by decide +kernel
theorem dL_law_280 : decode cL_law 280 = .ok (.iconst 2, 1) := by decide +kernel
theorem dL_law_281 : decode cL_law 281 = .ok (.iadd, 1) := by decide +kernel
theorem dL_law_282 : decode cL_law 282 = .ok (.iaload, 1) := by decide +kernel
theorem dL_law_283 : decode cL_law 283 = .ok (.aload_n 3, 1) := by decide +kernel
theorem dL_law_284 : decode cL_law 284 = .ok (.invokestatic 119, 3) := by decide +kernel
theorem dL_law_287 : decode cL_law 287 = .ok (.istore 6, 2) := by decide +kernel
theorem dL_law_289 : decode cL_law 289 = .ok (.aload_n 2, 1) := by decide +kernel
theorem dL_law_290 : decode cL_law 290 = .ok (.aload_n 0, 1) := by decide +kernel
theorem dL_law_291 : decode cL_law 291 = .ok (.iload 5, 2) := by decide +kernel
theorem dL_law_293 : decode cL_law 293 = .ok (.iconst 1, 1) := by decide +kernel
theorem dL_law_294 : decode cL_law 294 = .ok (.iadd, 1) := by decide +kernel
theorem dL_law_295 : decode cL_law 295 = .ok (.iaload, 1) := by decide +kernel
theorem dL_law_296 : decode cL_law 296 = .ok (.aload_n 0, 1) := by decide +kernel
theorem dL_law_297 : decode cL_law 297 = .ok (.iload 5, 2) := by decide +kernel
theorem dL_law_299 : decode cL_law 299 = .ok (.iconst 2, 1) := by decide +kernel
theorem dL_law_300 : decode cL_law 300 = .ok (.iadd, 1) := by decide +kernel
theorem dL_law_301 : decode cL_law 301 = .ok (.iaload, 1) := by decide +kernel
theorem dL_law_302 : decode cL_law 302 = .ok (.invokevirtual 122, 3) := by decide +kernel
theorem dL_law_305 : decode cL_law 305 = .ok (.istore 7, 2) := by decide +kernel
theorem dL_law_307 : decode cL_law 307 = .ok (.aload_n 2, 1) := by decide +kernel
theorem dL_law_308 : decode cL_law 308 = .ok (.invokevirtual 116, 3) := by decide +kernel
theorem dL_law_311 : decode cL_law 311 = .ok (.iload 6, 2) := by decide +kernel
theorem dL_law_313 : decode cL_law 313 = .ok (.if_icmp .eq 5, 3) := by decide +kernel
theorem dL_law_316 : decode cL_law 316 = .ok (.iconst 0, 1) := by decide +kernel
theorem dL_law_317 : decode cL_law 317 = .ok (.ireturn, 1) := by decide +kernel
theorem dL_law_318 : decode cL_law 318 = .ok (.iload 6, 2) := by decide +kernel
theorem dL_law_320 : decode cL_law 320 = .ok (.ifCond .ne 15, 3) := by decide +kernel
theorem dL_law_323 : decode cL_law 323 = .ok (.aload_n 3, 1) := by decide +kernel
theorem dL_law_324 : decode cL_law 324 = .ok (.iconst 0, 1) := by decide +kernel
theorem dL_law_325 : decode cL_law 325 = .ok (.laload, 1) := by decide +kernel
theorem dL_law_326 : decode cL_law 326 = .ok (.iload 7, 2) := by decide +kernel
theorem dL_law_328 : decode cL_law 328 = .ok (.i2l, 1) := by decide +kernel
theorem dL_law_329 : decode cL_law 329 = .ok (.lcmp, 1) := by decide +kernel
theorem dL_law_330 : decode cL_law 330 = .ok (.ifCond .eq 5, 3) := by decide +kernel
theorem dL_law_333 : decode cL_law 333 = .ok (.iconst 0, 1) := by decide +kernel
theorem dL_law_334 : decode cL_law 334 = .ok (.ireturn, 1) := by decide +kernel
theorem dL_law_335 : decode cL_law 335 = .ok (.goto 1457, 3) := by decide +kernel
theorem dL_law_338 : decode cL_law 338 = .ok (.aload_n 1, 1) := by decide +kernel
theorem dL_law_339 : decode cL_law 339 = .ok (.aload_n 0, 1) := by decide +kernel
theorem dL_law_340 : decode cL_law 340 = .ok (.iload 5, 2) := by decide +kernel
theorem dL_law_342 : decode cL_law 342 = .ok (.iconst 1, 1) := by decide +kernel
theorem dL_law_343 : decode cL_law 343 = .ok (.iadd, 1) := by decide +kernel
theorem dL_law_344 : decode cL_law 344 = .ok (.iaload, 1) := by decide +kernel
theorem dL_law_345 : decode cL_law 345 = .ok (.aload_n 0, 1) := by decide +kernel
theorem dL_law_346 : decode cL_law 346 = .ok (.iload 5, 2) := by decide +kernel
theorem dL_law_348 : decode cL_law 348 = .ok (.iconst 2, 1) := by decide +kernel
theorem dL_law_349 : decode cL_law 349 = .ok (.iadd, 1) := by decide +kernel
theorem dL_law_350 : decode cL_law 350 = .ok (.iaload, 1) := by decide +kernel
theorem dL_law_351 : decode cL_law 351 = .ok (.aload_n 0, 1) := by decide +kernel
theorem dL_law_352 : decode cL_law 352 = .ok (.iload 5, 2) := by decide +kernel
theorem dL_law_354 : decode cL_law 354 = .ok (.iconst 3, 1) := by decide +kernel
theorem dL_law_355 : decode cL_law 355 = .ok (.iadd, 1) := by decide +kernel
theorem dL_law_356 : decode cL_law 356 = .ok (.iaload, 1) := by decide +kernel
theorem dL_law_357 : decode cL_law 357 = .ok (.aload_n 3, 1) := by decide +kernel
theorem dL_law_358 : decode cL_law 358 = .ok (.invokestatic 123, 3) := by decide +kernel
theorem dL_law_361 : decode cL_law 361 = .ok (.istore 6, 2) := by decide +kernel
theorem dL_law_363 : decode cL_law 363 = .ok (.aload_n 2, 1) := by decide +kernel
theorem dL_law_364 : decode cL_law 364 = .ok (.aload_n 0, 1) := by decide +kernel
theorem dL_law_365 : decode cL_law 365 = .ok (.iload 5, 2) := by decide +kernel
theorem dL_law_367 : decode cL_law 367 = .ok (.iconst 1, 1) := by decide +kernel
theorem dL_law_368 : decode cL_law 368 = .ok (.iadd, 1) := by decide +kernel
theorem dL_law_369 : decode cL_law 369 = .ok (.iaload, 1) := by decide +kernel
theorem dL_law_370 : decode cL_law 370 = .ok (.aload_n 0, 1) := by decide +kernel
theorem dL_law_371 : decode cL_law 371 = .ok (.iload 5, 2) := by decide +kernel
theorem dL_law_373 : decode cL_law 373 = .ok (.iconst 2, 1) := by decide +kernel
theorem dL_law_374 : decode cL_law 374 = .ok (.iadd, 1) := by decide +kernel
theorem dL_law_375 : decode cL_law 375 = .ok (.iaload, 1) := by decide +kernel
theorem dL_law_376 : decode cL_law 376 = .ok (.aload_n 0, 1) := by decide +kernel
theorem dL_law_377 : decode cL_law 377 = .ok (.iload 5, 2) := by decide +kernel
theorem dL_law_379 : decode cL_law 379 = .ok (.iconst 3, 1) := by decide +kernel
theorem dL_law_380 : decode cL_law 380 = .ok (.iadd, 1) := by decide +kernel
theorem dL_law_381 : decode cL_law 381 = .ok (.iaload, 1) := by decide +kernel
theorem dL_law_382 : decode cL_law 382 = .ok (.invokevirtual 126, 3) := by decide +kernel
theorem dL_law_385 : decode cL_law 385 = .ok (.istore 7, 2) := by decide +kernel
theorem dL_law_387 : decode cL_law 387 = .ok (.aload_n 2, 1) := by decide +kernel
theorem dL_law_388 : decode cL_law 388 = .ok (.invokevirtual 116, 3) := by decide +kernel
theorem dL_law_391 : decode cL_law 391 = .ok (.iload 6, 2) := by decide +kernel
theorem dL_law_393 : decode cL_law 393 = .ok (.if_icmp .eq 5, 3) := by decide +kernel
theorem dL_law_396 : decode cL_law 396 = .ok (.iconst 0, 1) := by decide +kernel
theorem dL_law_397 : decode cL_law 397 = .ok (.ireturn, 1) := by decide +kernel
theorem dL_law_398 : decode cL_law 398 = .ok (.iload 6, 2) := by decide +kernel
theorem dL_law_400 : decode cL_law 400 = .ok (.ifCond .ne 15, 3) := by decide +kernel
theorem dL_law_403 : decode cL_law 403 = .ok (.aload_n 3, 1) := by decide +kernel
theorem dL_law_404 : decode cL_law 404 = .ok (.iconst 0, 1) := by decide +kernel
theorem dL_law_405 : decode cL_law 405 = .ok (.laload, 1) := by decide +kernel
theorem dL_law_406 : decode cL_law 406 = .ok (.iload 7, 2) := by decide +kernel
theorem dL_law_408 : decode cL_law 408 = .ok (.i2l, 1) := by decide +kernel
theorem dL_law_409 : decode cL_law 409 = .ok (.lcmp, 1) := by decide +kernel
theorem dL_law_410 : decode cL_law 410 = .ok (.ifCond .eq 5, 3) := by decide +kernel
theorem dL_law_413 : decode cL_law 413 = .ok (.iconst 0, 1) := by decide +kernel
theorem dL_law_414 : decode cL_law 414 = .ok (.ireturn, 1) := by decide +kernel
theorem dL_law_415 : decode cL_law 415 = .ok (.goto 1377, 3) := by decide +kernel
theorem dL_law_418 : decode cL_law 418 = .ok (.aload_n 1, 1) := by decide +kernel
theorem dL_law_419 : decode cL_law 419 = .ok (.aload_n 0, 1) := by decide +kernel
theorem dL_law_420 : decode cL_law 420 = .ok (.iload 5, 2) := by decide +kernel
theorem dL_law_422 : decode cL_law 422 = .ok (.iconst 1, 1) := by decide +kernel
theorem dL_law_423 : decode cL_law 423 = .ok (.iadd, 1) := by decide +kernel
theorem dL_law_424 : decode cL_law 424 = .ok (.iaload, 1) := by decide +kernel
theorem dL_law_425 : decode cL_law 425 = .ok (.aload_n 3, 1) := by decide +kernel
theorem dL_law_426 : decode cL_law 426 = .ok (.invokestatic 127, 3) := by decide +kernel
theorem dL_law_429 : decode cL_law 429 = .ok (.istore 6, 2) := by decide +kernel
theorem dL_law_431 : decode cL_law 431 = .ok (.aload_n 2, 1) := by decide +kernel
theorem dL_law_432 : decode cL_law 432 = .ok (.aload_n 0, 1) := by decide +kernel
theorem dL_law_433 : decode cL_law 433 = .ok (.iload 5, 2) := by decide +kernel
theorem dL_law_435 : decode cL_law 435 = .ok (.iconst 1, 1) := by decide +kernel
theorem dL_law_436 : decode cL_law 436 = .ok (.iadd, 1) := by decide +kernel
theorem dL_law_437 : decode cL_law 437 = .ok (.iaload, 1) := by decide +kernel
theorem dL_law_438 : decode cL_law 438 = .ok (.invokevirtual 130, 3) := by decide +kernel
theorem dL_law_441 : decode cL_law 441 = .ok (.istore 7, 2) := by decide +kernel
theorem dL_law_443 : decode cL_law 443 = .ok (.aload_n 2, 1) := by decide +kernel
theorem dL_law_444 : decode cL_law 444 = .ok (.invokevirtual 116, 3) := by decide +kernel
theorem dL_law_447 : decode cL_law 447 = .ok (.iload 6, 2) := by decide +kernel
theorem dL_law_449 : decode cL_law 449 = .ok (.if_icmp .eq 5, 3) := by decide +kernel
theorem dL_law_452 : decode cL_law 452 = .ok (.iconst 0, 1) := by decide +kernel
theorem dL_law_453 : decode cL_law 453 = .ok (.ireturn, 1) := by decide +kernel
theorem dL_law_454 : decode cL_law 454 = .ok (.iload 6, 2) := by decide +kernel
theorem dL_law_456 : decode cL_law 456 = .ok (.ifCond .ne 15, 3) := by decide +kernel
theorem dL_law_459 : decode cL_law 459 = .ok (.aload_n 3, 1) := by decide +kernel
theorem dL_law_460 : decode cL_law 460 = .ok (.iconst 0, 1) := by decide +kernel
theorem dL_law_461 : decode cL_law 461 = .ok (.laload, 1) := by decide +kernel
theorem dL_law_462 : decode cL_law 462 = .ok (.iload 7, 2) := by decide +kernel
theorem dL_law_464 : decode cL_law 464 = .ok (.i2l, 1) := by decide +kernel
theorem dL_law_465 : decode cL_law 465 = .ok (.lcmp, 1) := by decide +kernel
theorem dL_law_466 : decode cL_law 466 = .ok (.ifCond .eq 5, 3) := by decide +kernel
theorem dL_law_469 : decode cL_law 469 = .ok (.iconst 0, 1) := by decide +kernel
theorem dL_law_470 : decode cL_law 470 = .ok (.ireturn, 1) := by decide +kernel
theorem dL_law_471 : decode cL_law 471 = .ok (.goto 1321, 3) := by decide +kernel
theorem dL_law_474 : decode cL_law 474 = .ok (.aload_n 1, 1) := by decide +kernel
theorem dL_law_475 : decode cL_law 475 = .ok (.aload_n 0, 1) := by decide +kernel
theorem dL_law_476 : decode cL_law 476 = .ok (.iload 5, 2) := by decide +kernel
theorem dL_law_478 : decode cL_law 478 = .ok (.iconst 1, 1) := by decide +kernel
theorem dL_law_479 : decode cL_law 479 = .ok (.iadd, 1) := by decide +kernel
theorem dL_law_480 : decode cL_law 480 = .ok (.iaload, 1) := by decide +kernel
theorem dL_law_481 : decode cL_law 481 = .ok (.aload_n 3, 1) := by decide +kernel
theorem dL_law_482 : decode cL_law 482 = .ok (.invokestatic 131, 3) := by decide +kernel
theorem dL_law_485 : decode cL_law 485 = .ok (.istore 6, 2) := by decide +kernel
theorem dL_law_487 : decode cL_law 487 = .ok (.aload_n 2, 1) := by decide +kernel
theorem dL_law_488 : decode cL_law 488 = .ok (.aload_n 0, 1) := by decide +kernel
theorem dL_law_489 : decode cL_law 489 = .ok (.iload 5, 2) := by decide +kernel
theorem dL_law_491 : decode cL_law 491 = .ok (.iconst 1, 1) := by decide +kernel
theorem dL_law_492 : decode cL_law 492 = .ok (.iadd, 1) := by decide +kernel
theorem dL_law_493 : decode cL_law 493 = .ok (.iaload, 1) := by decide +kernel
theorem dL_law_494 : decode cL_law 494 = .ok (.invokevirtual 133, 3) := by decide +kernel
theorem dL_law_497 : decode cL_law 497 = .ok (.istore 7, 2) := by decide +kernel
theorem dL_law_499 : decode cL_law 499 = .ok (.aload_n 2, 1) := by decide +kernel
theorem dL_law_500 : decode cL_law 500 = .ok (.invokevirtual 116, 3) := by decide +kernel
theorem dL_law_503 : decode cL_law 503 = .ok (.iload 6, 2) := by decide +kernel
theorem dL_law_505 : decode cL_law 505 = .ok (.if_icmp .eq 5, 3) := by decide +kernel
theorem dL_law_508 : decode cL_law 508 = .ok (.iconst 0, 1) := by decide +kernel
theorem dL_law_509 : decode cL_law 509 = .ok (.ireturn, 1) := by decide +kernel
theorem dL_law_510 : decode cL_law 510 = .ok (.iload 6, 2) := by decide +kernel
theorem dL_law_512 : decode cL_law 512 = .ok (.ifCond .ne 15, 3) := by decide +kernel
theorem dL_law_515 : decode cL_law 515 = .ok (.aload_n 3, 1) := by decide +kernel
theorem dL_law_516 : decode cL_law 516 = .ok (.iconst 0, 1) := by decide +kernel
theorem dL_law_517 : decode cL_law 517 = .ok (.laload, 1) := by decide +kernel
theorem dL_law_518 : decode cL_law 518 = .ok (.iload 7, 2) := by decide +kernel
theorem dL_law_520 : decode cL_law 520 = .ok (.i2l, 1) := by decide +kernel
theorem dL_law_521 : decode cL_law 521 = .ok (.lcmp, 1) := by decide +kernel
theorem dL_law_522 : decode cL_law 522 = .ok (.ifCond .eq 5, 3) := by decide +kernel
theorem dL_law_525 : decode cL_law 525 = .ok (.iconst 0, 1) := by decide +kernel
theorem dL_law_526 : decode cL_law 526 = .ok (.ireturn, 1) := by decide +kernel
theorem dL_law_527 : decode cL_law 527 = .ok (.goto 1265, 3) := by decide +kernel
theorem dL_law_530 : decode cL_law 530 = .ok (.aload_n 1, 1) := by decide +kernel
theorem dL_law_531 : decode cL_law 531 = .ok (.aload_n 0, 1) := by decide +kernel
theorem dL_law_532 : decode cL_law 532 = .ok (.iload 5, 2) := by decide +kernel
theorem dL_law_534 : decode cL_law 534 = .ok (.iconst 1, 1) := by decide +kernel
theorem dL_law_535 : decode cL_law 535 = .ok (.iadd, 1) := by decide +kernel
theorem dL_law_536 : decode cL_law 536 = .ok (.iaload, 1) := by decide +kernel
theorem dL_law_537 : decode cL_law 537 = .ok (.aload_n 3, 1) := by decide +kernel
theorem dL_law_538 : decode cL_law 538 = .ok (.invokestatic 134, 3) := by decide +kernel
theorem dL_law_541 : decode cL_law 541 = .ok (.istore 6, 2) := by decide +kernel
theorem dL_law_543 : decode cL_law 543 = .ok (.aload_n 2, 1) := by decide +kernel
theorem dL_law_544 : decode cL_law 544 = .ok (.aload_n 0, 1) := by decide +kernel
theorem dL_law_545 : decode cL_law 545 = .ok (.iload 5, 2) := by decide +kernel
theorem dL_law_547 : decode cL_law 547 = .ok (.iconst 1, 1) := by decide +kernel
theorem dL_law_548 : decode cL_law 548 = .ok (.iadd, 1) := by decide +kernel
theorem dL_law_549 : decode cL_law 549 = .ok (.iaload, 1) := by decide +kernel
theorem dL_law_550 : decode cL_law 550 = .ok (.invokevirtual 136, 3) := by decide +kernel
theorem dL_law_553 : decode cL_law 553 = .ok (.istore 7, 2) := by decide +kernel
theorem dL_law_555 : decode cL_law 555 = .ok (.aload_n 2, 1) := by decide +kernel
theorem dL_law_556 : decode cL_law 556 = .ok (.invokevirtual 116, 3) := by decide +kernel
theorem dL_law_559 : decode cL_law 559 = .ok (.iload 6, 2) := by decide +kernel
theorem dL_law_561 : decode cL_law 561 = .ok (.if_icmp .eq 5, 3) := by decide +kernel
theorem dL_law_564 : decode cL_law 564 = .ok (.iconst 0, 1) := by decide +kernel
theorem dL_law_565 : decode cL_law 565 = .ok (.ireturn, 1) := by decide +kernel
theorem dL_law_566 : decode cL_law 566 = .ok (.iload 6, 2) := by decide +kernel
theorem dL_law_568 : decode cL_law 568 = .ok (.ifCond .ne 15, 3) := by decide +kernel
theorem dL_law_571 : decode cL_law 571 = .ok (.aload_n 3, 1) := by decide +kernel
theorem dL_law_572 : decode cL_law 572 = .ok (.iconst 0, 1) := by decide +kernel
theorem dL_law_573 : decode cL_law 573 = .ok (.laload, 1) := by decide +kernel
theorem dL_law_574 : decode cL_law 574 = .ok (.iload 7, 2) := by decide +kernel
theorem dL_law_576 : decode cL_law 576 = .ok (.i2l, 1) := by decide +kernel
theorem dL_law_577 : decode cL_law 577 = .ok (.lcmp, 1) := by decide +kernel
theorem dL_law_578 : decode cL_law 578 = .ok (.ifCond .eq 5, 3) := by decide +kernel
theorem dL_law_581 : decode cL_law 581 = .ok (.iconst 0, 1) := by decide +kernel
theorem dL_law_582 : decode cL_law 582 = .ok (.ireturn, 1) := by decide +kernel
theorem dL_law_583 : decode cL_law 583 = .ok (.goto 1209, 3) := by decide +kernel
theorem dL_law_586 : decode cL_law 586 = .ok (.aload_n 1, 1) := by decide +kernel
theorem dL_law_587 : decode cL_law 587 = .ok (.aload_n 0, 1) := by decide +kernel
theorem dL_law_588 : decode cL_law 588 = .ok (.iload 5, 2) := by decide +kernel
theorem dL_law_590 : decode cL_law 590 = .ok (.iconst 1, 1) := by decide +kernel
theorem dL_law_591 : decode cL_law 591 = .ok (.iadd, 1) := by decide +kernel
theorem dL_law_592 : decode cL_law 592 = .ok (.iaload, 1) := by decide +kernel
theorem dL_law_593 : decode cL_law 593 = .ok (.aload_n 0, 1) := by decide +kernel
theorem dL_law_594 : decode cL_law 594 = .ok (.iload 5, 2) := by decide +kernel
theorem dL_law_596 : decode cL_law 596 = .ok (.iconst 2, 1) := by decide +kernel
theorem dL_law_597 : decode cL_law 597 = .ok (.iadd, 1) := by decide +kernel
theorem dL_law_598 : decode cL_law 598 = .ok (.iaload, 1) := by decide +kernel
theorem dL_law_599 : decode cL_law 599 = .ok (.aload_n 3, 1) := by decide +kernel
theorem dL_law_600 : decode cL_law 600 = .ok (.invokestatic 137, 3) := by decide +kernel
theorem dL_law_603 : decode cL_law 603 = .ok (.istore 6, 2) := by decide +kernel
theorem dL_law_605 : decode cL_law 605 = .ok (.aload_n 2, 1) := by decide +kernel
theorem dL_law_606 : decode cL_law 606 = .ok (.aload_n 0, 1) := by decide +kernel
theorem dL_law_607 : decode cL_law 607 = .ok (.iload 5, 2) := by decide +kernel
theorem dL_law_609 : decode cL_law 609 = .ok (.iconst 1, 1) := by decide +kernel
theorem dL_law_610 : decode cL_law 610 = .ok (.iadd, 1) := by decide +kernel
theorem dL_law_611 : decode cL_law 611 = .ok (.iaload, 1) := by decide +kernel
theorem dL_law_612 : decode cL_law 612 = .ok (.aload_n 0, 1) := by decide +kernel
theorem dL_law_613 : decode cL_law 613 = .ok (.iload 5, 2) := by decide +kernel
theorem dL_law_615 : decode cL_law 615 = .ok (.iconst 2, 1) := by decide +kernel
theorem dL_law_616 : decode cL_law 616 = .ok (.iadd, 1) := by decide +kernel
theorem dL_law_617 : decode cL_law 617 = .ok (.iaload, 1) := by decide +kernel
theorem dL_law_618 : decode cL_law 618 = .ok (.invokevirtual 139, 3) := by decide +kernel
theorem dL_law_621 : decode cL_law 621 = .ok (.istore 7, 2) := by decide +kernel
theorem dL_law_623 : decode cL_law 623 = .ok (.aload_n 2, 1) := by decide +kernel
theorem dL_law_624 : decode cL_law 624 = .ok (.invokevirtual 116, 3) := by decide +kernel
theorem dL_law_627 : decode cL_law 627 = .ok (.iload 6, 2) := by decide +kernel
theorem dL_law_629 : decode cL_law 629 = .ok (.if_icmp .eq 5, 3) := by decide +kernel
theorem dL_law_632 : decode cL_law 632 = .ok (.iconst 0, 1) := by decide +kernel
theorem dL_law_633 : decode cL_law 633 = .ok (.ireturn, 1) := by decide +kernel
theorem dL_law_634 : decode cL_law 634 = .ok (.iload 6, 2) := by decide +kernel
theorem dL_law_636 : decode cL_law 636 = .ok (.ifCond .ne 15, 3) := by decide +kernel
theorem dL_law_639 : decode cL_law 639 = .ok (.aload_n 3, 1) := by decide +kernel
theorem dL_law_640 : decode cL_law 640 = .ok (.iconst 0, 1) := by decide +kernel
theorem dL_law_641 : decode cL_law 641 = .ok (.laload, 1) := by decide +kernel
theorem dL_law_642 : decode cL_law 642 = .ok (.iload 7, 2) := by decide +kernel
theorem dL_law_644 : decode cL_law 644 = .ok (.i2l, 1) := by decide +kernel
theorem dL_law_645 : decode cL_law 645 = .ok (.lcmp, 1) := by decide +kernel
theorem dL_law_646 : decode cL_law 646 = .ok (.ifCond .eq 5, 3) := by decide +kernel
theorem dL_law_649 : decode cL_law 649 = .ok (.iconst 0, 1) := by decide +kernel
theorem dL_law_650 : decode cL_law 650 = .ok (.ireturn, 1) := by decide +kernel
theorem dL_law_651 : decode cL_law 651 = .ok (.goto 1141, 3) := by decide +kernel
theorem dL_law_654 : decode cL_law 654 = .ok (.aload_n 1, 1) := by decide +kernel
theorem dL_law_655 : decode cL_law 655 = .ok (.aload_n 0, 1) := by decide +kernel
theorem dL_law_656 : decode cL_law 656 = .ok (.iload 5, 2) := by decide +kernel
theorem dL_law_658 : decode cL_law 658 = .ok (.iconst 1, 1) := by decide +kernel
theorem dL_law_659 : decode cL_law 659 = .ok (.iadd, 1) := by decide +kernel
theorem dL_law_660 : decode cL_law 660 = .ok (.iaload, 1) := by decide +kernel
theorem dL_law_661 : decode cL_law 661 = .ok (.aload_n 3, 1) := by decide +kernel
theorem dL_law_662 : decode cL_law 662 = .ok (.invokestatic 140, 3) := by decide +kernel
theorem dL_law_665 : decode cL_law 665 = .ok (.istore 6, 2) := by decide +kernel
theorem dL_law_667 : decode cL_law 667 = .ok (.aload_n 2, 1) := by decide +kernel
theorem dL_law_668 : decode cL_law 668 = .ok (.aload_n 0, 1) := by decide +kernel
theorem dL_law_669 : decode cL_law 669 = .ok (.iload 5, 2) := by decide +kernel
theorem dL_law_671 : decode cL_law 671 = .ok (.iconst 1, 1) := by decide +kernel
theorem dL_law_672 : decode cL_law 672 = .ok (.iadd, 1) := by decide +kernel
theorem dL_law_673 : decode cL_law 673 = .ok (.iaload, 1) := by decide +kernel
theorem dL_law_674 : decode cL_law 674 = .ok (.invokevirtual 142, 3) := by decide +kernel
theorem dL_law_677 : decode cL_law 677 = .ok (.istore 7, 2) := by decide +kernel
theorem dL_law_679 : decode cL_law 679 = .ok (.aload_n 2, 1) := by decide +kernel
theorem dL_law_680 : decode cL_law 680 = .ok (.invokevirtual 116, 3) := by decide +kernel
theorem dL_law_683 : decode cL_law 683 = .ok (.iload 6, 2) := by decide +kernel
theorem dL_law_685 : decode cL_law 685 = .ok (.if_icmp .eq 5, 3) := by decide +kernel
theorem dL_law_688 : decode cL_law 688 = .ok (.iconst 0, 1) := by decide +kernel
theorem dL_law_689 : decode cL_law 689 = .ok (.ireturn, 1) := by decide +kernel
theorem dL_law_690 : decode cL_law 690 = .ok (.iload 6, 2) := by decide +kernel
theorem dL_law_692 : decode cL_law 692 = .ok (.ifCond .ne 15, 3) := by decide +kernel
theorem dL_law_695 : decode cL_law 695 = .ok (.aload_n 3, 1) := by decide +kernel
theorem dL_law_696 : decode cL_law 696 = .ok (.iconst 0, 1) := by decide +kernel
theorem dL_law_697 : decode cL_law 697 = .ok (.laload, 1) := by decide +kernel
theorem dL_law_698 : decode cL_law 698 = .ok (.iload 7, 2) := by decide +kernel
theorem dL_law_700 : decode cL_law 700 = .ok (.i2l, 1) := by decide +kernel
theorem dL_law_701 : decode cL_law 701 = .ok (.lcmp, 1) := by decide +kernel
theorem dL_law_702 : decode cL_law 702 = .ok (.ifCond .eq 5, 3) := by decide +kernel
theorem dL_law_705 : decode cL_law 705 = .ok (.iconst 0, 1) := by decide +kernel
theorem dL_law_706 : decode cL_law 706 = .ok (.ireturn, 1) := by decide +kernel
theorem dL_law_707 : decode cL_law 707 = .ok (.goto 1085, 3) := by decide +kernel
theorem dL_law_710 : decode cL_law 710 = .ok (.aload_n 1, 1) := by decide +kernel
theorem dL_law_711 : decode cL_law 711 = .ok (.invokevirtual 143, 3) := by decide +kernel
theorem dL_law_714 : decode cL_law 714 = .ok (.aload_n 2, 1) := by decide +kernel
theorem dL_law_715 : decode cL_law 715 = .ok (.invokevirtual 146, 3) := by decide +kernel
theorem dL_law_718 : decode cL_law 718 = .ok (.if_icmp .eq 1074, 3) := by decide +kernel
theorem dL_law_721 : decode cL_law 721 = .ok (.iconst 0, 1) := by decide +kernel
theorem dL_law_722 : decode cL_law 722 = .ok (.ireturn, 1) := by decide +kernel
theorem dL_law_723 : decode cL_law 723 = .ok (.aload_n 1, 1) := by decide +kernel
theorem dL_law_724 : decode cL_law 724 = .ok (.aload_n 0, 1) := by decide +kernel
theorem dL_law_725 : decode cL_law 725 = .ok (.iload 5, 2) := by decide +kernel
theorem dL_law_727 : decode cL_law 727 = .ok (.iconst 1, 1) := by decide +kernel
theorem dL_law_728 : decode cL_law 728 = .ok (.iadd, 1) := by decide +kernel
theorem dL_law_729 : decode cL_law 729 = .ok (.iaload, 1) := by decide +kernel
theorem dL_law_730 : decode cL_law 730 = .ok (.aload_n 0, 1) := by decide +kernel
theorem dL_law_731 : decode cL_law 731 = .ok (.iload 5, 2) := by decide +kernel
theorem dL_law_733 : decode cL_law 733 = .ok (.iconst 2, 1) := by decide +kernel
theorem dL_law_734 : decode cL_law 734 = .ok (.iadd, 1) := by decide +kernel
theorem dL_law_735 : decode cL_law 735 = .ok (.iaload, 1) := by decide +kernel
theorem dL_law_736 : decode cL_law 736 = .ok (.aload_n 3, 1) := by decide +kernel
theorem dL_law_737 : decode cL_law 737 = .ok (.invokestatic 147, 3) := by decide +kernel
theorem dL_law_740 : decode cL_law 740 = .ok (.istore 6, 2) := by decide +kernel
theorem dL_law_742 : decode cL_law 742 = .ok (.aload_n 2, 1) := by decide +kernel
theorem dL_law_743 : decode cL_law 743 = .ok (.aload_n 0, 1) := by decide +kernel
theorem dL_law_744 : decode cL_law 744 = .ok (.iload 5, 2) := by decide +kernel
theorem dL_law_746 : decode cL_law 746 = .ok (.iconst 1, 1) := by decide +kernel
theorem dL_law_747 : decode cL_law 747 = .ok (.iadd, 1) := by decide +kernel
theorem dL_law_748 : decode cL_law 748 = .ok (.iaload, 1) := by decide +kernel
theorem dL_law_749 : decode cL_law 749 = .ok (.aload_n 0, 1) := by decide +kernel
theorem dL_law_750 : decode cL_law 750 = .ok (.iload 5, 2) := by decide +kernel
theorem dL_law_752 : decode cL_law 752 = .ok (.iconst 2, 1) := by decide +kernel
theorem dL_law_753 : decode cL_law 753 = .ok (.iadd, 1) := by decide +kernel
theorem dL_law_754 : decode cL_law 754 = .ok (.iaload, 1) := by decide +kernel
theorem dL_law_755 : decode cL_law 755 = .ok (.invokevirtual 149, 3) := by decide +kernel
theorem dL_law_758 : decode cL_law 758 = .ok (.istore 7, 2) := by decide +kernel
theorem dL_law_760 : decode cL_law 760 = .ok (.aload_n 2, 1) := by decide +kernel
theorem dL_law_761 : decode cL_law 761 = .ok (.invokevirtual 116, 3) := by decide +kernel
theorem dL_law_764 : decode cL_law 764 = .ok (.iload 6, 2) := by decide +kernel
theorem dL_law_766 : decode cL_law 766 = .ok (.if_icmp .eq 5, 3) := by decide +kernel
theorem dL_law_769 : decode cL_law 769 = .ok (.iconst 0, 1) := by decide +kernel
theorem dL_law_770 : decode cL_law 770 = .ok (.ireturn, 1) := by decide +kernel
theorem dL_law_771 : decode cL_law 771 = .ok (.iload 6, 2) := by decide +kernel
theorem dL_law_773 : decode cL_law 773 = .ok (.ifCond .ne 15, 3) := by decide +kernel
theorem dL_law_776 : decode cL_law 776 = .ok (.aload_n 3, 1) := by decide +kernel
theorem dL_law_777 : decode cL_law 777 = .ok (.iconst 0, 1) := by decide +kernel
theorem dL_law_778 : decode cL_law 778 = .ok (.laload, 1) := by decide +kernel
theorem dL_law_779 : decode cL_law 779 = .ok (.iload 7, 2) := by decide +kernel
theorem dL_law_781 : decode cL_law 781 = .ok (.i2l, 1) := by decide +kernel
theorem dL_law_782 : decode cL_law 782 = .ok (.lcmp, 1) := by decide +kernel
theorem dL_law_783 : decode cL_law 783 = .ok (.ifCond .eq 5, 3) := by decide +kernel
theorem dL_law_786 : decode cL_law 786 = .ok (.iconst 0, 1) := by decide +kernel
theorem dL_law_787 : decode cL_law 787 = .ok (.ireturn, 1) := by decide +kernel
theorem dL_law_788 : decode cL_law 788 = .ok (.goto 1004, 3) := by decide +kernel
theorem dL_law_791 : decode cL_law 791 = .ok (.aload_n 1, 1) := by decide +kernel
theorem dL_law_792 : decode cL_law 792 = .ok (.aload_n 0, 1) := by decide +kernel
theorem dL_law_793 : decode cL_law 793 = .ok (.iload 5, 2) := by decide +kernel
theorem dL_law_795 : decode cL_law 795 = .ok (.iconst 1, 1) := by decide +kernel
theorem dL_law_796 : decode cL_law 796 = .ok (.iadd, 1) := by decide +kernel
theorem dL_law_797 : decode cL_law 797 = .ok (.iaload, 1) := by decide +kernel
theorem dL_law_798 : decode cL_law 798 = .ok (.aload_n 0, 1) := by decide +kernel
theorem dL_law_799 : decode cL_law 799 = .ok (.iload 5, 2) := by decide +kernel
theorem dL_law_801 : decode cL_law 801 = .ok (.iconst 2, 1) := by decide +kernel
theorem dL_law_802 : decode cL_law 802 = .ok (.iadd, 1) := by decide +kernel
theorem dL_law_803 : decode cL_law 803 = .ok (.iaload, 1) := by decide +kernel
theorem dL_law_804 : decode cL_law 804 = .ok (.aload_n 3, 1) := by decide +kernel
theorem dL_law_805 : decode cL_law 805 = .ok (.invokestatic 150, 3) := by decide +kernel
theorem dL_law_808 : decode cL_law 808 = .ok (.istore 6, 2) := by decide +kernel
theorem dL_law_810 : decode cL_law 810 = .ok (.aload_n 2, 1) := by decide +kernel
theorem dL_law_811 : decode cL_law 811 = .ok (.aload_n 0, 1) := by decide +kernel
theorem dL_law_812 : decode cL_law 812 = .ok (.iload 5, 2) := by decide +kernel
theorem dL_law_814 : decode cL_law 814 = .ok (.iconst 1, 1) := by decide +kernel
theorem dL_law_815 : decode cL_law 815 = .ok (.iadd, 1) := by decide +kernel
theorem dL_law_816 : decode cL_law 816 = .ok (.iaload, 1) := by decide +kernel
theorem dL_law_817 : decode cL_law 817 = .ok (.aload_n 0, 1) := by decide +kernel
theorem dL_law_818 : decode cL_law 818 = .ok (.iload 5, 2) := by decide +kernel
theorem dL_law_820 : decode cL_law 820 = .ok (.iconst 2, 1) := by decide +kernel
theorem dL_law_821 : decode cL_law 821 = .ok (.iadd, 1) := by decide +kernel
theorem dL_law_822 : decode cL_law 822 = .ok (.iaload, 1) := by decide +kernel
theorem dL_law_823 : decode cL_law 823 = .ok (.invokevirtual 152, 3) := by decide +kernel
theorem dL_law_826 : decode cL_law 826 = .ok (.istore 7, 2) := by decide +kernel
theorem dL_law_828 : decode cL_law 828 = .ok (.aload_n 2, 1) := by decide +kernel
theorem dL_law_829 : decode cL_law 829 = .ok (.invokevirtual 116, 3) := by decide +kernel
theorem dL_law_832 : decode cL_law 832 = .ok (.iload 6, 2) := by decide +kernel
theorem dL_law_834 : decode cL_law 834 = .ok (.if_icmp .eq 5, 3) := by decide +kernel
theorem dL_law_837 : decode cL_law 837 = .ok (.iconst 0, 1) := by decide +kernel
theorem dL_law_838 : decode cL_law 838 = .ok (.ireturn, 1) := by decide +kernel
theorem dL_law_839 : decode cL_law 839 = .ok (.iload 6, 2) := by decide +kernel
theorem dL_law_841 : decode cL_law 841 = .ok (.ifCond .ne 15, 3) := by decide +kernel
theorem dL_law_844 : decode cL_law 844 = .ok (.aload_n 3, 1) := by decide +kernel
theorem dL_law_845 : decode cL_law 845 = .ok (.iconst 0, 1) := by decide +kernel
theorem dL_law_846 : decode cL_law 846 = .ok (.laload, 1) := by decide +kernel
theorem dL_law_847 : decode cL_law 847 = .ok (.iload 7, 2) := by decide +kernel
theorem dL_law_849 : decode cL_law 849 = .ok (.i2l, 1) := by decide +kernel
theorem dL_law_850 : decode cL_law 850 = .ok (.lcmp, 1) := by decide +kernel
theorem dL_law_851 : decode cL_law 851 = .ok (.ifCond .eq 5, 3) := by decide +kernel
theorem dL_law_854 : decode cL_law 854 = .ok (.iconst 0, 1) := by decide +kernel
theorem dL_law_855 : decode cL_law 855 = .ok (.ireturn, 1) := by decide +kernel
theorem dL_law_856 : decode cL_law 856 = .ok (.goto 936, 3) := by decide +kernel
theorem dL_law_859 : decode cL_law 859 = .ok (.aload_n 1, 1) := by decide +kernel
theorem dL_law_860 : decode cL_law 860 = .ok (.aload_n 0, 1) := by decide +kernel
theorem dL_law_861 : decode cL_law 861 = .ok (.iload 5, 2) := by decide +kernel
theorem dL_law_863 : decode cL_law 863 = .ok (.iconst 1, 1) := by decide +kernel
theorem dL_law_864 : decode cL_law 864 = .ok (.iadd, 1) := by decide +kernel
theorem dL_law_865 : decode cL_law 865 = .ok (.iaload, 1) := by decide +kernel
theorem dL_law_866 : decode cL_law 866 = .ok (.aload_n 0, 1) := by decide +kernel
theorem dL_law_867 : decode cL_law 867 = .ok (.iload 5, 2) := by decide +kernel
theorem dL_law_869 : decode cL_law 869 = .ok (.iconst 2, 1) := by decide +kernel
theorem dL_law_870 : decode cL_law 870 = .ok (.iadd, 1) := by decide +kernel
theorem dL_law_871 : decode cL_law 871 = .ok (.iaload, 1) := by decide +kernel
theorem dL_law_872 : decode cL_law 872 = .ok (.aload_n 3, 1) := by decide +kernel
theorem dL_law_873 : decode cL_law 873 = .ok (.invokestatic 153, 3) := by decide +kernel
theorem dL_law_876 : decode cL_law 876 = .ok (.istore 6, 2) := by decide +kernel
theorem dL_law_878 : decode cL_law 878 = .ok (.aload_n 2, 1) := by decide +kernel
theorem dL_law_879 : decode cL_law 879 = .ok (.aload_n 0, 1) := by decide +kernel
theorem dL_law_880 : decode cL_law 880 = .ok (.iload 5, 2) := by decide +kernel
theorem dL_law_882 : decode cL_law 882 = .ok (.iconst 1, 1) := by decide +kernel
theorem dL_law_883 : decode cL_law 883 = .ok (.iadd, 1) := by decide +kernel
theorem dL_law_884 : decode cL_law 884 = .ok (.iaload, 1) := by decide +kernel
theorem dL_law_885 : decode cL_law 885 = .ok (.aload_n 0, 1) := by decide +kernel
theorem dL_law_886 : decode cL_law 886 = .ok (.iload 5, 2) := by decide +kernel
theorem dL_law_888 : decode cL_law 888 = .ok (.iconst 2, 1) := by decide +kernel
theorem dL_law_889 : decode cL_law 889 = .ok (.iadd, 1) := by decide +kernel
theorem dL_law_890 : decode cL_law 890 = .ok (.iaload, 1) := by decide +kernel
theorem dL_law_891 : decode cL_law 891 = .ok (.invokevirtual 155, 3) := by decide +kernel
theorem dL_law_894 : decode cL_law 894 = .ok (.istore 7, 2) := by decide +kernel
theorem dL_law_896 : decode cL_law 896 = .ok (.aload_n 2, 1) := by decide +kernel
theorem dL_law_897 : decode cL_law 897 = .ok (.invokevirtual 116, 3) := by decide +kernel
theorem dL_law_900 : decode cL_law 900 = .ok (.iload 6, 2) := by decide +kernel
theorem dL_law_902 : decode cL_law 902 = .ok (.if_icmp .eq 5, 3) := by decide +kernel
theorem dL_law_905 : decode cL_law 905 = .ok (.iconst 0, 1) := by decide +kernel
theorem dL_law_906 : decode cL_law 906 = .ok (.ireturn, 1) := by decide +kernel
theorem dL_law_907 : decode cL_law 907 = .ok (.iload 6, 2) := by decide +kernel
theorem dL_law_909 : decode cL_law 909 = .ok (.ifCond .ne 15, 3) := by decide +kernel
theorem dL_law_912 : decode cL_law 912 = .ok (.aload_n 3, 1) := by decide +kernel
theorem dL_law_913 : decode cL_law 913 = .ok (.iconst 0, 1) := by decide +kernel
theorem dL_law_914 : decode cL_law 914 = .ok (.laload, 1) := by decide +kernel
theorem dL_law_915 : decode cL_law 915 = .ok (.iload 7, 2) := by decide +kernel
theorem dL_law_917 : decode cL_law 917 = .ok (.i2l, 1) := by decide +kernel
theorem dL_law_918 : decode cL_law 918 = .ok (.lcmp, 1) := by decide +kernel
theorem dL_law_919 : decode cL_law 919 = .ok (.ifCond .eq 5, 3) := by decide +kernel
theorem dL_law_922 : decode cL_law 922 = .ok (.iconst 0, 1) := by decide +kernel
theorem dL_law_923 : decode cL_law 923 = .ok (.ireturn, 1) := by decide +kernel
theorem dL_law_924 : decode cL_law 924 = .ok (.goto 868, 3) := by decide +kernel
theorem dL_law_927 : decode cL_law 927 = .ok (.aload_n 1, 1) := by decide +kernel
theorem dL_law_928 : decode cL_law 928 = .ok (.aload_n 0, 1) := by decide +kernel
theorem dL_law_929 : decode cL_law 929 = .ok (.iload 5, 2) := by decide +kernel
theorem dL_law_931 : decode cL_law 931 = .ok (.iconst 1, 1) := by decide +kernel
theorem dL_law_932 : decode cL_law 932 = .ok (.iadd, 1) := by decide +kernel
theorem dL_law_933 : decode cL_law 933 = .ok (.iaload, 1) := by decide +kernel
theorem dL_law_934 : decode cL_law 934 = .ok (.aload_n 0, 1) := by decide +kernel
theorem dL_law_935 : decode cL_law 935 = .ok (.iload 5, 2) := by decide +kernel
theorem dL_law_937 : decode cL_law 937 = .ok (.iconst 2, 1) := by decide +kernel
theorem dL_law_938 : decode cL_law 938 = .ok (.iadd, 1) := by decide +kernel
theorem dL_law_939 : decode cL_law 939 = .ok (.iaload, 1) := by decide +kernel
theorem dL_law_940 : decode cL_law 940 = .ok (.aload_n 3, 1) := by decide +kernel
theorem dL_law_941 : decode cL_law 941 = .ok (.invokestatic 156, 3) := by decide +kernel
theorem dL_law_944 : decode cL_law 944 = .ok (.istore 6, 2) := by decide +kernel
theorem dL_law_946 : decode cL_law 946 = .ok (.aload_n 2, 1) := by decide +kernel
theorem dL_law_947 : decode cL_law 947 = .ok (.aload_n 0, 1) := by decide +kernel
theorem dL_law_948 : decode cL_law 948 = .ok (.iload 5, 2) := by decide +kernel
theorem dL_law_950 : decode cL_law 950 = .ok (.iconst 1, 1) := by decide +kernel
theorem dL_law_951 : decode cL_law 951 = .ok (.iadd, 1) := by decide +kernel
theorem dL_law_952 : decode cL_law 952 = .ok (.iaload, 1) := by decide +kernel
theorem dL_law_953 : decode cL_law 953 = .ok (.aload_n 0, 1) := by decide +kernel
theorem dL_law_954 : decode cL_law 954 = .ok (.iload 5, 2) := by decide +kernel
theorem dL_law_956 : decode cL_law 956 = .ok (.iconst 2, 1) := by decide +kernel
theorem dL_law_957 : decode cL_law 957 = .ok (.iadd, 1) := by decide +kernel
theorem dL_law_958 : decode cL_law 958 = .ok (.iaload, 1) := by decide +kernel
theorem dL_law_959 : decode cL_law 959 = .ok (.invokevirtual 158, 3) := by decide +kernel
theorem dL_law_962 : decode cL_law 962 = .ok (.istore 7, 2) := by decide +kernel
theorem dL_law_964 : decode cL_law 964 = .ok (.aload_n 2, 1) := by decide +kernel
theorem dL_law_965 : decode cL_law 965 = .ok (.invokevirtual 116, 3) := by decide +kernel
theorem dL_law_968 : decode cL_law 968 = .ok (.iload 6, 2) := by decide +kernel
theorem dL_law_970 : decode cL_law 970 = .ok (.if_icmp .eq 5, 3) := by decide +kernel
theorem dL_law_973 : decode cL_law 973 = .ok (.iconst 0, 1) := by decide +kernel
theorem dL_law_974 : decode cL_law 974 = .ok (.ireturn, 1) := by decide +kernel
theorem dL_law_975 : decode cL_law 975 = .ok (.iload 6, 2) := by decide +kernel
theorem dL_law_977 : decode cL_law 977 = .ok (.ifCond .ne 22, 3) := by decide +kernel
theorem dL_law_980 : decode cL_law 980 = .ok (.aload_n 3, 1) := by decide +kernel
theorem dL_law_981 : decode cL_law 981 = .ok (.iconst 0, 1) := by decide +kernel
theorem dL_law_982 : decode cL_law 982 = .ok (.laload, 1) := by decide +kernel
theorem dL_law_983 : decode cL_law 983 = .ok (.iload 7, 2) := by decide +kernel
theorem dL_law_985 : decode cL_law 985 = .ok (.ifCond .eq 7, 3) := by decide +kernel
theorem dL_law_988 : decode cL_law 988 = .ok (.lconst 1, 1) := by decide +kernel
theorem dL_law_989 : decode cL_law 989 = .ok (.goto 4, 3) := by decide +kernel
theorem dL_law_992 : decode cL_law 992 = .ok (.lconst 0, 1) := by decide +kernel
theorem dL_law_993 : decode cL_law 993 = .ok (.lcmp, 1) := by decide +kernel
theorem dL_law_994 : decode cL_law 994 = .ok (.ifCond .eq 5, 3) := by decide +kernel
theorem dL_law_997 : decode cL_law 997 = .ok (.iconst 0, 1) := by decide +kernel
theorem dL_law_998 : decode cL_law 998 = .ok (.ireturn, 1) := by decide +kernel
theorem dL_law_999 : decode cL_law 999 = .ok (.goto 793, 3) := by decide +kernel
theorem dL_law_1002 : decode cL_law 1002 = .ok (.aload_n 1, 1) := by decide +kernel
theorem dL_law_1003 : decode cL_law 1003 = .ok (.invokevirtual 159, 3) := by decide +kernel
theorem dL_law_1006 : decode cL_law 1006 = .ok (.aload_n 2, 1) := by decide +kernel
theorem dL_law_1007 : decode cL_law 1007 = .ok (.invokevirtual 162, 3) := by decide +kernel
theorem dL_law_1010 : decode cL_law 1010 = .ok (.if_icmp .eq 782, 3) := by decide +kernel
theorem dL_law_1013 : decode cL_law 1013 = .ok (.iconst 0, 1) := by decide +kernel
theorem dL_law_1014 : decode cL_law 1014 = .ok (.ireturn, 1) := by decide +kernel
theorem dL_law_1015 : decode cL_law 1015 = .ok (.aload_n 1, 1) := by decide +kernel
theorem dL_law_1016 : decode cL_law 1016 = .ok (.invokevirtual 163, 3) := by decide +kernel
theorem dL_law_1019 : decode cL_law 1019 = .ok (.aload_n 2, 1) := by decide +kernel
theorem dL_law_1020 : decode cL_law 1020 = .ok (.invokevirtual 166, 3) := by decide +kernel
theorem dL_law_1023 : decode cL_law 1023 = .ok (.if_icmp .eq 769, 3) := by decide +kernel
theorem dL_law_1026 : decode cL_law 1026 = .ok (.iconst 0, 1) := by decide +kernel
theorem dL_law_1027 : decode cL_law 1027 = .ok (.ireturn, 1) := by decide +kernel
theorem dL_law_1028 : decode cL_law 1028 = .ok (.aload_n 1, 1) := by decide +kernel
theorem dL_law_1029 : decode cL_law 1029 = .ok (.invokevirtual 167, 3) := by decide +kernel
theorem dL_law_1032 : decode cL_law 1032 = .ok (.aload_n 2, 1) := by decide +kernel
theorem dL_law_1033 : decode cL_law 1033 = .ok (.invokevirtual 170, 3) := by decide +kernel
theorem dL_law_1036 : decode cL_law 1036 = .ok (.if_icmp .eq 756, 3) := by decide +kernel
theorem dL_law_1039 : decode cL_law 1039 = .ok (.iconst 0, 1) := by decide +kernel
theorem dL_law_1040 : decode cL_law 1040 = .ok (.ireturn, 1) := by decide +kernel
theorem dL_law_1041 : decode cL_law 1041 = .ok (.aload_n 1, 1) := by decide +kernel
theorem dL_law_1042 : decode cL_law 1042 = .ok (.aload_n 0, 1) := by decide +kernel
theorem dL_law_1043 : decode cL_law 1043 = .ok (.iload 5, 2) := by decide +kernel
theorem dL_law_1045 : decode cL_law 1045 = .ok (.iconst 1, 1) := by decide +kernel
theorem dL_law_1046 : decode cL_law 1046 = .ok (.iadd, 1) := by decide +kernel
theorem dL_law_1047 : decode cL_law 1047 = .ok (.iaload, 1) := by decide +kernel
theorem dL_law_1048 : decode cL_law 1048 = .ok (.aload_n 3, 1) := by decide +kernel
theorem dL_law_1049 : decode cL_law 1049 = .ok (.invokestatic 171, 3) := by decide +kernel
theorem dL_law_1052 : decode cL_law 1052 = .ok (.istore 6, 2) := by decide +kernel
theorem dL_law_1054 : decode cL_law 1054 = .ok (.aload_n 2, 1) := by decide +kernel
theorem dL_law_1055 : decode cL_law 1055 = .ok (.aload_n 0, 1) := by decide +kernel
theorem dL_law_1056 : decode cL_law 1056 = .ok (.iload 5, 2) := by decide +kernel
theorem dL_law_1058 : decode cL_law 1058 = .ok (.iconst 1, 1) := by decide +kernel
theorem dL_law_1059 : decode cL_law 1059 = .ok (.iadd, 1) := by decide +kernel
theorem dL_law_1060 : decode cL_law 1060 = .ok (.iaload, 1) := by decide +kernel
theorem dL_law_1061 : decode cL_law 1061 = .ok (.invokevirtual 173, 3) := by decide +kernel
theorem dL_law_1064 : decode cL_law 1064 = .ok (.istore 7, 2) := by decide +kernel
theorem dL_law_1066 : decode cL_law 1066 = .ok (.aload_n 2, 1) := by decide +kernel
theorem dL_law_1067 : decode cL_law 1067 = .ok (.invokevirtual 116, 3) := by decide +kernel
theorem dL_law_1070 : decode cL_law 1070 = .ok (.iload 6, 2) := by decide +kernel
theorem dL_law_1072 : decode cL_law 1072 = .ok (.if_icmp .eq 5, 3) := by decide +kernel
theorem dL_law_1075 : decode cL_law 1075 = .ok (.iconst 0, 1) := by decide +kernel
theorem dL_law_1076 : decode cL_law 1076 = .ok (.ireturn, 1) := by decide +kernel
theorem dL_law_1077 : decode cL_law 1077 = .ok (.iload 6, 2) := by decide +kernel
theorem dL_law_1079 : decode cL_law 1079 = .ok (.ifCond .ne 15, 3) := by decide +kernel
theorem dL_law_1082 : decode cL_law 1082 = .ok (.aload_n 3, 1) := by decide +kernel
theorem dL_law_1083 : decode cL_law 1083 = .ok (.iconst 0, 1) := by decide +kernel
theorem dL_law_1084 : decode cL_law 1084 = .ok (.laload, 1) := by decide +kernel
theorem dL_law_1085 : decode cL_law 1085 = .ok (.iload 7, 2) := by decide +kernel
theorem dL_law_1087 : decode cL_law 1087 = .ok (.i2l, 1) := by decide +kernel
theorem dL_law_1088 : decode cL_law 1088 = .ok (.lcmp, 1) := by decide +kernel
theorem dL_law_1089 : decode cL_law 1089 = .ok (.ifCond .eq 5, 3) := by decide +kernel
theorem dL_law_1092 : decode cL_law 1092 = .ok (.iconst 0, 1) := by decide +kernel
theorem dL_law_1093 : decode cL_law 1093 = .ok (.ireturn, 1) := by decide +kernel
theorem dL_law_1094 : decode cL_law 1094 = .ok (.goto 698, 3) := by decide +kernel
theorem dL_law_1097 : decode cL_law 1097 = .ok (.aload_n 1, 1) := by decide +kernel
theorem dL_law_1098 : decode cL_law 1098 = .ok (.invokevirtual 174, 3) := by decide +kernel
theorem dL_law_1101 : decode cL_law 1101 = .ok (.aload_n 2, 1) := by decide +kernel
theorem dL_law_1102 : decode cL_law 1102 = .ok (.invokevirtual 177, 3) := by decide +kernel
theorem dL_law_1105 : decode cL_law 1105 = .ok (.if_icmp .eq 687, 3) := by decide +kernel
theorem dL_law_1108 : decode cL_law 1108 = .ok (.iconst 0, 1) := by decide +kernel
theorem dL_law_1109 : decode cL_law 1109 = .ok (.ireturn, 1) := by decide +kernel
theorem dL_law_1110 : decode cL_law 1110 = .ok (.aload_n 1, 1) := by decide +kernel
theorem dL_law_1111 : decode cL_law 1111 = .ok (.aload_n 0, 1) := by decide +kernel
theorem dL_law_1112 : decode cL_law 1112 = .ok (.iload 5, 2) := by decide +kernel
theorem dL_law_1114 : decode cL_law 1114 = .ok (.iconst 1, 1) := by decide +kernel
theorem dL_law_1115 : decode cL_law 1115 = .ok (.iadd, 1) := by decide +kernel
theorem dL_law_1116 : decode cL_law 1116 = .ok (.iaload, 1) := by decide +kernel
theorem dL_law_1117 : decode cL_law 1117 = .ok (.aload_n 0, 1) := by decide +kernel
theorem dL_law_1118 : decode cL_law 1118 = .ok (.iload 5, 2) := by decide +kernel
theorem dL_law_1120 : decode cL_law 1120 = .ok (.iconst 2, 1) := by decide +kernel
theorem dL_law_1121 : decode cL_law 1121 = .ok (.iadd, 1) := by decide +kernel
theorem dL_law_1122 : decode cL_law 1122 = .ok (.iaload, 1) := by decide +kernel
theorem dL_law_1123 : decode cL_law 1123 = .ok (.i2c, 1) := by decide +kernel
theorem dL_law_1124 : decode cL_law 1124 = .ok (.aload_n 3, 1) := by decide +kernel
theorem dL_law_1125 : decode cL_law 1125 = .ok (.invokestatic 178, 3) := by decide +kernel
theorem dL_law_1128 : decode cL_law 1128 = .ok (.istore 6, 2) := by decide +kernel
theorem dL_law_1130 : decode cL_law 1130 = .ok (.aload_n 2, 1) := by decide +kernel
theorem dL_law_1131 : decode cL_law 1131 = .ok (.aload_n 0, 1) := by decide +kernel
theorem dL_law_1132 : decode cL_law 1132 = .ok (.iload 5, 2) := by decide +kernel
theorem dL_law_1134 : decode cL_law 1134 = .ok (.iconst 1, 1) := by decide +kernel
theorem dL_law_1135 : decode cL_law 1135 = .ok (.iadd, 1) := by decide +kernel
theorem dL_law_1136 : decode cL_law 1136 = .ok (.iaload, 1) := by decide +kernel
theorem dL_law_1137 : decode cL_law 1137 = .ok (.aload_n 0, 1) := by decide +kernel
theorem dL_law_1138 : decode cL_law 1138 = .ok (.iload 5, 2) := by decide +kernel
theorem dL_law_1140 : decode cL_law 1140 = .ok (.iconst 2, 1) := by decide +kernel
theorem dL_law_1141 : decode cL_law 1141 = .ok (.iadd, 1) := by decide +kernel
theorem dL_law_1142 : decode cL_law 1142 = .ok (.iaload, 1) := by decide +kernel
theorem dL_law_1143 : decode cL_law 1143 = .ok (.i2c, 1) := by decide +kernel
theorem dL_law_1144 : decode cL_law 1144 = .ok (.invokevirtual 181, 3) := by decide +kernel
theorem dL_law_1147 : decode cL_law 1147 = .ok (.istore 7, 2) := by decide +kernel
theorem dL_law_1149 : decode cL_law 1149 = .ok (.aload_n 2, 1) := by decide +kernel
theorem dL_law_1150 : decode cL_law 1150 = .ok (.invokevirtual 116, 3) := by decide +kernel
theorem dL_law_1153 : decode cL_law 1153 = .ok (.iload 6, 2) := by decide +kernel
theorem dL_law_1155 : decode cL_law 1155 = .ok (.if_icmp .eq 5, 3) := by decide +kernel
theorem dL_law_1158 : decode cL_law 1158 = .ok (.iconst 0, 1) := by decide +kernel
theorem dL_law_1159 : decode cL_law 1159 = .ok (.ireturn, 1) := by decide +kernel
theorem dL_law_1160 : decode cL_law 1160 = .ok (.iload 6, 2) := by decide +kernel
theorem dL_law_1162 : decode cL_law 1162 = .ok (.ifCond .ne 15, 3) := by decide +kernel
theorem dL_law_1165 : decode cL_law 1165 = .ok (.aload_n 3, 1) := by decide +kernel
theorem dL_law_1166 : decode cL_law 1166 = .ok (.iconst 0, 1) := by decide +kernel
theorem dL_law_1167 : decode cL_law 1167 = .ok (.laload, 1) := by decide +kernel
theorem dL_law_1168 : decode cL_law 1168 = .ok (.iload 7, 2) := by decide +kernel
theorem dL_law_1170 : decode cL_law 1170 = .ok (.i2l, 1) := by decide +kernel
theorem dL_law_1171 : decode cL_law 1171 = .ok (.lcmp, 1) := by decide +kernel
theorem dL_law_1172 : decode cL_law 1172 = .ok (.ifCond .eq 5, 3) := by decide +kernel
theorem dL_law_1175 : decode cL_law 1175 = .ok (.iconst 0, 1) := by decide +kernel
theorem dL_law_1176 : decode cL_law 1176 = .ok (.ireturn, 1) := by decide +kernel
theorem dL_law_1177 : decode cL_law 1177 = .ok (.goto 615, 3) := by decide +kernel
theorem dL_law_1180 : decode cL_law 1180 = .ok (.aload_n 1, 1) := by decide +kernel
theorem dL_law_1181 : decode cL_law 1181 = .ok (.invokevirtual 182, 3) := by decide +kernel
theorem dL_law_1184 : decode cL_law 1184 = .ok (.aload_n 2, 1) := by decide +kernel
theorem dL_law_1185 : decode cL_law 1185 = .ok (.invokevirtual 185, 3) := by decide +kernel
theorem dL_law_1188 : decode cL_law 1188 = .ok (.if_icmp .eq 604, 3) := by decide +kernel
theorem dL_law_1191 : decode cL_law 1191 = .ok (.iconst 0, 1) := by decide +kernel
theorem dL_law_1192 : decode cL_law 1192 = .ok (.ireturn, 1) := by decide +kernel
theorem dL_law_1193 : decode cL_law 1193 = .ok (.aload_n 1, 1) := by decide +kernel
theorem dL_law_1194 : decode cL_law 1194 = .ok (.aload_n 0, 1) := by decide +kernel
theorem dL_law_1195 : decode cL_law 1195 = .ok (.iload 5, 2) := by decide +kernel
theorem dL_law_1197 : decode cL_law 1197 = .ok (.iconst 1, 1) := by decide +kernel
theorem dL_law_1198 : decode cL_law 1198 = .ok (.iadd, 1) := by decide +kernel
theorem dL_law_1199 : decode cL_law 1199 = .ok (.iaload, 1) := by decide +kernel
theorem dL_law_1200 : decode cL_law 1200 = .ok (.aload_n 3, 1) := by decide +kernel
theorem dL_law_1201 : decode cL_law 1201 = .ok (.invokestatic 186, 3) := by decide +kernel
theorem dL_law_1204 : decode cL_law 1204 = .ok (.istore 6, 2) := by decide +kernel
theorem dL_law_1206 : decode cL_law 1206 = .ok (.aload_n 2, 1) := by decide +kernel
theorem dL_law_1207 : decode cL_law 1207 = .ok (.aload_n 0, 1) := by decide +kernel
theorem dL_law_1208 : decode cL_law 1208 = .ok (.iload 5, 2) := by decide +kernel
theorem dL_law_1210 : decode cL_law 1210 = .ok (.iconst 1, 1) := by decide +kernel
theorem dL_law_1211 : decode cL_law 1211 = .ok (.iadd, 1) := by decide +kernel
theorem dL_law_1212 : decode cL_law 1212 = .ok (.iaload, 1) := by decide +kernel
theorem dL_law_1213 : decode cL_law 1213 = .ok (.invokevirtual 188, 3) := by decide +kernel
theorem dL_law_1216 : decode cL_law 1216 = .ok (.lstore 7, 2) := by decide +kernel
theorem dL_law_1218 : decode cL_law 1218 = .ok (.aload_n 2, 1) := by decide +kernel
theorem dL_law_1219 : decode cL_law 1219 = .ok (.invokevirtual 116, 3) := by decide +kernel
theorem dL_law_1222 : decode cL_law 1222 = .ok (.iload 6, 2) := by decide +kernel
theorem dL_law_1224 : decode cL_law 1224 = .ok (.if_icmp .eq 5, 3) := by decide +kernel
theorem dL_law_1227 : decode cL_law 1227 = .ok (.iconst 0, 1) := by decide +kernel
theorem dL_law_1228 : decode cL_law 1228 = .ok (.ireturn, 1) := by decide +kernel
theorem dL_law_1229 : decode cL_law 1229 = .ok (.iload 6, 2) := by decide +kernel
theorem dL_law_1231 : decode cL_law 1231 = .ok (.ifCond .ne 14, 3) := by decide +kernel
theorem dL_law_1234 : decode cL_law 1234 = .ok (.aload_n 3, 1) := by decide +kernel
theorem dL_law_1235 : decode cL_law 1235 = .ok (.iconst 0, 1) := by decide +kernel
theorem dL_law_1236 : decode cL_law 1236 = .ok (.laload, 1) := by decide +kernel
theorem dL_law_1237 : decode cL_law 1237 = .ok (.lload 7, 2) := by decide +kernel
theorem dL_law_1239 : decode cL_law 1239 = .ok (.lcmp, 1) := by decide +kernel
theorem dL_law_1240 : decode cL_law 1240 = .ok (.ifCond .eq 5, 3) := by decide +kernel
theorem dL_law_1243 : decode cL_law 1243 = .ok (.iconst 0, 1) := by decide +kernel
theorem dL_law_1244 : decode cL_law 1244 = .ok (.ireturn, 1) := by decide +kernel
theorem dL_law_1245 : decode cL_law 1245 = .ok (.goto 547, 3) := by decide +kernel
theorem dL_law_1248 : decode cL_law 1248 = .ok (.aload_n 1, 1) := by decide +kernel
theorem dL_law_1249 : decode cL_law 1249 = .ok (.aload_n 0, 1) := by decide +kernel
theorem dL_law_1250 : decode cL_law 1250 = .ok (.iload 5, 2) := by decide +kernel
theorem dL_law_1252 : decode cL_law 1252 = .ok (.iconst 1, 1) := by decide +kernel
theorem dL_law_1253 : decode cL_law 1253 = .ok (.iadd, 1) := by decide +kernel
theorem dL_law_1254 : decode cL_law 1254 = .ok (.iaload, 1) := by decide +kernel
theorem dL_law_1255 : decode cL_law 1255 = .ok (.aload_n 3, 1) := by decide +kernel
theorem dL_law_1256 : decode cL_law 1256 = .ok (.invokestatic 189, 3) := by decide +kernel
theorem dL_law_1259 : decode cL_law 1259 = .ok (.istore 6, 2) := by decide +kernel
theorem dL_law_1261 : decode cL_law 1261 = .ok (.aload_n 2, 1) := by decide +kernel
theorem dL_law_1262 : decode cL_law 1262 = .ok (.aload_n 0, 1) := by decide +kernel
theorem dL_law_1263 : decode cL_law 1263 = .ok (.iload 5, 2) := by decide +kernel
theorem dL_law_1265 : decode cL_law 1265 = .ok (.iconst 1, 1) := by decide +kernel
theorem dL_law_1266 : decode cL_law 1266 = .ok (.iadd, 1) := by decide +kernel
theorem dL_law_1267 : decode cL_law 1267 = .ok (.iaload, 1) := by decide +kernel
theorem dL_law_1268 : decode cL_law 1268 = .ok (.invokevirtual 191, 3) := by decide +kernel
theorem dL_law_1271 : decode cL_law 1271 = .ok (.istore 7, 2) := by decide +kernel
theorem dL_law_1273 : decode cL_law 1273 = .ok (.aload_n 2, 1) := by decide +kernel
theorem dL_law_1274 : decode cL_law 1274 = .ok (.invokevirtual 116, 3) := by decide +kernel
theorem dL_law_1277 : decode cL_law 1277 = .ok (.iload 6, 2) := by decide +kernel
theorem dL_law_1279 : decode cL_law 1279 = .ok (.if_icmp .eq 5, 3) := by decide +kernel
theorem dL_law_1282 : decode cL_law 1282 = .ok (.iconst 0, 1) := by decide +kernel
theorem dL_law_1283 : decode cL_law 1283 = .ok (.ireturn, 1) := by decide +kernel
theorem dL_law_1284 : decode cL_law 1284 = .ok (.iload 6, 2) := by decide +kernel
theorem dL_law_1286 : decode cL_law 1286 = .ok (.ifCond .ne 15, 3) := by decide +kernel
theorem dL_law_1289 : decode cL_law 1289 = .ok (.aload_n 3, 1) := by decide +kernel
theorem dL_law_1290 : decode cL_law 1290 = .ok (.iconst 0, 1) := by decide +kernel
theorem dL_law_1291 : decode cL_law 1291 = .ok (.laload, 1) := by decide +kernel
theorem dL_law_1292 : decode cL_law 1292 = .ok (.iload 7, 2) := by decide +kernel
theorem dL_law_1294 : decode cL_law 1294 = .ok (.i2l, 1) := by decide +kernel
theorem dL_law_1295 : decode cL_law 1295 = .ok (.lcmp, 1) := by decide +kernel
theorem dL_law_1296 : decode cL_law 1296 = .ok (.ifCond .eq 5, 3) := by decide +kernel
theorem dL_law_1299 : decode cL_law 1299 = .ok (.iconst 0, 1) := by decide +kernel
theorem dL_law_1300 : decode cL_law 1300 = .ok (.ireturn, 1) := by decide +kernel
theorem dL_law_1301 : decode cL_law 1301 = .ok (.goto 491, 3) := by decide +kernel
theorem dL_law_1304 : decode cL_law 1304 = .ok (.aload_n 1, 1) := by decide +kernel
theorem dL_law_1305 : decode cL_law 1305 = .ok (.aload_n 0, 1) := by decide +kernel
theorem dL_law_1306 : decode cL_law 1306 = .ok (.iload 5, 2) := by decide +kernel
theorem dL_law_1308 : decode cL_law 1308 = .ok (.iconst 1, 1) := by decide +kernel
theorem dL_law_1309 : decode cL_law 1309 = .ok (.iadd, 1) := by decide +kernel
theorem dL_law_1310 : decode cL_law 1310 = .ok (.iaload, 1) := by decide +kernel
theorem dL_law_1311 : decode cL_law 1311 = .ok (.aload_n 3, 1) := by decide +kernel
theorem dL_law_1312 : decode cL_law 1312 = .ok (.invokestatic 192, 3) := by decide +kernel
theorem dL_law_1315 : decode cL_law 1315 = .ok (.istore 6, 2) := by decide +kernel
theorem dL_law_1317 : decode cL_law 1317 = .ok (.aload_n 2, 1) := by decide +kernel
theorem dL_law_1318 : decode cL_law 1318 = .ok (.aload_n 0, 1) := by decide +kernel
theorem dL_law_1319 : decode cL_law 1319 = .ok (.iload 5, 2) := by decide +kernel
theorem dL_law_1321 : decode cL_law 1321 = .ok (.iconst 1, 1) := by decide +kernel
theorem dL_law_1322 : decode cL_law 1322 = .ok (.iadd, 1) := by decide +kernel
theorem dL_law_1323 : decode cL_law 1323 = .ok (.iaload, 1) := by decide +kernel
theorem dL_law_1324 : decode cL_law 1324 = .ok (.invokevirtual 194, 3) := by decide +kernel
theorem dL_law_1327 : decode cL_law 1327 = .ok (.istore 7, 2) := by decide +kernel
theorem dL_law_1329 : decode cL_law 1329 = .ok (.aload_n 2, 1) := by decide +kernel
theorem dL_law_1330 : decode cL_law 1330 = .ok (.invokevirtual 116, 3) := by decide +kernel
theorem dL_law_1333 : decode cL_law 1333 = .ok (.iload 6, 2) := by decide +kernel
theorem dL_law_1335 : decode cL_law 1335 = .ok (.if_icmp .eq 5, 3) := by decide +kernel
theorem dL_law_1338 : decode cL_law 1338 = .ok (.iconst 0, 1) := by decide +kernel
theorem dL_law_1339 : decode cL_law 1339 = .ok (.ireturn, 1) := by decide +kernel
theorem dL_law_1340 : decode cL_law 1340 = .ok (.iload 6, 2) := by decide +kernel
theorem dL_law_1342 : decode cL_law 1342 = .ok (.ifCond .ne 15, 3) := by decide +kernel
theorem dL_law_1345 : decode cL_law 1345 = .ok (.aload_n 3, 1) := by decide +kernel
theorem dL_law_1346 : decode cL_law 1346 = .ok (.iconst 0, 1) := by decide +kernel
theorem dL_law_1347 : decode cL_law 1347 = .ok (.laload, 1) := by decide +kernel
theorem dL_law_1348 : decode cL_law 1348 = .ok (.iload 7, 2) := by decide +kernel
theorem dL_law_1350 : decode cL_law 1350 = .ok (.i2l, 1) := by decide +kernel
theorem dL_law_1351 : decode cL_law 1351 = .ok (.lcmp, 1) := by decide +kernel
theorem dL_law_1352 : decode cL_law 1352 = .ok (.ifCond .eq 5, 3) := by decide +kernel
theorem dL_law_1355 : decode cL_law 1355 = .ok (.iconst 0, 1) := by decide +kernel
theorem dL_law_1356 : decode cL_law 1356 = .ok (.ireturn, 1) := by decide +kernel
theorem dL_law_1357 : decode cL_law 1357 = .ok (.goto 435, 3) := by decide +kernel
theorem dL_law_1360 : decode cL_law 1360 = .ok (.aload_n 1, 1) := by decide +kernel
theorem dL_law_1361 : decode cL_law 1361 = .ok (.aload_n 0, 1) := by decide +kernel
theorem dL_law_1362 : decode cL_law 1362 = .ok (.iload 5, 2) := by decide +kernel
theorem dL_law_1364 : decode cL_law 1364 = .ok (.iconst 1, 1) := by decide +kernel
theorem dL_law_1365 : decode cL_law 1365 = .ok (.iadd, 1) := by decide +kernel
theorem dL_law_1366 : decode cL_law 1366 = .ok (.iaload, 1) := by decide +kernel
theorem dL_law_1367 : decode cL_law 1367 = .ok (.aload_n 3, 1) := by decide +kernel
theorem dL_law_1368 : decode cL_law 1368 = .ok (.invokestatic 195, 3) := by decide +kernel
theorem dL_law_1371 : decode cL_law 1371 = .ok (.istore 6, 2) := by decide +kernel
theorem dL_law_1373 : decode cL_law 1373 = .ok (.aload_n 2, 1) := by decide +kernel
theorem dL_law_1374 : decode cL_law 1374 = .ok (.aload_n 0, 1) := by decide +kernel
theorem dL_law_1375 : decode cL_law 1375 = .ok (.iload 5, 2) := by decide +kernel
theorem dL_law_1377 : decode cL_law 1377 = .ok (.iconst 1, 1) := by decide +kernel
theorem dL_law_1378 : decode cL_law 1378 = .ok (.iadd, 1) := by decide +kernel
theorem dL_law_1379 : decode cL_law 1379 = .ok (.iaload, 1) := by decide +kernel
theorem dL_law_1380 : decode cL_law 1380 = .ok (.invokevirtual 197, 3) := by decide +kernel
theorem dL_law_1383 : decode cL_law 1383 = .ok (.istore 7, 2) := by decide +kernel
theorem dL_law_1385 : decode cL_law 1385 = .ok (.aload_n 2, 1) := by decide +kernel
theorem dL_law_1386 : decode cL_law 1386 = .ok (.invokevirtual 116, 3) := by decide +kernel
theorem dL_law_1389 : decode cL_law 1389 = .ok (.iload 6, 2) := by decide +kernel
theorem dL_law_1391 : decode cL_law 1391 = .ok (.if_icmp .eq 5, 3) := by decide +kernel
theorem dL_law_1394 : decode cL_law 1394 = .ok (.iconst 0, 1) := by decide +kernel
theorem dL_law_1395 : decode cL_law 1395 = .ok (.ireturn, 1) := by decide +kernel
theorem dL_law_1396 : decode cL_law 1396 = .ok (.iload 6, 2) := by decide +kernel
theorem dL_law_1398 : decode cL_law 1398 = .ok (.ifCond .ne 22, 3) := by decide +kernel
theorem dL_law_1401 : decode cL_law 1401 = .ok (.aload_n 3, 1) := by decide +kernel
theorem dL_law_1402 : decode cL_law 1402 = .ok (.iconst 0, 1) := by decide +kernel
theorem dL_law_1403 : decode cL_law 1403 = .ok (.laload, 1) := by decide +kernel
theorem dL_law_1404 : decode cL_law 1404 = .ok (.iload 7, 2) := by decide +kernel
theorem dL_law_1406 : decode cL_law 1406 = .ok (.ifCond .eq 7, 3) := by decide +kernel
theorem dL_law_1409 : decode cL_law 1409 = .ok (.lconst 1, 1) := by decide +kernel
theorem dL_law_1410 : decode cL_law 1410 = .ok (.goto 4, 3) := by decide +kernel
theorem dL_law_1413 : decode cL_law 1413 = .ok (.lconst 0, 1) := by decide +kernel
theorem dL_law_1414 : decode cL_law 1414 = .ok (.lcmp, 1) := by decide +kernel
theorem dL_law_1415 : decode cL_law 1415 = .ok (.ifCond .eq 5, 3) := by decide +kernel
theorem dL_law_1418 : decode cL_law 1418 = .ok (.iconst 0, 1) := by decide +kernel
theorem dL_law_1419 : decode cL_law 1419 = .ok (.ireturn, 1) := by decide +kernel
theorem dL_law_1420 : decode cL_law 1420 = .ok (.goto 372, 3) := by decide +kernel
theorem dL_law_1423 : decode cL_law 1423 = .ok (.aload_n 1, 1) := by decide +kernel
theorem dL_law_1424 : decode cL_law 1424 = .ok (.aload_n 0, 1) := by decide +kernel
theorem dL_law_1425 : decode cL_law 1425 = .ok (.iload 5, 2) := by decide +kernel
theorem dL_law_1427 : decode cL_law 1427 = .ok (.iconst 1, 1) := by decide +kernel
theorem dL_law_1428 : decode cL_law 1428 = .ok (.iadd, 1) := by decide +kernel
theorem dL_law_1429 : decode cL_law 1429 = .ok (.iaload, 1) := by decide +kernel
theorem dL_law_1430 : decode cL_law 1430 = .ok (.aload_n 3, 1) := by decide +kernel
theorem dL_law_1431 : decode cL_law 1431 = .ok (.invokestatic 198, 3) := by decide +kernel
theorem dL_law_1434 : decode cL_law 1434 = .ok (.istore 6, 2) := by decide +kernel
theorem dL_law_1436 : decode cL_law 1436 = .ok (.aload_n 2, 1) := by decide +kernel
theorem dL_law_1437 : decode cL_law 1437 = .ok (.aload_n 0, 1) := by decide +kernel
theorem dL_law_1438 : decode cL_law 1438 = .ok (.iload 5, 2) := by decide +kernel
theorem dL_law_1440 : decode cL_law 1440 = .ok (.iconst 1, 1) := by decide +kernel
theorem dL_law_1441 : decode cL_law 1441 = .ok (.iadd, 1) := by decide +kernel
theorem dL_law_1442 : decode cL_law 1442 = .ok (.iaload, 1) := by decide +kernel
theorem dL_law_1443 : decode cL_law 1443 = .ok (.invokevirtual 200, 3) := by decide +kernel
theorem dL_law_1446 : decode cL_law 1446 = .ok (.istore 7, 2) := by decide +kernel
theorem dL_law_1448 : decode cL_law 1448 = .ok (.aload_n 2, 1) := by decide +kernel
theorem dL_law_1449 : decode cL_law 1449 = .ok (.invokevirtual 116, 3) := by decide +kernel
theorem dL_law_1452 : decode cL_law 1452 = .ok (.iload 6, 2) := by decide +kernel
theorem dL_law_1454 : decode cL_law 1454 = .ok (.if_icmp .eq 5, 3) := by decide +kernel
theorem dL_law_1457 : decode cL_law 1457 = .ok (.iconst 0, 1) := by decide +kernel
theorem dL_law_1458 : decode cL_law 1458 = .ok (.ireturn, 1) := by decide +kernel
theorem dL_law_1459 : decode cL_law 1459 = .ok (.iload 6, 2) := by decide +kernel
theorem dL_law_1461 : decode cL_law 1461 = .ok (.ifCond .ne 15, 3) := by decide +kernel
theorem dL_law_1464 : decode cL_law 1464 = .ok (.aload_n 3, 1) := by decide +kernel
theorem dL_law_1465 : decode cL_law 1465 = .ok (.iconst 0, 1) := by decide +kernel
theorem dL_law_1466 : decode cL_law 1466 = .ok (.laload, 1) := by decide +kernel
theorem dL_law_1467 : decode cL_law 1467 = .ok (.iload 7, 2) := by decide +kernel
theorem dL_law_1469 : decode cL_law 1469 = .ok (.i2l, 1) := by decide +kernel
theorem dL_law_1470 : decode cL_law 1470 = .ok (.lcmp, 1) := by decide +kernel
theorem dL_law_1471 : decode cL_law 1471 = .ok (.ifCond .eq 5, 3) := by decide +kernel
theorem dL_law_1474 : decode cL_law 1474 = .ok (.iconst 0, 1) := by decide +kernel
theorem dL_law_1475 : decode cL_law 1475 = .ok (.ireturn, 1) := by decide +kernel
theorem dL_law_1476 : decode cL_law 1476 = .ok (.goto 316, 3) := by decide +kernel
theorem dL_law_1479 : decode cL_law 1479 = .ok (.aload_n 1, 1) := by decide +kernel
theorem dL_law_1480 : decode cL_law 1480 = .ok (.aload_n 0, 1) := by decide +kernel
theorem dL_law_1481 : decode cL_law 1481 = .ok (.iload 5, 2) := by decide +kernel
theorem dL_law_1483 : decode cL_law 1483 = .ok (.iconst 1, 1) := by decide +kernel
theorem dL_law_1484 : decode cL_law 1484 = .ok (.iadd, 1) := by decide +kernel
theorem dL_law_1485 : decode cL_law 1485 = .ok (.iaload, 1) := by decide +kernel
theorem dL_law_1486 : decode cL_law 1486 = .ok (.aload_n 3, 1) := by decide +kernel
theorem dL_law_1487 : decode cL_law 1487 = .ok (.invokestatic 201, 3) := by decide +kernel
theorem dL_law_1490 : decode cL_law 1490 = .ok (.istore 6, 2) := by decide +kernel
theorem dL_law_1492 : decode cL_law 1492 = .ok (.aload_n 2, 1) := by decide +kernel
theorem dL_law_1493 : decode cL_law 1493 = .ok (.aload_n 0, 1) := by decide +kernel
theorem dL_law_1494 : decode cL_law 1494 = .ok (.iload 5, 2) := by decide +kernel
theorem dL_law_1496 : decode cL_law 1496 = .ok (.iconst 1, 1) := by decide +kernel
theorem dL_law_1497 : decode cL_law 1497 = .ok (.iadd, 1) := by decide +kernel
theorem dL_law_1498 : decode cL_law 1498 = .ok (.iaload, 1) := by decide +kernel
theorem dL_law_1499 : decode cL_law 1499 = .ok (.invokevirtual 203, 3) := by decide +kernel
theorem dL_law_1502 : decode cL_law 1502 = .ok (.istore 7, 2) := by decide +kernel
theorem dL_law_1504 : decode cL_law 1504 = .ok (.aload_n 2, 1) := by decide +kernel
theorem dL_law_1505 : decode cL_law 1505 = .ok (.invokevirtual 116, 3) := by decide +kernel
theorem dL_law_1508 : decode cL_law 1508 = .ok (.iload 6, 2) := by decide +kernel
theorem dL_law_1510 : decode cL_law 1510 = .ok (.if_icmp .eq 5, 3) := by decide +kernel
theorem dL_law_1513 : decode cL_law 1513 = .ok (.iconst 0, 1) := by decide +kernel
theorem dL_law_1514 : decode cL_law 1514 = .ok (.ireturn, 1) := by decide +kernel
theorem dL_law_1515 : decode cL_law 1515 = .ok (.iload 6, 2) := by decide +kernel
theorem dL_law_1517 : decode cL_law 1517 = .ok (.ifCond .ne 15, 3) := by decide +kernel
theorem dL_law_1520 : decode cL_law 1520 = .ok (.aload_n 3, 1) := by decide +kernel
theorem dL_law_1521 : decode cL_law 1521 = .ok (.iconst 0, 1) := by decide +kernel
theorem dL_law_1522 : decode cL_law 1522 = .ok (.laload, 1) := by decide +kernel
theorem dL_law_1523 : decode cL_law 1523 = .ok (.iload 7, 2) := by decide +kernel
theorem dL_law_1525 : decode cL_law 1525 = .ok (.i2l, 1) := by decide +kernel
theorem dL_law_1526 : decode cL_law 1526 = .ok (.lcmp, 1) := by decide +kernel
theorem dL_law_1527 : decode cL_law 1527 = .ok (.ifCond .eq 5, 3) := by decide +kernel
theorem dL_law_1530 : decode cL_law 1530 = .ok (.iconst 0, 1) := by decide +kernel
theorem dL_law_1531 : decode cL_law 1531 = .ok (.ireturn, 1) := by decide +kernel
theorem dL_law_1532 : decode cL_law 1532 = .ok (.goto 260, 3) := by decide +kernel
theorem dL_law_1535 : decode cL_law 1535 = .ok (.aload_n 1, 1) := by decide +kernel
theorem dL_law_1536 : decode cL_law 1536 = .ok (.aload_n 0, 1) := by decide +kernel
theorem dL_law_1537 : decode cL_law 1537 = .ok (.iload 5, 2) := by decide +kernel
theorem dL_law_1539 : decode cL_law 1539 = .ok (.iconst 1, 1) := by decide +kernel
theorem dL_law_1540 : decode cL_law 1540 = .ok (.iadd, 1) := by decide +kernel
theorem dL_law_1541 : decode cL_law 1541 = .ok (.iaload, 1) := by decide +kernel
theorem dL_law_1542 : decode cL_law 1542 = .ok (.aload_n 3, 1) := by decide +kernel
theorem dL_law_1543 : decode cL_law 1543 = .ok (.invokestatic 204, 3) := by decide +kernel
theorem dL_law_1546 : decode cL_law 1546 = .ok (.istore 6, 2) := by decide +kernel
theorem dL_law_1548 : decode cL_law 1548 = .ok (.aload_n 2, 1) := by decide +kernel
theorem dL_law_1549 : decode cL_law 1549 = .ok (.aload_n 0, 1) := by decide +kernel
theorem dL_law_1550 : decode cL_law 1550 = .ok (.iload 5, 2) := by decide +kernel
theorem dL_law_1552 : decode cL_law 1552 = .ok (.iconst 1, 1) := by decide +kernel
theorem dL_law_1553 : decode cL_law 1553 = .ok (.iadd, 1) := by decide +kernel
theorem dL_law_1554 : decode cL_law 1554 = .ok (.iaload, 1) := by decide +kernel
theorem dL_law_1555 : decode cL_law 1555 = .ok (.invokevirtual 206, 3) := by decide +kernel
theorem dL_law_1558 : decode cL_law 1558 = .ok (.istore 7, 2) := by decide +kernel
theorem dL_law_1560 : decode cL_law 1560 = .ok (.aload_n 2, 1) := by decide +kernel
theorem dL_law_1561 : decode cL_law 1561 = .ok (.invokevirtual 116, 3) := by decide +kernel
theorem dL_law_1564 : decode cL_law 1564 = .ok (.iload 6, 2) := by decide +kernel
theorem dL_law_1566 : decode cL_law 1566 = .ok (.if_icmp .eq 5, 3) := by decide +kernel
theorem dL_law_1569 : decode cL_law 1569 = .ok (.iconst 0, 1) := by decide +kernel
theorem dL_law_1570 : decode cL_law 1570 = .ok (.ireturn, 1) := by decide +kernel
theorem dL_law_1571 : decode cL_law 1571 = .ok (.iload 6, 2) := by decide +kernel
theorem dL_law_1573 : decode cL_law 1573 = .ok (.ifCond .ne 15, 3) := by decide +kernel
theorem dL_law_1576 : decode cL_law 1576 = .ok (.aload_n 3, 1) := by decide +kernel
theorem dL_law_1577 : decode cL_law 1577 = .ok (.iconst 0, 1) := by decide +kernel
theorem dL_law_1578 : decode cL_law 1578 = .ok (.laload, 1) := by decide +kernel
theorem dL_law_1579 : decode cL_law 1579 = .ok (.iload 7, 2) := by decide +kernel
theorem dL_law_1581 : decode cL_law 1581 = .ok (.i2l, 1) := by decide +kernel
theorem dL_law_1582 : decode cL_law 1582 = .ok (.lcmp, 1) := by decide +kernel
theorem dL_law_1583 : decode cL_law 1583 = .ok (.ifCond .eq 5, 3) := by decide +kernel
theorem dL_law_1586 : decode cL_law 1586 = .ok (.iconst 0, 1) := by decide +kernel
theorem dL_law_1587 : decode cL_law 1587 = .ok (.ireturn, 1) := by decide +kernel
theorem dL_law_1588 : decode cL_law 1588 = .ok (.goto 204, 3) := by decide +kernel
theorem dL_law_1591 : decode cL_law 1591 = .ok (.aload_n 1, 1) := by decide +kernel
theorem dL_law_1592 : decode cL_law 1592 = .ok (.aload_n 3, 1) := by decide +kernel
theorem dL_law_1593 : decode cL_law 1593 = .ok (.invokestatic 207, 3) := by decide +kernel
theorem dL_law_1596 : decode cL_law 1596 = .ok (.istore 6, 2) := by decide +kernel
theorem dL_law_1598 : decode cL_law 1598 = .ok (.aload_n 2, 1) := by decide +kernel
theorem dL_law_1599 : decode cL_law 1599 = .ok (.invokevirtual 210, 3) := by decide +kernel
theorem dL_law_1602 : decode cL_law 1602 = .ok (.istore 7, 2) := by decide +kernel
theorem dL_law_1604 : decode cL_law 1604 = .ok (.aload_n 2, 1) := by decide +kernel
theorem dL_law_1605 : decode cL_law 1605 = .ok (.invokevirtual 116, 3) := by decide +kernel
theorem dL_law_1608 : decode cL_law 1608 = .ok (.iload 6, 2) := by decide +kernel
theorem dL_law_1610 : decode cL_law 1610 = .ok (.if_icmp .eq 5, 3) := by decide +kernel
theorem dL_law_1613 : decode cL_law 1613 = .ok (.iconst 0, 1) := by decide +kernel
theorem dL_law_1614 : decode cL_law 1614 = .ok (.ireturn, 1) := by decide +kernel
theorem dL_law_1615 : decode cL_law 1615 = .ok (.iload 6, 2) := by decide +kernel
theorem dL_law_1617 : decode cL_law 1617 = .ok (.ifCond .ne 15, 3) := by decide +kernel
theorem dL_law_1620 : decode cL_law 1620 = .ok (.aload_n 3, 1) := by decide +kernel
theorem dL_law_1621 : decode cL_law 1621 = .ok (.iconst 0, 1) := by decide +kernel
theorem dL_law_1622 : decode cL_law 1622 = .ok (.laload, 1) := by decide +kernel
theorem dL_law_1623 : decode cL_law 1623 = .ok (.iload 7, 2) := by decide +kernel
theorem dL_law_1625 : decode cL_law 1625 = .ok (.i2l, 1) := by decide +kernel
theorem dL_law_1626 : decode cL_law 1626 = .ok (.lcmp, 1) := by decide +kernel
theorem dL_law_1627 : decode cL_law 1627 = .ok (.ifCond .eq 5, 3) := by decide +kernel
theorem dL_law_1630 : decode cL_law 1630 = .ok (.iconst 0, 1) := by decide +kernel
theorem dL_law_1631 : decode cL_law 1631 = .ok (.ireturn, 1) := by decide +kernel
theorem dL_law_1632 : decode cL_law 1632 = .ok (.goto 160, 3) := by decide +kernel
theorem dL_law_1635 : decode cL_law 1635 = .ok (.aload_n 1, 1) := by decide +kernel
theorem dL_law_1636 : decode cL_law 1636 = .ok (.invokevirtual 211, 3) := by decide +kernel
theorem dL_law_1639 : decode cL_law 1639 = .ok (.aload_n 2, 1) := by decide +kernel
theorem dL_law_1640 : decode cL_law 1640 = .ok (.invokevirtual 214, 3) := by decide +kernel
theorem dL_law_1643 : decode cL_law 1643 = .ok (.if_icmp .eq 149, 3) := by decide +kernel
theorem dL_law_1646 : decode cL_law 1646 = .ok (.iconst 0, 1) := by decide +kernel
theorem dL_law_1647 : decode cL_law 1647 = .ok (.ireturn, 1) := by decide +kernel
theorem dL_law_1648 : decode cL_law 1648 = .ok (.aload_n 1, 1) := by decide +kernel
theorem dL_law_1649 : decode cL_law 1649 = .ok (.aload 4, 2) := by decide +kernel
theorem dL_law_1651 : decode cL_law 1651 = .ok (.invokestatic 215, 3) := by decide +kernel
theorem dL_law_1654 : decode cL_law 1654 = .ok (.istore 6, 2) := by decide +kernel
theorem dL_law_1656 : decode cL_law 1656 = .ok (.aload_n 2, 1) := by decide +kernel
theorem dL_law_1657 : decode cL_law 1657 = .ok (.invokevirtual 218, 3) := by decide +kernel
theorem dL_law_1660 : decode cL_law 1660 = .ok (.fstore 7, 2) := by decide +kernel
theorem dL_law_1662 : decode cL_law 1662 = .ok (.aload_n 2, 1) := by decide +kernel
theorem dL_law_1663 : decode cL_law 1663 = .ok (.invokevirtual 116, 3) := by decide +kernel
theorem dL_law_1666 : decode cL_law 1666 = .ok (.iload 6, 2) := by decide +kernel
theorem dL_law_1668 : decode cL_law 1668 = .ok (.if_icmp .eq 5, 3) := by decide +kernel
theorem dL_law_1671 : decode cL_law 1671 = .ok (.iconst 0, 1) := by decide +kernel
theorem dL_law_1672 : decode cL_law 1672 = .ok (.ireturn, 1) := by decide +kernel
theorem dL_law_1673 : decode cL_law 1673 = .ok (.iload 6, 2) := by decide +kernel
theorem dL_law_1675 : decode cL_law 1675 = .ok (.ifCond .ne 36, 3) := by decide +kernel
theorem dL_law_1678 : decode cL_law 1678 = .ok (.aload 4, 2) := by decide +kernel
theorem dL_law_1680 : decode cL_law 1680 = .ok (.iconst 0, 1) := by decide +kernel
theorem dL_law_1681 : decode cL_law 1681 = .ok (.daload, 1) := by decide +kernel
theorem dL_law_1682 : decode cL_law 1682 = .ok (.fload 7, 2) := by decide +kernel
theorem dL_law_1684 : decode cL_law 1684 = .ok (.f2d, 1) := by decide +kernel
theorem dL_law_1685 : decode cL_law 1685 = .ok (.dcmp .l, 1) := by decide +kernel
theorem dL_law_1686 : decode cL_law 1686 = .ok (.ifCond .eq 25, 3) := by decide +kernel
theorem dL_law_1689 : decode cL_law 1689 = .ok (.aload 4, 2) := by decide +kernel
theorem dL_law_1691 : decode cL_law 1691 = .ok (.iconst 0, 1) := by decide +kernel
theorem dL_law_1692 : decode cL_law 1692 = .ok (.daload, 1) := by decide +kernel
theorem dL_law_1693 : decode cL_law 1693 = .ok (.aload 4, 2) := by decide +kernel
theorem dL_law_1695 : decode cL_law 1695 = .ok (.iconst 0, 1) := by decide +kernel
theorem dL_law_1696 : decode cL_law 1696 = .ok (.daload, 1) := by decide +kernel
theorem dL_law_1697 : decode cL_law 1697 = .ok (.dcmp .l, 1) := by decide +kernel
theorem dL_law_1698 : decode cL_law 1698 = .ok (.ifCond .eq 11, 3) := by decide +kernel
theorem dL_law_1701 : decode cL_law 1701 = .ok (.fload 7, 2) := by decide +kernel
theorem dL_law_1703 : decode cL_law 1703 = .ok (.fload 7, 2) := by decide +kernel
theorem dL_law_1705 : decode cL_law 1705 = .ok (.fcmp .l, 1) := by decide +kernel
theorem dL_law_1706 : decode cL_law 1706 = .ok (.ifCond .ne 5, 3) := by decide +kernel
theorem dL_law_1709 : decode cL_law 1709 = .ok (.iconst 0, 1) := by decide +kernel
theorem dL_law_1710 : decode cL_law 1710 = .ok (.ireturn, 1) := by decide +kernel
theorem dL_law_1711 : decode cL_law 1711 = .ok (.goto 81, 3) := by decide +kernel
theorem dL_law_1714 : decode cL_law 1714 = .ok (.aload_n 1, 1) := by decide +kernel
theorem dL_law_1715 : decode cL_law 1715 = .ok (.aload 4, 2) := by decide +kernel
theorem dL_law_1717 : decode cL_law 1717 = .ok (.invokestatic 219, 3) := by decide +kernel
theorem dL_law_1720 : decode cL_law 1720 = .ok (.istore 6, 2) := by decide +kernel
theorem dL_law_1722 : decode cL_law 1722 = .ok (.aload_n 2, 1) := by decide +kernel
theorem dL_law_1723 : decode cL_law 1723 = .ok (.invokevirtual 221, 3) := by decide +kernel
theorem dL_law_1726 : decode cL_law 1726 = .ok (.dstore 7, 2) := by decide +kernel
theorem dL_law_1728 : decode cL_law 1728 = .ok (.aload_n 2, 1) := by decide +kernel
theorem dL_law_1729 : decode cL_law 1729 = .ok (.invokevirtual 116, 3) := by decide +kernel
theorem dL_law_1732 : decode cL_law 1732 = .ok (.iload 6, 2) := by decide +kernel
theorem dL_law_1734 : decode cL_law 1734 = .ok (.if_icmp .eq 5, 3) := by decide +kernel
theorem dL_law_1737 : decode cL_law 1737 = .ok (.iconst 0, 1) := by decide +kernel
theorem dL_law_1738 : decode cL_law 1738 = .ok (.ireturn, 1) := by decide +kernel
theorem dL_law_1739 : decode cL_law 1739 = .ok (.iload 6, 2) := by decide +kernel
theorem dL_law_1741 : decode cL_law 1741 = .ok (.ifCond .ne 35, 3) := by decide +kernel
theorem dL_law_1744 : decode cL_law 1744 = .ok (.aload 4, 2) := by decide +kernel
theorem dL_law_1746 : decode cL_law 1746 = .ok (.iconst 0, 1) := by decide +kernel
theorem dL_law_1747 : decode cL_law 1747 = .ok (.daload, 1) := by decide +kernel
theorem dL_law_1748 : decode cL_law 1748 = .ok (.dload 7, 2) := by decide +kernel
theorem dL_law_1750 : decode cL_law 1750 = .ok (.dcmp .l, 1) := by decide +kernel
theorem dL_law_1751 : decode cL_law 1751 = .ok (.ifCond .eq 25, 3) := by decide +kernel
theorem dL_law_1754 : decode cL_law 1754 = .ok (.aload 4, 2) := by decide +kernel
theorem dL_law_1756 : decode cL_law 1756 = .ok (.iconst 0, 1) := by decide +kernel
theorem dL_law_1757 : decode cL_law 1757 = .ok (.daload, 1) := by decide +kernel
theorem dL_law_1758 : decode cL_law 1758 = .ok (.aload 4, 2) := by decide +kernel
theorem dL_law_1760 : decode cL_law 1760 = .ok (.iconst 0, 1) := by decide +kernel
theorem dL_law_1761 : decode cL_law 1761 = .ok (.daload, 1) := by decide +kernel
theorem dL_law_1762 : decode cL_law 1762 = .ok (.dcmp .l, 1) := by decide +kernel
theorem dL_law_1763 : decode cL_law 1763 = .ok (.ifCond .eq 11, 3) := by decide +kernel
theorem dL_law_1766 : decode cL_law 1766 = .ok (.dload 7, 2) := by decide +kernel
theorem dL_law_1768 : decode cL_law 1768 = .ok (.dload 7, 2) := by decide +kernel
theorem dL_law_1770 : decode cL_law 1770 = .ok (.dcmp .l, 1) := by decide +kernel
theorem dL_law_1771 : decode cL_law 1771 = .ok (.ifCond .ne 5, 3) := by decide +kernel
theorem dL_law_1774 : decode cL_law 1774 = .ok (.iconst 0, 1) := by decide +kernel
theorem dL_law_1775 : decode cL_law 1775 = .ok (.ireturn, 1) := by decide +kernel
theorem dL_law_1776 : decode cL_law 1776 = .ok (.goto 16, 3) := by decide +kernel
theorem dL_law_1779 : decode cL_law 1779 = .ok (.aload_n 1, 1) := by decide +kernel
theorem dL_law_1780 : decode cL_law 1780 = .ok (.invokevirtual 222, 3) := by decide +kernel
theorem dL_law_1783 : decode cL_law 1783 = .ok (.aload_n 2, 1) := by decide +kernel
theorem dL_law_1784 : decode cL_law 1784 = .ok (.invokevirtual 226, 3) := by decide +kernel
theorem dL_law_1787 : decode cL_law 1787 = .ok (.if_icmp .eq 5, 3) := by decide +kernel
theorem dL_law_1790 : decode cL_law 1790 = .ok (.iconst 0, 1) := by decide +kernel
theorem dL_law_1791 : decode cL_law 1791 = .ok (.ireturn, 1) := by decide +kernel
theorem dL_law_1792 : decode cL_law 1792 = .ok (.iinc 5 4, 3) := by decide +kernel
theorem dL_law_1795 : decode cL_law 1795 = .ok (.goto (-1767), 3) := by decide +kernel
theorem dL_law_1798 : decode cL_law 1798 = .ok (.iconst 1, 1) := by decide +kernel
theorem dL_law_1799 : decode cL_law 1799 = .ok (.ireturn, 1) := by decide +kernel
abbrev vwCl : List vw_C := [(RJ0, TJ0, 2), (RJx00060, TJx00060, 6), (RJx4a65c, TJx4a65c, 3), (RX0, TX0, 3), (RX1, TX1, 3), (RX2, TX2, 6), (RX3, TX3, 1), (RX4, TX4, 10), (RX5, TX5, 2), (RX6, TX6, 11), (RX7, TX7, 27)]
/-! ===== END printed: names ===== -/
end
section
/-! THE NAMED HEAP: a world is a function from names to cells; a cell's references are names; 'ad' says where a name lies. -/
-- abstract values: an int (by a whole number), a reference (by a name), a long, a float, a double
abbrev AV : Type := Int ⊕ (Option Nat ⊕ (Int ⊕ (UInt32 ⊕ UInt64)))
abbrev vI (x : Int) : AV := .inl x
abbrev vR (r : Option Nat) : AV := .inr (.inl r)
abbrev vL (x : Int) : AV := .inr (.inr (.inl x))
abbrev vF (x : UInt32) : AV := .inr (.inr (.inr (.inl x)))
abbrev vD (x : UInt64) : AV := .inr (.inr (.inr (.inr x)))
def iI (x : Int) : Int32 := Int32.ofInt x
def iL (x : Int) : Int64 := Int64.ofInt x
def cv (ad : Nat → Nat) (v : AV) : Value := match v with
  | .inl x => .int (iI x)
  | .inr (.inl r) => va_rf (r.map ad)
  | .inr (.inr (.inl x)) => .long (iL x)
  | .inr (.inr (.inr (.inl x))) => .float x
  | .inr (.inr (.inr (.inr x))) => .double x
def c2 (v : AV) : Bool := match v with
  | .inr (.inr (.inl _)) => true
  | .inr (.inr (.inr (.inr _))) => true
  | _ => false
theorem cv_cat (ad : Nat → Nat) (v : AV) : (cv ad v).category = if c2 v then 2 else 1 := by
  rcases v with x | (_ | r) | x | x | x <;> rfl
theorem cv_cat1 (ad : Nat → Nat) {v : AV} (h : c2 v = false) : (cv ad v).category = 1 := by rw [cv_cat, h]; rfl
abbrev AC : Type := (Nat × List AV) ⊕ (Nat × Nat × (Nat → AV))
abbrev GH : Type := Nat → Option AC
def arT (t : Nat) : FieldType := match t with
  | 0 => .int
  | 1 => .long
  | 2 => .boolean
  | 3 => .char
  | 4 => .double
  | 5 => .object "Swapyard$Page"
  | _ => .object "java/lang/Object"
def tyl (dT : Nat → ClassId) : List (ClassId × FieldType) := [(dT 0, arT 0), (dT 1, arT 1), (dT 2, arT 2), (dT 3, arT 3), (dT 4, arT 4), (dT 5, arT 5), (dT 6, arT 6)]
def nrp1 (D : va_G) (dT : Nat → ClassId) (ad : Nat → Nat) (n : Nat) (c : AC) (H : Heap) : Prop := match c with
  | .inl o => ∃ r : vw_C, vwCl[o.1]? = some r ∧ t_OB (ad n) (D.1 o.1) r.2.2 (D.2 o.1) H (vp_V (o.2.map (cv ad)))
  | .inr a => a.1 < 7 ∧ H[ad n]? = some (arrV (dT a.1) a.2.1 (fun j => cv ad (a.2.2 j)))
def nrp (D : va_G) (dT : Nat → ClassId) (ad : Nat → Nat) (G : GH) (H : Heap) : Prop := ∀ n c, G n = some c → nrp1 D dT ad n c H
def gup (G : GH) (n : Nat) (c : AC) : GH := fun j => if j = n then some c else G j
def fgn (n : Nat) : Prop := n = 500 ∨ n = 1013
def rfo (v : AV) : Option Nat := match v with
  | .inr (.inl r) => r
  | _ => none
def okv (G : GH) (v : AV) : Prop := ∀ n, rfo v = some n → G n ≠ none ∨ fgn n
def okc (G : GH) (c : AC) : Prop := match c with
  | .inl o => ∀ v ∈ o.2, okv G v
  | .inr a => ∀ j, j < a.2.1 → okv G (a.2.2 j)
def okG (G : GH) : Prop := (∀ n c, G n = some c → okc G c) ∧ ∀ n, fgn n → G n = none
def inj (ad : Nat → Nat) (G : GH) : Prop := ∀ a b, G a ≠ none → G b ≠ none → ad a = ad b → a = b
def ow (A : Nat → Prop) (ad : Nat → Nat) (G : GH) : Prop := ∀ n, G n ≠ none → A (ad n)
def gA (ad : Nat → Nat) (G : GH) (sz : Nat) : Nat → Prop := fun q => (∃ n, G n ≠ none ∧ ad n = q) ∨ sz ≤ q
def dcl0 : List MethodName := [⟨"java/lang/RuntimeException", "<init>", "(Ljava/lang/String;)V"⟩, ⟨"java/lang/Exception", "<init>", "(Ljava/lang/String;)V"⟩, ⟨"java/lang/Throwable", "<init>", "(Ljava/lang/String;)V"⟩]
def exl : List String := ["java/lang/IllegalArgumentException", "java/lang/IllegalStateException", "java/lang/IndexOutOfBoundsException", "java/lang/UnsupportedOperationException", "java/util/NoSuchElementException", "java/lang/ArithmeticException"]
def cstl0 : List (String × String) := [("Swapyard$Page", "java/lang/Object"), ("Swapyard$Service", "java/lang/Object"), ("java/lang/IllegalArgumentException", "java/lang/IllegalArgumentException"), ("java/lang/IllegalStateException", "java/lang/IllegalStateException"), ("java/lang/IndexOutOfBoundsException", "java/lang/IndexOutOfBoundsException"), ("java/lang/UnsupportedOperationException", "java/lang/UnsupportedOperationException"), ("java/util/NoSuchElementException", "java/util/NoSuchElementException"), ("java/lang/ArithmeticException", "java/lang/ArithmeticException")]
/-- what the tables and the constants give, and stays under every warming -/
def VF (strl : List (Nat × String)) (nst : List (Nat × MethodName × String)) (U : State) : Prop :=
  (∀ q ∈ cstl0, va_Nw (.castable q.1 q.2) U) ∧ (∀ E ∈ exl, ∀ F ∈ exl, E ≠ F → va_Nc E F U) ∧ va_AO "Swapyard$Page" U ∧ va_AO "java/lang/Object" U ∧ (∃ mi, va_Mi "[Ljava/lang/Object;" mi U) ∧ va_Dc U ∧
  (∀ q ∈ strl, ∃ a, vk_R "Swapyard" q.1 q.2 a U) ∧ (∀ q ∈ nst, va_Nw (.methodLinkNest "Swapyard" q.1 q.2.1 q.2.2) U) ∧ ∀ y ∈ dcl0, va_Nw (.declares y) U
theorem VF.warm {strl : List (Nat × String)} {nst : List (Nat × MethodName × String)} {s U : State} (hW : s.WarmedH U.vm) (h : VF strl nst s) : VF strl nst U := by
  obtain ⟨h1, h2, h3, h4, ⟨mi, h5⟩, h6, h7, h8, h9⟩ := h
  refine ⟨fun q hq => (h1 q hq).warmC hW, fun E hE F hF hn => (h2 E hE F hF hn).moved hW.alike, h3.moved hW.alike, h4.moved hW.alike, ⟨mi, h5.moved hW.alike⟩, h6.moved hW.alike, fun q hq => ?_, fun q hq => (h8 q hq).warmM hW, fun y hy => (h9 y hy).warmD hW⟩
  obtain ⟨a, ha⟩ := h7 q hq
  exact ⟨a, vk_R.warm hW ha⟩
/-- what lies in the heap and nobody writes -/
def HF (ad : Nat → Nat) (A : Nat → Prop) (U : State) (H : Heap) : Prop :=
  vx_Zq Bundle.tN "UNASSIGNED_STACK" Bundle.steD A U H ∧ vx_Zq Bundle.tN "SUPPRESSED_SENTINEL" Bundle.listD A U H ∧
  va_Z "java/util/ArrayList" "DEFAULTCAPACITY_EMPTY_ELEMENTDATA" "[Ljava/lang/Object;" (.ref (ad 1013)) A U H ∧ va_T (.object "java/lang/Object") (ad 1013) 0 (fun _ => .null) A U H
theorem HF.moved {ad : Nat → Nat} {A : Nat → Prop} {u U : State} {H : Heap} (hvm : u.vm.Alike U.vm) (h : HF ad A u H) : HF ad A U H := ⟨h.1.moved hvm, h.2.1.moved hvm, h.2.2.1.moved hvm, h.2.2.2.moved hvm⟩
theorem HF.kept {ad : Nat → Nat} {A : Nat → Prop} {U : State} {H H1 : Heap} (h : HF ad A U H) (hq : ∀ a : Nat, a < H.size → ¬ A a → H1[a]? = H[a]?) : HF ad A U H1 := ⟨h.1.kept hq, h.2.1.kept hq, h.2.2.1.kept hq, h.2.2.2.kept hq⟩
theorem HF.narrow {ad : Nat → Nat} {A B : Nat → Prop} {U : State} {H : Heap} (h : HF ad A U H) (hAB : ∀ q, B q → A q) : HF ad B U H := ⟨h.1.narrow hAB, h.2.1.narrow hAB, h.2.2.1.narrow hAB, h.2.2.2.narrow hAB⟩
theorem HF.ad {ad ad' : Nat → Nat} {A : Nat → Prop} {U : State} {H : Heap} (h : HF ad A U H) (e : ad' 1013 = ad 1013) : HF ad' A U H := by
  unfold HF at h ⊢
  rw [e]
  exact h
-- the words: one list for every method
def lw_good : List Cond := lw_tbl.filter goodWord
theorem lw_goodIn : GoodIn lw_good lw_good := fun w h => ⟨h, good_of_word (List.mem_filter.mp h).2⟩
theorem q9 {w : Cond} (i : Nat) (h : tables_1[i]? = some w) (hg : goodWord w = true) : w ∈ lw_good := List.mem_filter.mpr ⟨List.mem_append_right _ (List.mem_of_getElem? h), hg⟩
theorem q8 {w : Cond} (i : Nat) (h : (k2_sels lw_privs)[i]? = some w) (hg : goodWord w = true) : w ∈ lw_good := List.mem_filter.mpr ⟨List.mem_append_left _ (List.mem_of_getElem? h), hg⟩
def strl0 : List (Nat × String) := [(54, "no such policy"), (65, "no more services"), (85, "a service does not need itself"), (97, "the other one needs this one"), (118, "the page is in the store"), (146, "the service does not run"), (180, "the page is in no frame"), (198, "no such page in the store"), (208, "no such place"), (220, "all services that it needs run"), (225, "the service is not dead"), (246, "no service is alive"), (256, "no touches"), (272, "out of range"), (276, "no such service"), (283, "no such page")]
def nst0 : List (Nat × MethodName × String) := [(11, ⟨"Swapyard$History", "<init>", "()V"⟩, "Swapyard"), (18, ⟨"Swapyard$Frames", "<init>", "()V"⟩, "Swapyard"), (25, ⟨"Swapyard$Store", "<init>", "()V"⟩, "Swapyard"), (32, ⟨"Swapyard$RecentStalls", "<init>", "()V"⟩, "Swapyard")]
def rmk (lev mc ms : Nat) : Room := { frames := 20 + 2 * lev, cells := mc, slots := ms, locals := 300 + 60 * lev }
/-- the end of a method: the heap holds G', at ad' -/
def FN (D : va_G) (dT : Nat → ClassId) (ad : Nat → Nat) (nw : Nat → Prop) (G : GH) (A : Nat → Prop) (G' : GH) (ad' : Nat → Nat) (st t : State) : Prop :=
  okG G' ∧ nrp D dT ad' G' t.heap ∧ inj ad' G' ∧ ow A ad' G' ∧ (∀ n, ¬ nw n → ad' n = ad n) ∧ (∀ n, G n ≠ none → G' n ≠ none) ∧ va_F A st t
def QN (D : va_G) (dT : Nat → ClassId) (ad : Nat → Nat) (nw : Nat → Prop) (G : GH) (A : Nat → Prop) (Po : Option AV → GH → Prop) : Array Value → State → Outcome → State → Prop := fun _ st o t =>
  ∃ (r : Option AV) (G' : GH) (ad' : Nat → Nat), o = .returned (r.map (cv ad')) ∧ Po r G' ∧ (∀ v, r = some v → okv G' v) ∧ FN D dT ad nw G A G' ad' st t
def XN (D : va_G) (dT : Nat → ClassId) (ad : Nat → Nat) (nw : Nat → Prop) (G : GH) (A : Nat → Prop) (Px : String → GH → Prop) : String → State → State → Prop := fun E st t =>
  ∃ (G' : GH) (ad' : Nat → Nat), Px E G' ∧ FN D dT ad nw G A G' ad' st t
def PN (D : va_G) (dT : Nat → ClassId) (ad : Nat → Nat) (G : GH) (av : List AV) (sz : Nat) : Array Value → State → Prop :=
  va_Pc (av.map (cv ad)) (fun U => U.heap.size = sz ∧ okG G ∧ (∀ v ∈ av, okv G v) ∧ nrp D dT ad G U.heap ∧ inj ad G ∧ va_K D vwCl (tyl dT) U ∧ HF ad (gA ad G sz) U U.heap ∧ VF strl0 nst0 U)
theorem PN.blind {D : va_G} {dT : Nat → ClassId} {ad : Nat → Nat} {G : GH} {av : List AV} {sz : Nat} : FrameBlind (PN D dT ad G av sz) := by
  intro a U g mk h
  obtain ⟨h0, h1, h2, h3, h4, h5, h6, h7, h8⟩ := h
  exact ⟨h0, h1, h2, h3, h4, h5, va_K.moved (u := U) (U := U.calling g mk a) (Vm.Alike.refl U.vm) h6, HF.moved (u := U) (U := U.calling g mk a) (Vm.Alike.refl U.vm) h7, VF.warm (s := U) (U := U.calling g mk a) (State.WarmedH.refl U) h8⟩
def wsy (y : MethodName) (bytes : ByteArray) (maxL : Nat) (ret : Option FieldType) : List Cond := .code y bytes maxL ret :: lw_good
def wsh (y : MethodName) (bytes : ByteArray) (maxL : Nat) (ret : Option FieldType) (hh : List (Nat × Nat × Nat × Nat)) : List Cond := .codeWith y bytes maxL ret hh :: lw_good
/-- A METHOD'S CONTRACT: from every heap that holds G, with the arguments av: it returns with Po, or throws E with Px E -/
def Con (y : MethodName) (ws : List Cond) (lev mc ms : Nat) (nw : Nat → Prop) (av : List AV) (G : GH) (Po : Option AV → GH → Prop) (Px : String → GH → Prop) : Prop :=
  ∀ (l : Launch) (D : va_G) (dT : Nat → ClassId) (ad : Nat → Nat) (sz : Nat), l.stackTraces = false →
    vx_Met l y ws (rmk lev mc ms) (PN D dT ad G av sz) (QN D dT ad nw G (gA ad G sz) Po) (XN D dT ad nw G (gA ad G sz) Px) mc ms (gA ad G sz)
/-! THE JUDGEMENT IN A METHOD'S BODY -/
/-- the method's entry: machine, launch .., class ids, the names' places, the heap at the start, room, ends -/
abbrev Kx : Type := (Program × Launch × Env × State × MethodId × Array Value × List Frame × Method × Code) × (va_G × (Nat → ClassId) × (Nat → Nat) × GH × (Nat → Prop)) × (Nat × Nat × Nat × (Nat → Prop)) × ((Option AV → GH → Prop) × (String → GH → Prop))
def kp (k : Kx) : Program := k.1.1
def kl (k : Kx) : Launch := k.1.2.1
def ke (k : Kx) : Env := k.1.2.2.1
def ks (k : Kx) : State := k.1.2.2.2.1
def km (k : Kx) : MethodId := k.1.2.2.2.2.1
def ka (k : Kx) : Array Value := k.1.2.2.2.2.2.1
def kb (k : Kx) : List Frame := k.1.2.2.2.2.2.2.1
def kmeth (k : Kx) : Method := k.1.2.2.2.2.2.2.2.1
def kc (k : Kx) : Code := k.1.2.2.2.2.2.2.2.2
def kD (k : Kx) : va_G := k.2.1.1
def kdT (k : Kx) : Nat → ClassId := k.2.1.2.1
def kad (k : Kx) : Nat → Nat := k.2.1.2.2.1
def kG (k : Kx) : GH := k.2.1.2.2.2.1
def kA (k : Kx) : Nat → Prop := k.2.1.2.2.2.2
def klev (k : Kx) : Nat := k.2.2.1.1
def kmc (k : Kx) : Nat := k.2.2.1.2.1
def kms (k : Kx) : Nat := k.2.2.1.2.2.1
def knw (k : Kx) : Nat → Prop := k.2.2.1.2.2.2
def kPo (k : Kx) : Option AV → GH → Prop := k.2.2.2.1
def kPx (k : Kx) : String → GH → Prop := k.2.2.2.2
def kR (k : Kx) : Room := rmk (klev k) (kmc k) (kms k)
def kQ (k : Kx) : State → Prop := vx_MQ (kb k) (QN (kD k) (kdT k) (kad k) (knw k) (kG k) (kA k) (kPo k)) (XN (kD k) (kdT k) (kad k) (knw k) (kG k) (kA k) (kPx k)) (ka k) (ks k) (kmc k) (kms k) (kA k)
/-- what holds throughout the body -/
def CX (k : Kx) (own : String) (cc : ByteArray) (nL : Nat) : Prop :=
  (kp k).tables.exec = Jvm.exec ∧ (kc k).code = cc ∧ (kc k).maxLocals = nL ∧ (ks k).vm.findClass own = some (km k).cls ∧ (∀ w ∈ lw_good, w.before (ka k) (ks k) = true) ∧ (kmeth k).locks = false ∧
  (kl k).stackTraces = false ∧ va_K (kD k) vwCl (tyl (kdT k)) (ks k) ∧ HF (kad k) (kA k) (ks k) (ks k).heap ∧ VF strl0 nst0 (ks k) ∧ (∀ q, (ks k).heap.size ≤ q → kA k q) ∧ ¬ knw k 1013 ∧ ¬ knw k 500
/-- the heap at a point of the body -/
def MS (k : Kx) (ad : Nat → Nat) (G : GH) (H : Heap) (locs : List Loc) : Prop :=
  nrp (kD k) (kdT k) ad G H ∧ inj ad G ∧ ow (kA k) ad G ∧ (∀ n, ¬ knw k n → ad n = kad k n) ∧ (∀ n, kG k n ≠ none → G n ≠ none) ∧ va_S (kA k) (ks k).heap H locs
def WK (k : Kx) (H : Heap) (locs : List Loc) (ct sl pc : Nat) (ls : Array Slot) (st : List Value) : Prop :=
  W (kp k) (kl k) (ke k) (kR k) (ks k) (km k) (ka k) (kb k) (kmeth k) (kc k) H locs ct sl (kQ k) (F0 (km k) pc ls st)
def cvl (ad : Nat → Nat) (lv : List (Nat × AV)) : List (Nat × Value) := lv.map (fun q => (q.1, cv ad q.2))
def OKS (G : GH) (lv : List (Nat × AV)) (st : List AV) : Prop := okG G ∧ (∀ q ∈ lv, okv G q.2) ∧ ∀ v ∈ st, okv G v
def EV (k : Kx) (pc : Nat) (lv : List (Nat × AV)) (st : List AV) (G : GH) (ct sl : Nat) : Prop :=
  OKS G lv st → ∀ (ad : Nat → Nat) (H : Heap) (locs : List Loc) (ls : Array Slot), MS k ad G H locs → lv_has ls (kc k).maxLocals (cvl ad lv) → WK k H locs ct sl pc ls (st.map (cv ad))
/-- an exception of class E is on its way, thrown by the instruction at pc -/
def EX (k : Kx) (E : String) (pc : Nat) (lv : List (Nat × AV)) (G : GH) (ct sl : Nat) : Prop :=
  OKS G lv [] → ∀ (ad : Nat → Nat) (H : Heap) (locs : List Loc) (ls : Array Slot) (rest : List Value) (q : Addr) (ce : Cell), MS k ad G H locs → lv_has ls (kc k).maxLocals (cvl ad lv) → H[q]? = some ce → ce.vm = .none → (ks k).vm.findClass E = some ce.cls →
    vx_W (kp k) (kl k) (ke k) (kR k) (ks k) (km k) (ka k) (kb k) (kmeth k) (kc k) H locs ct sl (kQ k) (F0 (km k) pc ls rest) q
theorem con_i {y : MethodName} {cc : ByteArray} {nL : Nat} {ret : Option FieldType} {lev mc ms : Nat} {nw : Nat → Prop} {av : List AV} {G : GH} {Po : Option AV → GH → Prop} {Px : String → GH → Prop} (hy : plainName y.cls = true) (hnw : ¬ nw 1013 ∧ ¬ nw 500) (hlen : ∀ ad, (lg_sl (av.map (cv ad))).length ≤ nL)
    {lv : List (Nat × AV)} (hlv : ∀ ad, lv_args 0 (av.map (cv ad)) = cvl ad lv) (hlo : ∀ q ∈ lv, q.2 ∈ av)
    (body : ∀ k : Kx, CX k y.cls cc nL → (kmeth k).sig.returnType = ret → (kmeth k).name = y.name → kG k = G → klev k = lev → kmc k = mc → kms k = ms → knw k = nw → kPo k = Po → kPx k = Px → (∀ x ∈ (kc k).exceptionTable.toList, False) → EV k 0 lv [] G 0 0) : Con y (wsy y cc nL ret) lev mc ms nw av G Po Px := by
  intro l D dT ad sz hl
  refine vx_ofW (cc := cc) (maxL := nL) (ret := ret) hy rfl ?_
  intro p e s m args below meth c s₁ B hml htab hv
  obtain ⟨rfl, hsz, hok, hav, hrp, hinj, hK, hH, hV⟩ := hv
  subst hsz
  have hts := atoms_spec (ws := wsy y cc nL ret) B.pre
  have hC : CX ((p, l, e, s, m, (av.map (cv ad)).toArray, below, meth, c), (D, dT, ad, G, gA ad G s.heap.size), (lev, mc, ms, nw), (Po, Px)) y.cls cc nL :=
    ⟨B.exec, B.bytes, hml, findClass_of_methodNamed B.named, fun w h => hts w (List.mem_cons_of_mem _ h), B.notSynchronized, hl, hK, hH, hV, fun q h => Or.inr h, hnw.1, hnw.2⟩
  have hl1 := lv_entry (av.map (cv ad)) (n := nL) (hlen ad)
  rw [hlv ad] at hl1
  rw [lg_entry_eq]
  have hE := body _ hC B.returns (name_of_methodNamed B.named B.method).1 rfl rfl rfl rfl rfl rfl rfl htab ⟨hok, fun q hq => hav _ (hlo q hq), fun v hv => nomatch hv⟩ ad s.heap []
    ((lg_sl (av.map (cv ad)) ++ List.replicate (nL - (lg_sl (av.map (cv ad))).length) Slot.unset).toArray)
    ⟨hrp, hinj, fun n hn => Or.inl ⟨n, hn, rfl⟩, fun _ _ => rfl, fun _ h => h, va_S.rf⟩ (by show lv_has _ c.maxLocals _; rw [hml]; exact hl1)
  exact hE
theorem con_h {y : MethodName} {cc : ByteArray} {nL : Nat} {ret : Option FieldType} {hh : List (Nat × Nat × Nat × Nat)} {lev mc ms : Nat} {nw : Nat → Prop} {av : List AV} {G : GH} {Po : Option AV → GH → Prop} {Px : String → GH → Prop} (hy : plainName y.cls = true) (hcw : Cond.codeWith y cc nL ret hh ∈ lw_good) (hnw : ¬ nw 1013 ∧ ¬ nw 500) (hlen : ∀ ad, (lg_sl (av.map (cv ad))).length ≤ nL)
    {lv : List (Nat × AV)} (hlv : ∀ ad, lv_args 0 (av.map (cv ad)) = cvl ad lv) (hlo : ∀ q ∈ lv, q.2 ∈ av)
    (body : ∀ k : Kx, CX k y.cls cc nL → (kmeth k).sig.returnType = ret → (kmeth k).name = y.name → kG k = G → klev k = lev → kmc k = mc → kms k = ms → knw k = nw → kPo k = Po → kPx k = Px → (kc k).exceptionTable.toList = tableOf hh → EV k 0 lv [] G 0 0) : Con y (wsh y cc nL ret hh) lev mc ms nw av G Po Px := by
  intro l D dT ad sz hl
  refine vx_ofWH (cc := cc) (maxL := nL) (ret := ret) (hh := hh) hy rfl ?_
  intro p e s m args below meth c s₁ B hml hv
  obtain ⟨rfl, hsz, hok, hav, hrp, hinj, hK, hH, hV⟩ := hv
  subst hsz
  have hts := atoms_spec (ws := wsh y cc nL ret hh) B.pre
  have htab := vx_table (x := y) B (hts _ List.mem_cons_self)
  have hC : CX ((p, l, e, s, m, (av.map (cv ad)).toArray, below, meth, c), (D, dT, ad, G, gA ad G s.heap.size), (lev, mc, ms, nw), (Po, Px)) y.cls cc nL :=
    ⟨B.exec, B.bytes, hml, findClass_of_methodNamed B.named, fun w h => hts w (List.mem_cons_of_mem _ h), B.notSynchronized, hl, hK, hH, hV, fun q h => Or.inr h, hnw.1, hnw.2⟩
  have hl1 := lv_entry (av.map (cv ad)) (n := nL) (hlen ad)
  rw [hlv ad] at hl1
  rw [lg_entry_eq]
  have hE := body _ hC B.returns (name_of_methodNamed B.named B.method).1 rfl rfl rfl rfl rfl rfl rfl htab ⟨hok, fun q hq => hav _ (hlo q hq), fun v hv => nomatch hv⟩ ad s.heap []
    ((lg_sl (av.map (cv ad)) ++ List.replicate (nL - (lg_sl (av.map (cv ad))).length) Slot.unset).toArray)
    ⟨hrp, hinj, fun n hn => Or.inl ⟨n, hn, rfl⟩, fun _ _ => rfl, fun _ h => h, va_S.rf⟩ (by show lv_has _ c.maxLocals _; rw [hml]; exact hl1)
  exact hE
-- what a site of the code needs of the words
def FLk (own : String) (index ci j : Nat) (fin : Nat) (ty : FieldType) : Prop :=
  ∃ (C : String) (T : u_T) (N : Nat) (tyf : Nat → FieldType) (ref : String), vwCl[ci]? = some (C, T, N) ∧ (∀ w ∈ u_ws C T N, w ∈ lw_good) ∧ j < N ∧ (∀ i, i < N → parseFieldDescriptor (T i).2.2.1 = some (tyf i)) ∧ (∀ a, a < N → ∀ b, b < N → a ≠ b → (T a).2.1 ≠ (T b).2.1) ∧
    Cond.fieldLink own index ref (T j).2.1 (T j).2.2.1 ∈ lw_good ∧ (ref = (T j).1 ∨ Cond.sameField ref (T j).1 (T j).2.1 (T j).2.2.1 ∈ lw_good) ∧ (T j).2.2.2 = (fin != 0) ∧ (fin = 1 → (T j).1 = own) ∧ parseFieldDescriptor (T j).2.2.1 = some ty
def NWk (own : String) (index ci N : Nat) (fs : List AV) : Prop :=
  ∃ (C : String) (T : u_T) (tyf : Nat → FieldType), vwCl[ci]? = some (C, T, N) ∧ (∀ w ∈ u_ws C T N, w ∈ lw_good) ∧ (∀ i, i < N → parseFieldDescriptor (T i).2.2.1 = some (tyf i)) ∧ Cond.classLink own index C ∈ lw_good ∧ Cond.instantiable C N ∈ lw_good ∧ Cond.initialized C ∈ lw_good ∧
    (∀ ad j, j < N → defaultValue (tyf j) = vp_V (fs.map (cv ad)) j) ∧ ∀ v ∈ fs, rfo v = none
def MLk (own : String) (index : Nat) (y : MethodName) (na : Nat) : Prop :=
  Cond.methodLink own index y ∈ lw_good ∧ Cond.initialized y.cls ∈ lw_good ∧ (y.cls ≠ "java/lang/invoke/MethodHandle" ∧ y.cls ≠ "java/lang/invoke/VarHandle" ∧ (parseMethodDescriptor y.desc).map (fun d => d.parameters.length) = some na)
def MLv (y : MethodName) : Prop := Cond.instanceMethod y ∈ lw_good ∧ Cond.selects y.cls y y ∈ lw_good
def rtx : List String := ["java/lang/RuntimeException", "java/lang/Exception"]
def TLk (ik ic : Nat) (cls : String) : Prop :=
  Bundle.fit cls = true ∧ Cond.classLink "Swapyard" ik cls ∈ lw_good ∧ Cond.initialized cls ∈ lw_good ∧ (cls, cls) ∈ cstl0 ∧ (∀ w ∈ (vx_atS "Swapyard" ic cls rtx).filter goodWord, w ∈ lw_good) ∧ (∀ w ∈ (vx_atS "Swapyard" ic cls rtx).filter (fun w => !goodWord w), w ∈ Cond.castable cls cls :: dcl0.map Cond.declares) ∧ ∀ w ∈ Cond.classLink "Swapyard" ik cls :: Cond.initialized cls :: vx_atS "Swapyard" ic cls rtx, vx_ot w = true
end
section
/-! THE WORDS, each by its place in the tables -/
set_option maxRecDepth 100000 in
theorem q9_n : lw_privs.length = 47 := by decide +kernel
set_option maxRecDepth 100000 in
theorem inJx4a65c : ∀ w ∈ u_ws RJx4a65c TJx4a65c 3, w ∈ lw_good := by decide +kernel
theorem vcJx4a65c : vwCl[2]? = some (RJx4a65c, TJx4a65c, 3) := rfl
set_option maxRecDepth 100000 in
theorem inX0 : ∀ w ∈ u_ws RX0 TX0 3, w ∈ lw_good := by decide +kernel
theorem vcX0 : vwCl[3]? = some (RX0, TX0, 3) := rfl
set_option maxRecDepth 100000 in
theorem inX1 : ∀ w ∈ u_ws RX1 TX1 3, w ∈ lw_good := by decide +kernel
theorem vcX1 : vwCl[4]? = some (RX1, TX1, 3) := rfl
set_option maxRecDepth 100000 in
theorem inX2 : ∀ w ∈ u_ws RX2 TX2 6, w ∈ lw_good := by decide +kernel
theorem vcX2 : vwCl[5]? = some (RX2, TX2, 6) := rfl
set_option maxRecDepth 100000 in
theorem inX3 : ∀ w ∈ u_ws RX3 TX3 1, w ∈ lw_good := by decide +kernel
theorem vcX3 : vwCl[6]? = some (RX3, TX3, 1) := rfl
set_option maxRecDepth 100000 in
theorem inX4 : ∀ w ∈ u_ws RX4 TX4 10, w ∈ lw_good := by decide +kernel
theorem vcX4 : vwCl[7]? = some (RX4, TX4, 10) := rfl
set_option maxRecDepth 100000 in
theorem inX5 : ∀ w ∈ u_ws RX5 TX5 2, w ∈ lw_good := by decide +kernel
theorem vcX5 : vwCl[8]? = some (RX5, TX5, 2) := rfl
set_option maxRecDepth 100000 in
theorem inX6 : ∀ w ∈ u_ws RX6 TX6 11, w ∈ lw_good := by decide +kernel
theorem vcX6 : vwCl[9]? = some (RX6, TX6, 11) := rfl
set_option maxRecDepth 100000 in
theorem inX7 : ∀ w ∈ u_ws RX7 TX7 27, w ∈ lw_good := by decide +kernel
theorem vcX7 : vwCl[10]? = some (RX7, TX7, 27) := rfl
set_option maxRecDepth 100000 in
theorem kf_X1_9 : FLk RX1 9 4 0 1 (.array .int) := ⟨_, _, _, tyX1, "Swapyard$History", vcX1, inX1, by decide, tyX1_ok, nmX1, q9 44 (by decide +kernel) (by decide +kernel), Or.inl rfl, rfl, (fun _ => rfl), by decide +kernel⟩
set_option maxRecDepth 100000 in
theorem kf_X1_19 : FLk RX1 19 4 1 0 .int := ⟨_, _, _, tyX1, "Swapyard$History", vcX1, inX1, by decide, tyX1_ok, nmX1, q9 45 (by decide +kernel) (by decide +kernel), Or.inl rfl, rfl, (fun h => by cases h), by decide +kernel⟩
set_option maxRecDepth 100000 in
theorem kf_X1_15 : FLk RX1 15 4 2 1 (.array .char) := ⟨_, _, _, tyX1, "Swapyard$History", vcX1, inX1, by decide, tyX1_ok, nmX1, q9 46 (by decide +kernel) (by decide +kernel), Or.inl rfl, rfl, (fun _ => rfl), by decide +kernel⟩
set_option maxRecDepth 100000 in
theorem kf_X0_11 : FLk RX0 11 3 0 1 (.array (.object "Swapyard$Page")) := ⟨_, _, _, tyX0, "Swapyard$Frames", vcX0, inX0, by decide, tyX0_ok, nmX0, q9 64 (by decide +kernel) (by decide +kernel), Or.inl rfl, rfl, (fun _ => rfl), by decide +kernel⟩
set_option maxRecDepth 100000 in
theorem kf_X0_17 : FLk RX0 17 3 1 0 .int := ⟨_, _, _, tyX0, "Swapyard$Frames", vcX0, inX0, by decide, tyX0_ok, nmX0, q9 65 (by decide +kernel) (by decide +kernel), Or.inl rfl, rfl, (fun h => by cases h), by decide +kernel⟩
set_option maxRecDepth 100000 in
theorem kf_X6_122 : FLk RX6 122 3 1 0 .int := ⟨_, _, _, tyX0, "Swapyard$Frames", vcX0, inX0, by decide, tyX0_ok, nmX0, q9 66 (by decide +kernel) (by decide +kernel), Or.inl rfl, rfl, (fun h => by cases h), by decide +kernel⟩
set_option maxRecDepth 100000 in
theorem kf_X0_25 : FLk RX0 25 3 2 0 .int := ⟨_, _, _, tyX0, "Swapyard$Frames", vcX0, inX0, by decide, tyX0_ok, nmX0, q9 67 (by decide +kernel) (by decide +kernel), Or.inl rfl, rfl, (fun h => by cases h), by decide +kernel⟩
set_option maxRecDepth 100000 in
theorem kf_X6_186 : FLk RX6 186 3 2 0 .int := ⟨_, _, _, tyX0, "Swapyard$Frames", vcX0, inX0, by decide, tyX0_ok, nmX0, q9 68 (by decide +kernel) (by decide +kernel), Or.inl rfl, rfl, (fun h => by cases h), by decide +kernel⟩
set_option maxRecDepth 100000 in
theorem kf_Jx4a65c_9 : FLk RJx4a65c 9 2 1 0 (.array (.object "java/lang/Object")) := ⟨_, _, _, tyJx4a65c, "java/util/ArrayList", vcJx4a65c, inJx4a65c, by decide, tyJx4a65c_ok, nmJx4a65c, q9 96 (by decide +kernel) (by decide +kernel), Or.inl rfl, rfl, (fun h => by cases h), by decide +kernel⟩
set_option maxRecDepth 100000 in
theorem kf_Jx4a65c_48 : FLk RJx4a65c 48 2 2 0 .int := ⟨_, _, _, tyJx4a65c, "java/util/ArrayList", vcJx4a65c, inJx4a65c, by decide, tyJx4a65c_ok, nmJx4a65c, q9 97 (by decide +kernel) (by decide +kernel), Or.inl rfl, rfl, (fun h => by cases h), by decide +kernel⟩
set_option maxRecDepth 100000 in
theorem kf_Jxc12de_7 : FLk RJxc12de 7 2 0 0 .int := ⟨_, _, _, tyJx4a65c, "java/util/AbstractList", vcJx4a65c, inJx4a65c, by decide, tyJx4a65c_ok, nmJx4a65c, q9 98 (by decide +kernel) (by decide +kernel), Or.inl rfl, rfl, (fun h => by cases h), by decide +kernel⟩
set_option maxRecDepth 100000 in
theorem kf_Jx4a65c_63 : FLk RJx4a65c 63 2 0 0 .int := ⟨_, _, _, tyJx4a65c, "java/util/ArrayList", vcJx4a65c, inJx4a65c, by decide, tyJx4a65c_ok, nmJx4a65c, q9 99 (by decide +kernel) (by decide +kernel), Or.inr (q9 100 (by decide +kernel) (by decide +kernel)), rfl, (fun h => by cases h), by decide +kernel⟩
set_option maxRecDepth 100000 in
theorem kf_X5_12 : FLk RX5 12 8 0 1 (.object "java/util/ArrayList") := ⟨_, _, _, tyX5, "Swapyard$Store", vcX5, inX5, by decide, tyX5_ok, nmX5, q9 108 (by decide +kernel) (by decide +kernel), Or.inl rfl, rfl, (fun _ => rfl), by decide +kernel⟩
set_option maxRecDepth 100000 in
theorem kf_X6_195 : FLk RX6 195 8 0 2 (.object "java/util/ArrayList") := ⟨_, _, _, tyX5, "Swapyard$Store", vcX5, inX5, by decide, tyX5_ok, nmX5, q9 109 (by decide +kernel) (by decide +kernel), Or.inl rfl, rfl, (fun h => by cases h), by decide +kernel⟩
set_option maxRecDepth 100000 in
theorem kf_X5_18 : FLk RX5 18 8 1 0 .int := ⟨_, _, _, tyX5, "Swapyard$Store", vcX5, inX5, by decide, tyX5_ok, nmX5, q9 110 (by decide +kernel) (by decide +kernel), Or.inl rfl, rfl, (fun h => by cases h), by decide +kernel⟩
set_option maxRecDepth 100000 in
theorem kf_X6_136 : FLk RX6 136 8 1 0 .int := ⟨_, _, _, tyX5, "Swapyard$Store", vcX5, inX5, by decide, tyX5_ok, nmX5, q9 111 (by decide +kernel) (by decide +kernel), Or.inl rfl, rfl, (fun h => by cases h), by decide +kernel⟩
set_option maxRecDepth 100000 in
theorem kf_X3_7 : FLk RX3 7 6 0 1 (.array .int) := ⟨_, _, _, tyX3, "Swapyard$RecentStalls", vcX3, inX3, by decide, tyX3_ok, nmX3, q9 123 (by decide +kernel) (by decide +kernel), Or.inl rfl, rfl, (fun _ => rfl), by decide +kernel⟩
set_option maxRecDepth 100000 in
theorem kf_X6_12 : FLk RX6 12 9 0 1 (.object "Swapyard$History") := ⟨_, _, _, tyX6, "Swapyard", vcX6, inX6, by decide, tyX6_ok, nmX6, q9 129 (by decide +kernel) (by decide +kernel), Or.inl rfl, rfl, (fun _ => rfl), by decide +kernel⟩
set_option maxRecDepth 100000 in
theorem kf_X6_19 : FLk RX6 19 9 1 1 (.object "Swapyard$Frames") := ⟨_, _, _, tyX6, "Swapyard", vcX6, inX6, by decide, tyX6_ok, nmX6, q9 130 (by decide +kernel) (by decide +kernel), Or.inl rfl, rfl, (fun _ => rfl), by decide +kernel⟩
set_option maxRecDepth 100000 in
theorem kf_X6_26 : FLk RX6 26 9 2 1 (.object "Swapyard$Store") := ⟨_, _, _, tyX6, "Swapyard", vcX6, inX6, by decide, tyX6_ok, nmX6, q9 131 (by decide +kernel) (by decide +kernel), Or.inl rfl, rfl, (fun _ => rfl), by decide +kernel⟩
set_option maxRecDepth 100000 in
theorem kf_X6_33 : FLk RX6 33 9 3 1 (.object "Swapyard$RecentStalls") := ⟨_, _, _, tyX6, "Swapyard", vcX6, inX6, by decide, tyX6_ok, nmX6, q9 132 (by decide +kernel) (by decide +kernel), Or.inl rfl, rfl, (fun _ => rfl), by decide +kernel⟩
set_option maxRecDepth 100000 in
theorem kf_X6_40 : FLk RX6 40 9 4 1 (.object "java/util/ArrayList") := ⟨_, _, _, tyX6, "Swapyard", vcX6, inX6, by decide, tyX6_ok, nmX6, q9 133 (by decide +kernel) (by decide +kernel), Or.inl rfl, rfl, (fun _ => rfl), by decide +kernel⟩
set_option maxRecDepth 100000 in
theorem kf_X6_44 : FLk RX6 44 9 5 0 .int := ⟨_, _, _, tyX6, "Swapyard", vcX6, inX6, by decide, tyX6_ok, nmX6, q9 134 (by decide +kernel) (by decide +kernel), Or.inl rfl, rfl, (fun h => by cases h), by decide +kernel⟩
set_option maxRecDepth 100000 in
theorem kf_X6_165 : FLk RX6 165 9 6 0 .int := ⟨_, _, _, tyX6, "Swapyard", vcX6, inX6, by decide, tyX6_ok, nmX6, q9 135 (by decide +kernel) (by decide +kernel), Or.inl rfl, rfl, (fun h => by cases h), by decide +kernel⟩
set_option maxRecDepth 100000 in
theorem kf_X6_159 : FLk RX6 159 9 7 0 .int := ⟨_, _, _, tyX6, "Swapyard", vcX6, inX6, by decide, tyX6_ok, nmX6, q9 136 (by decide +kernel) (by decide +kernel), Or.inl rfl, rfl, (fun h => by cases h), by decide +kernel⟩
set_option maxRecDepth 100000 in
theorem kf_X6_251 : FLk RX6 251 9 8 0 .int := ⟨_, _, _, tyX6, "Swapyard", vcX6, inX6, by decide, tyX6_ok, nmX6, q9 137 (by decide +kernel) (by decide +kernel), Or.inl rfl, rfl, (fun h => by cases h), by decide +kernel⟩
set_option maxRecDepth 100000 in
theorem kf_X6_259 : FLk RX6 259 9 9 0 .int := ⟨_, _, _, tyX6, "Swapyard", vcX6, inX6, by decide, tyX6_ok, nmX6, q9 138 (by decide +kernel) (by decide +kernel), Or.inl rfl, rfl, (fun h => by cases h), by decide +kernel⟩
set_option maxRecDepth 100000 in
theorem kf_X6_262 : FLk RX6 262 9 10 0 .long := ⟨_, _, _, tyX6, "Swapyard", vcX6, inX6, by decide, tyX6_ok, nmX6, q9 139 (by decide +kernel) (by decide +kernel), Or.inl rfl, rfl, (fun h => by cases h), by decide +kernel⟩
set_option maxRecDepth 100000 in
theorem kf_X2_22 : FLk RX2 22 5 0 1 .int := ⟨_, _, _, tyX2, "Swapyard$Page", vcX2, inX2, by decide, tyX2_ok, nmX2, q9 364 (by decide +kernel) (by decide +kernel), Or.inl rfl, rfl, (fun _ => rfl), by decide +kernel⟩
set_option maxRecDepth 100000 in
theorem kf_X6_171 : FLk RX6 171 5 0 2 .int := ⟨_, _, _, tyX2, "Swapyard$Page", vcX2, inX2, by decide, tyX2_ok, nmX2, q9 365 (by decide +kernel) (by decide +kernel), Or.inl rfl, rfl, (fun h => by cases h), by decide +kernel⟩
set_option maxRecDepth 100000 in
theorem kf_X2_25 : FLk RX2 25 5 1 1 (.object "Swapyard$History") := ⟨_, _, _, tyX2, "Swapyard$Page", vcX2, inX2, by decide, tyX2_ok, nmX2, q9 366 (by decide +kernel) (by decide +kernel), Or.inl rfl, rfl, (fun _ => rfl), by decide +kernel⟩
set_option maxRecDepth 100000 in
theorem kf_X2_9 : FLk RX2 9 5 2 0 .int := ⟨_, _, _, tyX2, "Swapyard$Page", vcX2, inX2, by decide, tyX2_ok, nmX2, q9 367 (by decide +kernel) (by decide +kernel), Or.inl rfl, rfl, (fun h => by cases h), by decide +kernel⟩
set_option maxRecDepth 100000 in
theorem kf_X5_32 : FLk RX5 32 5 2 0 .int := ⟨_, _, _, tyX2, "Swapyard$Page", vcX2, inX2, by decide, tyX2_ok, nmX2, q9 368 (by decide +kernel) (by decide +kernel), Or.inl rfl, rfl, (fun h => by cases h), by decide +kernel⟩
set_option maxRecDepth 100000 in
theorem kf_X6_120 : FLk RX6 120 5 2 0 .int := ⟨_, _, _, tyX2, "Swapyard$Page", vcX2, inX2, by decide, tyX2_ok, nmX2, q9 369 (by decide +kernel) (by decide +kernel), Or.inl rfl, rfl, (fun h => by cases h), by decide +kernel⟩
set_option maxRecDepth 100000 in
theorem kf_X2_15 : FLk RX2 15 5 3 0 .char := ⟨_, _, _, tyX2, "Swapyard$Page", vcX2, inX2, by decide, tyX2_ok, nmX2, q9 370 (by decide +kernel) (by decide +kernel), Or.inl rfl, rfl, (fun h => by cases h), by decide +kernel⟩
set_option maxRecDepth 100000 in
theorem kf_X4_34 : FLk RX4 34 5 3 0 .char := ⟨_, _, _, tyX2, "Swapyard$Page", vcX2, inX2, by decide, tyX2_ok, nmX2, q9 371 (by decide +kernel) (by decide +kernel), Or.inl rfl, rfl, (fun h => by cases h), by decide +kernel⟩
set_option maxRecDepth 100000 in
theorem kf_X6_112 : FLk RX6 112 5 3 0 .char := ⟨_, _, _, tyX2, "Swapyard$Page", vcX2, inX2, by decide, tyX2_ok, nmX2, q9 372 (by decide +kernel) (by decide +kernel), Or.inl rfl, rfl, (fun h => by cases h), by decide +kernel⟩
set_option maxRecDepth 100000 in
theorem kf_X2_19 : FLk RX2 19 5 4 0 .int := ⟨_, _, _, tyX2, "Swapyard$Page", vcX2, inX2, by decide, tyX2_ok, nmX2, q9 373 (by decide +kernel) (by decide +kernel), Or.inl rfl, rfl, (fun h => by cases h), by decide +kernel⟩
set_option maxRecDepth 100000 in
theorem kf_X6_183 : FLk RX6 183 5 4 0 .int := ⟨_, _, _, tyX2, "Swapyard$Page", vcX2, inX2, by decide, tyX2_ok, nmX2, q9 374 (by decide +kernel) (by decide +kernel), Or.inl rfl, rfl, (fun h => by cases h), by decide +kernel⟩
set_option maxRecDepth 100000 in
theorem kf_X2_33 : FLk RX2 33 5 5 0 .boolean := ⟨_, _, _, tyX2, "Swapyard$Page", vcX2, inX2, by decide, tyX2_ok, nmX2, q9 375 (by decide +kernel) (by decide +kernel), Or.inl rfl, rfl, (fun h => by cases h), by decide +kernel⟩
set_option maxRecDepth 100000 in
theorem kf_X0_36 : FLk RX0 36 5 5 0 .boolean := ⟨_, _, _, tyX2, "Swapyard$Page", vcX2, inX2, by decide, tyX2_ok, nmX2, q9 376 (by decide +kernel) (by decide +kernel), Or.inl rfl, rfl, (fun h => by cases h), by decide +kernel⟩
set_option maxRecDepth 100000 in
theorem kf_X6_148 : FLk RX6 148 5 5 0 .boolean := ⟨_, _, _, tyX2, "Swapyard$Page", vcX2, inX2, by decide, tyX2_ok, nmX2, q9 377 (by decide +kernel) (by decide +kernel), Or.inl rfl, rfl, (fun h => by cases h), by decide +kernel⟩
set_option maxRecDepth 100000 in
theorem kf_X4_17 : FLk RX4 17 7 0 1 .int := ⟨_, _, _, tyX4, "Swapyard$Service", vcX4, inX4, by decide, tyX4_ok, nmX4, q9 391 (by decide +kernel) (by decide +kernel), Or.inl rfl, rfl, (fun _ => rfl), by decide +kernel⟩
set_option maxRecDepth 100000 in
theorem kf_X6_248 : FLk RX6 248 7 0 2 .int := ⟨_, _, _, tyX4, "Swapyard$Service", vcX4, inX4, by decide, tyX4_ok, nmX4, q9 392 (by decide +kernel) (by decide +kernel), Or.inl rfl, rfl, (fun h => by cases h), by decide +kernel⟩
set_option maxRecDepth 100000 in
theorem kf_X4_21 : FLk RX4 21 7 1 1 .int := ⟨_, _, _, tyX4, "Swapyard$Service", vcX4, inX4, by decide, tyX4_ok, nmX4, q9 393 (by decide +kernel) (by decide +kernel), Or.inl rfl, rfl, (fun _ => rfl), by decide +kernel⟩
set_option maxRecDepth 100000 in
theorem kf_X4_24 : FLk RX4 24 7 2 1 .char := ⟨_, _, _, tyX4, "Swapyard$Service", vcX4, inX4, by decide, tyX4_ok, nmX4, q9 394 (by decide +kernel) (by decide +kernel), Or.inl rfl, rfl, (fun _ => rfl), by decide +kernel⟩
set_option maxRecDepth 100000 in
theorem kf_X6_330 : FLk RX6 330 7 2 2 .char := ⟨_, _, _, tyX4, "Swapyard$Service", vcX4, inX4, by decide, tyX4_ok, nmX4, q9 395 (by decide +kernel) (by decide +kernel), Or.inl rfl, rfl, (fun h => by cases h), by decide +kernel⟩
set_option maxRecDepth 100000 in
theorem kf_X4_28 : FLk RX4 28 7 3 1 .int := ⟨_, _, _, tyX4, "Swapyard$Service", vcX4, inX4, by decide, tyX4_ok, nmX4, q9 396 (by decide +kernel) (by decide +kernel), Or.inl rfl, rfl, (fun _ => rfl), by decide +kernel⟩
set_option maxRecDepth 100000 in
theorem kf_X4_11 : FLk RX4 11 7 4 1 (.array (.object "Swapyard$Page")) := ⟨_, _, _, tyX4, "Swapyard$Service", vcX4, inX4, by decide, tyX4_ok, nmX4, q9 397 (by decide +kernel) (by decide +kernel), Or.inl rfl, rfl, (fun _ => rfl), by decide +kernel⟩
set_option maxRecDepth 100000 in
theorem kf_X6_279 : FLk RX6 279 7 4 2 (.array (.object "Swapyard$Page")) := ⟨_, _, _, tyX4, "Swapyard$Service", vcX4, inX4, by decide, tyX4_ok, nmX4, q9 398 (by decide +kernel) (by decide +kernel), Or.inl rfl, rfl, (fun h => by cases h), by decide +kernel⟩
set_option maxRecDepth 100000 in
theorem kf_X6_100 : FLk RX6 100 7 5 0 .int := ⟨_, _, _, tyX4, "Swapyard$Service", vcX4, inX4, by decide, tyX4_ok, nmX4, q9 399 (by decide +kernel) (by decide +kernel), Or.inl rfl, rfl, (fun h => by cases h), by decide +kernel⟩
set_option maxRecDepth 100000 in
theorem kf_X6_217 : FLk RX6 217 7 6 0 .boolean := ⟨_, _, _, tyX4, "Swapyard$Service", vcX4, inX4, by decide, tyX4_ok, nmX4, q9 400 (by decide +kernel) (by decide +kernel), Or.inl rfl, rfl, (fun h => by cases h), by decide +kernel⟩
set_option maxRecDepth 100000 in
theorem kf_X4_44 : FLk RX4 44 7 7 0 .int := ⟨_, _, _, tyX4, "Swapyard$Service", vcX4, inX4, by decide, tyX4_ok, nmX4, q9 401 (by decide +kernel) (by decide +kernel), Or.inl rfl, rfl, (fun h => by cases h), by decide +kernel⟩
set_option maxRecDepth 100000 in
theorem kf_X6_327 : FLk RX6 327 7 7 0 .int := ⟨_, _, _, tyX4, "Swapyard$Service", vcX4, inX4, by decide, tyX4_ok, nmX4, q9 402 (by decide +kernel) (by decide +kernel), Or.inl rfl, rfl, (fun h => by cases h), by decide +kernel⟩
set_option maxRecDepth 100000 in
theorem kf_X4_41 : FLk RX4 41 7 8 0 .int := ⟨_, _, _, tyX4, "Swapyard$Service", vcX4, inX4, by decide, tyX4_ok, nmX4, q9 403 (by decide +kernel) (by decide +kernel), Or.inl rfl, rfl, (fun h => by cases h), by decide +kernel⟩
set_option maxRecDepth 100000 in
theorem kf_X6_236 : FLk RX6 236 7 8 0 .int := ⟨_, _, _, tyX4, "Swapyard$Service", vcX4, inX4, by decide, tyX4_ok, nmX4, q9 404 (by decide +kernel) (by decide +kernel), Or.inl rfl, rfl, (fun h => by cases h), by decide +kernel⟩
set_option maxRecDepth 100000 in
theorem kf_X6_213 : FLk RX6 213 7 9 0 .long := ⟨_, _, _, tyX4, "Swapyard$Service", vcX4, inX4, by decide, tyX4_ok, nmX4, q9 405 (by decide +kernel) (by decide +kernel), Or.inl rfl, rfl, (fun h => by cases h), by decide +kernel⟩
set_option maxRecDepth 100000 in
theorem kf_X7_68 : FLk RX7 68 10 0 0 .int := ⟨_, _, _, tyX7, "SwapyardModel", vcX7, inX7, by decide, tyX7_ok, nmX7, q9 905 (by decide +kernel) (by decide +kernel), Or.inl rfl, rfl, (fun h => by cases h), by decide +kernel⟩
set_option maxRecDepth 100000 in
theorem kf_X7_7 : FLk RX7 7 10 1 1 (.array .int) := ⟨_, _, _, tyX7, "SwapyardModel", vcX7, inX7, by decide, tyX7_ok, nmX7, q9 906 (by decide +kernel) (by decide +kernel), Or.inl rfl, rfl, (fun _ => rfl), by decide +kernel⟩
set_option maxRecDepth 100000 in
theorem kf_X7_13 : FLk RX7 13 10 2 1 (.array .char) := ⟨_, _, _, tyX7, "SwapyardModel", vcX7, inX7, by decide, tyX7_ok, nmX7, q9 907 (by decide +kernel) (by decide +kernel), Or.inl rfl, rfl, (fun _ => rfl), by decide +kernel⟩
set_option maxRecDepth 100000 in
theorem kf_X7_17 : FLk RX7 17 10 3 1 (.array .int) := ⟨_, _, _, tyX7, "SwapyardModel", vcX7, inX7, by decide, tyX7_ok, nmX7, q9 908 (by decide +kernel) (by decide +kernel), Or.inl rfl, rfl, (fun _ => rfl), by decide +kernel⟩
set_option maxRecDepth 100000 in
theorem kf_X7_20 : FLk RX7 20 10 4 1 (.array .boolean) := ⟨_, _, _, tyX7, "SwapyardModel", vcX7, inX7, by decide, tyX7_ok, nmX7, q9 909 (by decide +kernel) (by decide +kernel), Or.inl rfl, rfl, (fun _ => rfl), by decide +kernel⟩
set_option maxRecDepth 100000 in
theorem kf_X7_24 : FLk RX7 24 10 5 1 (.array .int) := ⟨_, _, _, tyX7, "SwapyardModel", vcX7, inX7, by decide, tyX7_ok, nmX7, q9 910 (by decide +kernel) (by decide +kernel), Or.inl rfl, rfl, (fun _ => rfl), by decide +kernel⟩
set_option maxRecDepth 100000 in
theorem kf_X7_27 : FLk RX7 27 10 6 1 (.array .int) := ⟨_, _, _, tyX7, "SwapyardModel", vcX7, inX7, by decide, tyX7_ok, nmX7, q9 911 (by decide +kernel) (by decide +kernel), Or.inl rfl, rfl, (fun _ => rfl), by decide +kernel⟩
set_option maxRecDepth 100000 in
theorem kf_X7_30 : FLk RX7 30 10 7 1 (.array .int) := ⟨_, _, _, tyX7, "SwapyardModel", vcX7, inX7, by decide, tyX7_ok, nmX7, q9 912 (by decide +kernel) (by decide +kernel), Or.inl rfl, rfl, (fun _ => rfl), by decide +kernel⟩
set_option maxRecDepth 100000 in
theorem kf_X7_33 : FLk RX7 33 10 8 1 (.array .long) := ⟨_, _, _, tyX7, "SwapyardModel", vcX7, inX7, by decide, tyX7_ok, nmX7, q9 913 (by decide +kernel) (by decide +kernel), Or.inl rfl, rfl, (fun _ => rfl), by decide +kernel⟩
set_option maxRecDepth 100000 in
theorem kf_X7_37 : FLk RX7 37 10 9 1 (.array .int) := ⟨_, _, _, tyX7, "SwapyardModel", vcX7, inX7, by decide, tyX7_ok, nmX7, q9 914 (by decide +kernel) (by decide +kernel), Or.inl rfl, rfl, (fun _ => rfl), by decide +kernel⟩
set_option maxRecDepth 100000 in
theorem kf_X7_40 : FLk RX7 40 10 10 1 (.array .int) := ⟨_, _, _, tyX7, "SwapyardModel", vcX7, inX7, by decide, tyX7_ok, nmX7, q9 915 (by decide +kernel) (by decide +kernel), Or.inl rfl, rfl, (fun _ => rfl), by decide +kernel⟩
set_option maxRecDepth 100000 in
theorem kf_X7_43 : FLk RX7 43 10 11 0 .int := ⟨_, _, _, tyX7, "SwapyardModel", vcX7, inX7, by decide, tyX7_ok, nmX7, q9 916 (by decide +kernel) (by decide +kernel), Or.inl rfl, rfl, (fun h => by cases h), by decide +kernel⟩
set_option maxRecDepth 100000 in
theorem kf_X7_47 : FLk RX7 47 10 12 1 (.array .int) := ⟨_, _, _, tyX7, "SwapyardModel", vcX7, inX7, by decide, tyX7_ok, nmX7, q9 917 (by decide +kernel) (by decide +kernel), Or.inl rfl, rfl, (fun _ => rfl), by decide +kernel⟩
set_option maxRecDepth 100000 in
theorem kf_X7_50 : FLk RX7 50 10 13 1 (.array .boolean) := ⟨_, _, _, tyX7, "SwapyardModel", vcX7, inX7, by decide, tyX7_ok, nmX7, q9 918 (by decide +kernel) (by decide +kernel), Or.inl rfl, rfl, (fun _ => rfl), by decide +kernel⟩
set_option maxRecDepth 100000 in
theorem kf_X7_114 : FLk RX7 114 10 14 0 .int := ⟨_, _, _, tyX7, "SwapyardModel", vcX7, inX7, by decide, tyX7_ok, nmX7, q9 919 (by decide +kernel) (by decide +kernel), Or.inl rfl, rfl, (fun h => by cases h), by decide +kernel⟩
set_option maxRecDepth 100000 in
theorem kf_X7_53 : FLk RX7 53 10 15 0 .int := ⟨_, _, _, tyX7, "SwapyardModel", vcX7, inX7, by decide, tyX7_ok, nmX7, q9 920 (by decide +kernel) (by decide +kernel), Or.inl rfl, rfl, (fun h => by cases h), by decide +kernel⟩
set_option maxRecDepth 100000 in
theorem kf_X7_94 : FLk RX7 94 10 16 0 .int := ⟨_, _, _, tyX7, "SwapyardModel", vcX7, inX7, by decide, tyX7_ok, nmX7, q9 921 (by decide +kernel) (by decide +kernel), Or.inl rfl, rfl, (fun h => by cases h), by decide +kernel⟩
set_option maxRecDepth 100000 in
theorem kf_X7_56 : FLk RX7 56 10 17 1 (.array .int) := ⟨_, _, _, tyX7, "SwapyardModel", vcX7, inX7, by decide, tyX7_ok, nmX7, q9 922 (by decide +kernel) (by decide +kernel), Or.inl rfl, rfl, (fun _ => rfl), by decide +kernel⟩
set_option maxRecDepth 100000 in
theorem kf_X7_59 : FLk RX7 59 10 18 0 .int := ⟨_, _, _, tyX7, "SwapyardModel", vcX7, inX7, by decide, tyX7_ok, nmX7, q9 923 (by decide +kernel) (by decide +kernel), Or.inl rfl, rfl, (fun h => by cases h), by decide +kernel⟩
set_option maxRecDepth 100000 in
theorem kf_X7_133 : FLk RX7 133 10 19 0 .int := ⟨_, _, _, tyX7, "SwapyardModel", vcX7, inX7, by decide, tyX7_ok, nmX7, q9 924 (by decide +kernel) (by decide +kernel), Or.inl rfl, rfl, (fun h => by cases h), by decide +kernel⟩
set_option maxRecDepth 100000 in
theorem kf_X7_62 : FLk RX7 62 10 20 1 (.array .int) := ⟨_, _, _, tyX7, "SwapyardModel", vcX7, inX7, by decide, tyX7_ok, nmX7, q9 925 (by decide +kernel) (by decide +kernel), Or.inl rfl, rfl, (fun _ => rfl), by decide +kernel⟩
set_option maxRecDepth 100000 in
theorem kf_X7_105 : FLk RX7 105 10 21 0 .int := ⟨_, _, _, tyX7, "SwapyardModel", vcX7, inX7, by decide, tyX7_ok, nmX7, q9 926 (by decide +kernel) (by decide +kernel), Or.inl rfl, rfl, (fun h => by cases h), by decide +kernel⟩
set_option maxRecDepth 100000 in
theorem kf_X7_140 : FLk RX7 140 10 22 0 .int := ⟨_, _, _, tyX7, "SwapyardModel", vcX7, inX7, by decide, tyX7_ok, nmX7, q9 927 (by decide +kernel) (by decide +kernel), Or.inl rfl, rfl, (fun h => by cases h), by decide +kernel⟩
set_option maxRecDepth 100000 in
theorem kf_X7_143 : FLk RX7 143 10 23 0 .int := ⟨_, _, _, tyX7, "SwapyardModel", vcX7, inX7, by decide, tyX7_ok, nmX7, q9 928 (by decide +kernel) (by decide +kernel), Or.inl rfl, rfl, (fun h => by cases h), by decide +kernel⟩
set_option maxRecDepth 100000 in
theorem kf_X7_136 : FLk RX7 136 10 24 0 .long := ⟨_, _, _, tyX7, "SwapyardModel", vcX7, inX7, by decide, tyX7_ok, nmX7, q9 929 (by decide +kernel) (by decide +kernel), Or.inl rfl, rfl, (fun h => by cases h), by decide +kernel⟩
set_option maxRecDepth 100000 in
theorem kf_X7_153 : FLk RX7 153 10 25 0 .int := ⟨_, _, _, tyX7, "SwapyardModel", vcX7, inX7, by decide, tyX7_ok, nmX7, q9 930 (by decide +kernel) (by decide +kernel), Or.inl rfl, rfl, (fun h => by cases h), by decide +kernel⟩
set_option maxRecDepth 100000 in
theorem kf_X7_65 : FLk RX7 65 10 26 0 .int := ⟨_, _, _, tyX7, "SwapyardModel", vcX7, inX7, by decide, tyX7_ok, nmX7, q9 931 (by decide +kernel) (by decide +kernel), Or.inl rfl, rfl, (fun h => by cases h), by decide +kernel⟩
set_option maxRecDepth 100000 in
theorem km_L_106 : MLk RL 106 yX6_init 0 := ⟨q9 32 (by decide +kernel) (by decide +kernel), q9 1 (by decide +kernel) (by decide +kernel), by decide +kernel⟩
set_option maxRecDepth 100000 in
theorem km_X5_11 : MLk RX5 11 yJx4a65c_init_da8c8 0 := ⟨q9 84 (by decide +kernel) (by decide +kernel), q9 7 (by decide +kernel) (by decide +kernel), by decide +kernel⟩
set_option maxRecDepth 100000 in
theorem km_Jx4a65c_1 : MLk RJx4a65c 1 yJxc12de_init_da8c8 0 := ⟨q9 87 (by decide +kernel) (by decide +kernel), q9 6 (by decide +kernel) (by decide +kernel), by decide +kernel⟩
set_option maxRecDepth 100000 in
theorem km_Jxc12de_1 : MLk RJxc12de 1 yJxa1e45_init_da8c8 0 := ⟨q9 90 (by decide +kernel) (by decide +kernel), q9 5 (by decide +kernel) (by decide +kernel), by decide +kernel⟩
set_option maxRecDepth 100000 in
theorem km_X6_39 : MLk RX6 39 yJx4a65c_init_da8c8 0 := ⟨q9 128 (by decide +kernel) (by decide +kernel), q9 7 (by decide +kernel) (by decide +kernel), by decide +kernel⟩
set_option maxRecDepth 100000 in
theorem km_L_143 : MLk RL 143 yX6_time 0 := ⟨q9 163 (by decide +kernel) (by decide +kernel), q9 1 (by decide +kernel) (by decide +kernel), by decide +kernel⟩
set_option maxRecDepth 100000 in
theorem km_L_159 : MLk RL 159 yX6_hand 0 := ⟨q9 167 (by decide +kernel) (by decide +kernel), q9 1 (by decide +kernel) (by decide +kernel), by decide +kernel⟩
set_option maxRecDepth 100000 in
theorem km_L_163 : MLk RL 163 yX6_free 0 := ⟨q9 171 (by decide +kernel) (by decide +kernel), q9 1 (by decide +kernel) (by decide +kernel), by decide +kernel⟩
set_option maxRecDepth 100000 in
theorem km_X6_189 : MLk RX6 189 yX0_countFree 0 := ⟨q9 175 (by decide +kernel) (by decide +kernel), q9 3 (by decide +kernel) (by decide +kernel), by decide +kernel⟩
set_option maxRecDepth 100000 in
theorem km_L_167 : MLk RL 167 yX6_stored 0 := ⟨q9 179 (by decide +kernel) (by decide +kernel), q9 1 (by decide +kernel) (by decide +kernel), by decide +kernel⟩
set_option maxRecDepth 100000 in
theorem km_X6_192 : MLk RX6 192 yX5_takenRoom 0 := ⟨q9 183 (by decide +kernel) (by decide +kernel), q9 4 (by decide +kernel) (by decide +kernel), by decide +kernel⟩
set_option maxRecDepth 100000 in
theorem km_X5_22 : MLk RX5 22 yJx4a65c_size_8abf5 0 := ⟨q9 187 (by decide +kernel) (by decide +kernel), q9 7 (by decide +kernel) (by decide +kernel), by decide +kernel⟩
set_option maxRecDepth 100000 in
theorem km_X5_26 : MLk RX5 26 yJx4a65c_get_915e3 1 := ⟨q9 191 (by decide +kernel) (by decide +kernel), q9 7 (by decide +kernel) (by decide +kernel), by decide +kernel⟩
set_option maxRecDepth 100000 in
theorem km_Jx4a65c_118 : MLk RJx4a65c 118 yJ15_checkIndex_7cf53 2 := ⟨q9 195 (by decide +kernel) (by decide +kernel), q9 24 (by decide +kernel) (by decide +kernel), by decide +kernel⟩
set_option maxRecDepth 100000 in
theorem km_J15_105 : MLk RJ15 105 yJ3_checkIndex_8e157 3 := ⟨q9 198 (by decide +kernel) (by decide +kernel), q9 25 (by decide +kernel) (by decide +kernel), by decide +kernel⟩
set_option maxRecDepth 100000 in
theorem km_Jx4a65c_123 : MLk RJx4a65c 123 yJx4a65c_elementData_915e3 1 := ⟨q9 201 (by decide +kernel) (by decide +kernel), q9 7 (by decide +kernel) (by decide +kernel), by decide +kernel⟩
set_option maxRecDepth 100000 in
theorem km_L_174 : MLk RL 174 yX6_onDisk 0 := ⟨q9 206 (by decide +kernel) (by decide +kernel), q9 1 (by decide +kernel) (by decide +kernel), by decide +kernel⟩
set_option maxRecDepth 100000 in
theorem km_X6_59 : MLk RX6 59 yJx4a65c_size_8abf5 0 := ⟨q9 210 (by decide +kernel) (by decide +kernel), q9 7 (by decide +kernel) (by decide +kernel), by decide +kernel⟩
set_option maxRecDepth 100000 in
theorem km_X6_200 : MLk RX6 200 yJx4a65c_get_915e3 1 := ⟨q9 211 (by decide +kernel) (by decide +kernel), q9 7 (by decide +kernel) (by decide +kernel), by decide +kernel⟩
set_option maxRecDepth 100000 in
theorem km_X6_204 : MLk RX6 204 yX4_countPages 1 := ⟨q9 213 (by decide +kernel) (by decide +kernel), q9 15 (by decide +kernel) (by decide +kernel), by decide +kernel⟩
set_option maxRecDepth 100000 in
theorem km_L_182 : MLk RL 182 yX6_pressure 0 := ⟨q9 217 (by decide +kernel) (by decide +kernel), q9 1 (by decide +kernel) (by decide +kernel), by decide +kernel⟩
set_option maxRecDepth 100000 in
theorem km_X6_210 : MLk RX6 210 yX3_sum 0 := ⟨q9 221 (by decide +kernel) (by decide +kernel), q9 8 (by decide +kernel) (by decide +kernel), by decide +kernel⟩
set_option maxRecDepth 100000 in
theorem km_L_211 : MLk RL 211 yX6_deaths 0 := ⟨q9 225 (by decide +kernel) (by decide +kernel), q9 1 (by decide +kernel) (by decide +kernel), by decide +kernel⟩
set_option maxRecDepth 100000 in
theorem km_L_222 : MLk RL 222 yX6_isSound 0 := ⟨q9 229 (by decide +kernel) (by decide +kernel), q9 1 (by decide +kernel) (by decide +kernel), by decide +kernel⟩
set_option maxRecDepth 100000 in
theorem km_X6_265 : MLk RX6 265 yX6_placesAgree 0 := ⟨q9 233 (by decide +kernel) (by decide +kernel), q9 1 (by decide +kernel) (by decide +kernel), by decide +kernel⟩
set_option maxRecDepth 100000 in
theorem km_X6_168 : MLk RX6 168 yX1_replay 0 := ⟨q9 237 (by decide +kernel) (by decide +kernel), q9 2 (by decide +kernel) (by decide +kernel), by decide +kernel⟩
set_option maxRecDepth 100000 in
theorem km_X6_174 : MLk RX6 174 yX1_replayedPlace 1 := ⟨q9 241 (by decide +kernel) (by decide +kernel), q9 2 (by decide +kernel) (by decide +kernel), by decide +kernel⟩
set_option maxRecDepth 100000 in
theorem km_X6_269 : MLk RX6 269 yX6_framesAreSingle 0 := ⟨q9 245 (by decide +kernel) (by decide +kernel), q9 1 (by decide +kernel) (by decide +kernel), by decide +kernel⟩
set_option maxRecDepth 100000 in
theorem km_X6_91 : MLk RX6 91 yX6_hasBit 2 := ⟨q9 249 (by decide +kernel) (by decide +kernel), q9 1 (by decide +kernel) (by decide +kernel), by decide +kernel⟩
set_option maxRecDepth 100000 in
theorem km_L_110 : MLk RL 110 yL_addService 5 := ⟨q9 252 (by decide +kernel) (by decide +kernel), q9 0 (by decide +kernel) (by decide +kernel), by decide +kernel⟩
set_option maxRecDepth 100000 in
theorem km_L_7 : MLk RL 7 yX6_addService 3 := ⟨q9 257 (by decide +kernel) (by decide +kernel), q9 1 (by decide +kernel) (by decide +kernel), by decide +kernel⟩
set_option maxRecDepth 100000 in
theorem km_X6_48 : MLk RX6 48 yX6_requireRange 3 := ⟨q9 261 (by decide +kernel) (by decide +kernel), q9 1 (by decide +kernel) (by decide +kernel), by decide +kernel⟩
set_option maxRecDepth 100000 in
theorem km_X6_70 : MLk RX6 70 yX4_init 5 := ⟨q9 354 (by decide +kernel) (by decide +kernel), q9 15 (by decide +kernel) (by decide +kernel), by decide +kernel⟩
set_option maxRecDepth 100000 in
theorem km_X4_31 : MLk RX4 31 yX2_init 2 := ⟨q9 360 (by decide +kernel) (by decide +kernel), q9 16 (by decide +kernel) (by decide +kernel), by decide +kernel⟩
set_option maxRecDepth 100000 in
theorem km_X6_73 : MLk RX6 73 yJx4a65c_add_9ea2d 1 := ⟨q9 427 (by decide +kernel) (by decide +kernel), q9 7 (by decide +kernel) (by decide +kernel), by decide +kernel⟩
set_option maxRecDepth 100000 in
theorem km_Jx4a65c_131 : MLk RJx4a65c 131 yJx4a65c_add_72be8 3 := ⟨q9 431 (by decide +kernel) (by decide +kernel), q9 7 (by decide +kernel) (by decide +kernel), by decide +kernel⟩
set_option maxRecDepth 100000 in
theorem km_Jx4a65c_129 : MLk RJx4a65c 129 yJx4a65c_grow_d5877 0 := ⟨q9 435 (by decide +kernel) (by decide +kernel), q9 7 (by decide +kernel) (by decide +kernel), by decide +kernel⟩
set_option maxRecDepth 100000 in
theorem km_Jx4a65c_69 : MLk RJx4a65c 69 yJx4a65c_grow_92f84 1 := ⟨q9 439 (by decide +kernel) (by decide +kernel), q9 7 (by decide +kernel) (by decide +kernel), by decide +kernel⟩
set_option maxRecDepth 100000 in
theorem km_Jx4a65c_73 : MLk RJx4a65c 73 yJ8_newLength_cabcc 3 := ⟨q9 443 (by decide +kernel) (by decide +kernel), q9 17 (by decide +kernel) (by decide +kernel), by decide +kernel⟩
set_option maxRecDepth 100000 in
theorem km_J8_194 : MLk RJ8 194 yJ9_max_7cf53 2 := ⟨q9 446 (by decide +kernel) (by decide +kernel), q9 18 (by decide +kernel) (by decide +kernel), by decide +kernel⟩
set_option maxRecDepth 100000 in
theorem km_J8_201 : MLk RJ8 201 yJ8_hugeLength_7cf53 2 := ⟨q9 450 (by decide +kernel) (by decide +kernel), q9 17 (by decide +kernel) (by decide +kernel), by decide +kernel⟩
set_option maxRecDepth 100000 in
theorem km_Jx4a65c_66 : MLk RJx4a65c 66 yJ7_copyOf_1904c 2 := ⟨q9 453 (by decide +kernel) (by decide +kernel), q9 19 (by decide +kernel) (by decide +kernel), by decide +kernel⟩
set_option maxRecDepth 100000 in
theorem km_J7_300 : MLk RJ7 300 yJ7_copyOf_6403c 3 := ⟨q9 476 (by decide +kernel) (by decide +kernel), q9 19 (by decide +kernel) (by decide +kernel), by decide +kernel⟩
set_option maxRecDepth 100000 in
theorem km_J7_304 : MLk RJ7 304 yJ9_min_7cf53 2 := ⟨q9 482 (by decide +kernel) (by decide +kernel), q9 18 (by decide +kernel) (by decide +kernel), by decide +kernel⟩
set_option maxRecDepth 100000 in
theorem km_Jx4a65c_79 : MLk RJx4a65c 79 yJ9_max_7cf53 2 := ⟨q9 488 (by decide +kernel) (by decide +kernel), q9 18 (by decide +kernel) (by decide +kernel), by decide +kernel⟩
set_option maxRecDepth 100000 in
theorem km_L_119 : MLk RL 119 yL_addNeed 4 := ⟨q9 490 (by decide +kernel) (by decide +kernel), q9 0 (by decide +kernel) (by decide +kernel), by decide +kernel⟩
set_option maxRecDepth 100000 in
theorem km_L_17 : MLk RL 17 yX6_addNeed 2 := ⟨q9 518 (by decide +kernel) (by decide +kernel), q9 1 (by decide +kernel) (by decide +kernel), by decide +kernel⟩
set_option maxRecDepth 100000 in
theorem km_X6_77 : MLk RX6 77 yX6_serviceAt 1 := ⟨q9 522 (by decide +kernel) (by decide +kernel), q9 1 (by decide +kernel) (by decide +kernel), by decide +kernel⟩
set_option maxRecDepth 100000 in
theorem km_X6_81 : MLk RX6 81 yX6_requireService 1 := ⟨q9 526 (by decide +kernel) (by decide +kernel), q9 1 (by decide +kernel) (by decide +kernel), by decide +kernel⟩
set_option maxRecDepth 100000 in
theorem km_X6_87 : MLk RX6 87 yX6_allNeedsOf 1 := ⟨q9 544 (by decide +kernel) (by decide +kernel), q9 1 (by decide +kernel) (by decide +kernel), by decide +kernel⟩
set_option maxRecDepth 100000 in
theorem km_X6_103 : MLk RX6 103 yJ6_bitCount_0f7a4 1 := ⟨q9 564 (by decide +kernel) (by decide +kernel), q9 27 (by decide +kernel) (by decide +kernel), by decide +kernel⟩
set_option maxRecDepth 100000 in
theorem km_L_123 : MLk RL 123 yL_setSize 5 := ⟨q9 570 (by decide +kernel) (by decide +kernel), q9 0 (by decide +kernel) (by decide +kernel), by decide +kernel⟩
set_option maxRecDepth 100000 in
theorem km_L_25 : MLk RL 25 yX6_setSize 3 := ⟨q9 573 (by decide +kernel) (by decide +kernel), q9 1 (by decide +kernel) (by decide +kernel), by decide +kernel⟩
set_option maxRecDepth 100000 in
theorem km_X6_108 : MLk RX6 108 yX6_pageAt 2 := ⟨q9 577 (by decide +kernel) (by decide +kernel), q9 1 (by decide +kernel) (by decide +kernel), by decide +kernel⟩
set_option maxRecDepth 100000 in
theorem km_L_127 : MLk RL 127 yL_setFrames 3 := ⟨q9 583 (by decide +kernel) (by decide +kernel), q9 0 (by decide +kernel) (by decide +kernel), by decide +kernel⟩
set_option maxRecDepth 100000 in
theorem km_L_29 : MLk RL 29 yX6_setFrames 1 := ⟨q9 586 (by decide +kernel) (by decide +kernel), q9 1 (by decide +kernel) (by decide +kernel), by decide +kernel⟩
set_option maxRecDepth 100000 in
theorem km_X6_125 : MLk RX6 125 yX0_takeOut 1 := ⟨q9 590 (by decide +kernel) (by decide +kernel), q9 3 (by decide +kernel) (by decide +kernel), by decide +kernel⟩
set_option maxRecDepth 100000 in
theorem km_X6_129 : MLk RX6 129 yX5_takeIn 1 := ⟨q9 594 (by decide +kernel) (by decide +kernel), q9 4 (by decide +kernel) (by decide +kernel), by decide +kernel⟩
set_option maxRecDepth 100000 in
theorem km_X5_34 : MLk RX5 34 yX2_moveTo 1 := ⟨q9 598 (by decide +kernel) (by decide +kernel), q9 16 (by decide +kernel) (by decide +kernel), by decide +kernel⟩
set_option maxRecDepth 100000 in
theorem km_X2_37 : MLk RX2 37 yX1_record 2 := ⟨q9 602 (by decide +kernel) (by decide +kernel), q9 2 (by decide +kernel) (by decide +kernel), by decide +kernel⟩
set_option maxRecDepth 100000 in
theorem km_X5_38 : MLk RX5 38 yX5_makeRoomFor 1 := ⟨q9 606 (by decide +kernel) (by decide +kernel), q9 4 (by decide +kernel) (by decide +kernel), by decide +kernel⟩
set_option maxRecDepth 100000 in
theorem km_X5_46 : MLk RX5 46 yX5_takenRoom 0 := ⟨q9 610 (by decide +kernel) (by decide +kernel), q9 4 (by decide +kernel) (by decide +kernel), by decide +kernel⟩
set_option maxRecDepth 100000 in
theorem km_X5_49 : MLk RX5 49 yJx4a65c_remove_915e3 1 := ⟨q9 611 (by decide +kernel) (by decide +kernel), q9 7 (by decide +kernel) (by decide +kernel), by decide +kernel⟩
set_option maxRecDepth 100000 in
theorem km_Jx4a65c_144 : MLk RJx4a65c 144 yJx4a65c_fastRemove_b59b0 2 := ⟨q9 615 (by decide +kernel) (by decide +kernel), q9 7 (by decide +kernel) (by decide +kernel), by decide +kernel⟩
set_option maxRecDepth 100000 in
theorem km_X5_42 : MLk RX5 42 yJx4a65c_add_9ea2d 1 := ⟨q9 620 (by decide +kernel) (by decide +kernel), q9 7 (by decide +kernel) (by decide +kernel), by decide +kernel⟩
set_option maxRecDepth 100000 in
theorem km_X6_133 : MLk RX6 133 yX0_resize 1 := ⟨q9 621 (by decide +kernel) (by decide +kernel), q9 3 (by decide +kernel) (by decide +kernel), by decide +kernel⟩
set_option maxRecDepth 100000 in
theorem km_L_131 : MLk RL 131 yL_setRoom 3 := ⟨q9 625 (by decide +kernel) (by decide +kernel), q9 0 (by decide +kernel) (by decide +kernel), by decide +kernel⟩
set_option maxRecDepth 100000 in
theorem km_L_33 : MLk RL 33 yX6_setRoom 1 := ⟨q9 628 (by decide +kernel) (by decide +kernel), q9 1 (by decide +kernel) (by decide +kernel), by decide +kernel⟩
set_option maxRecDepth 100000 in
theorem km_X6_139 : MLk RX6 139 yX5_makeRoomFor 1 := ⟨q9 632 (by decide +kernel) (by decide +kernel), q9 4 (by decide +kernel) (by decide +kernel), by decide +kernel⟩
set_option maxRecDepth 100000 in
theorem km_L_134 : MLk RL 134 yL_setLimit 3 := ⟨q9 633 (by decide +kernel) (by decide +kernel), q9 0 (by decide +kernel) (by decide +kernel), by decide +kernel⟩
set_option maxRecDepth 100000 in
theorem km_L_36 : MLk RL 36 yX6_setLimit 1 := ⟨q9 636 (by decide +kernel) (by decide +kernel), q9 1 (by decide +kernel) (by decide +kernel), by decide +kernel⟩
set_option maxRecDepth 100000 in
theorem km_L_137 : MLk RL 137 yL_touch 4 := ⟨q9 640 (by decide +kernel) (by decide +kernel), q9 0 (by decide +kernel) (by decide +kernel), by decide +kernel⟩
set_option maxRecDepth 100000 in
theorem km_L_39 : MLk RL 39 yX6_touch 2 := ⟨q9 643 (by decide +kernel) (by decide +kernel), q9 1 (by decide +kernel) (by decide +kernel), by decide +kernel⟩
set_option maxRecDepth 100000 in
theorem km_X6_142 : MLk RX6 142 yX6_isRunning 1 := ⟨q9 647 (by decide +kernel) (by decide +kernel), q9 1 (by decide +kernel) (by decide +kernel), by decide +kernel⟩
set_option maxRecDepth 100000 in
theorem km_X6_152 : MLk RX6 152 yX6_bringIntoFrame 1 := ⟨q9 652 (by decide +kernel) (by decide +kernel), q9 1 (by decide +kernel) (by decide +kernel), by decide +kernel⟩
set_option maxRecDepth 100000 in
theorem km_X6_285 : MLk RX6 285 yX6_stallsFrom 1 := ⟨q9 656 (by decide +kernel) (by decide +kernel), q9 1 (by decide +kernel) (by decide +kernel), by decide +kernel⟩
set_option maxRecDepth 100000 in
theorem km_X6_288 : MLk RX6 288 yX6_detach 1 := ⟨q9 659 (by decide +kernel) (by decide +kernel), q9 1 (by decide +kernel) (by decide +kernel), by decide +kernel⟩
set_option maxRecDepth 100000 in
theorem km_X6_302 : MLk RX6 302 yX5_drop 1 := ⟨q9 663 (by decide +kernel) (by decide +kernel), q9 4 (by decide +kernel) (by decide +kernel), by decide +kernel⟩
set_option maxRecDepth 100000 in
theorem km_X6_292 : MLk RX6 292 yX0_lowestFree 0 := ⟨q9 667 (by decide +kernel) (by decide +kernel), q9 3 (by decide +kernel) (by decide +kernel), by decide +kernel⟩
set_option maxRecDepth 100000 in
theorem km_X6_295 : MLk RX6 295 yX6_clearFrame 0 := ⟨q9 671 (by decide +kernel) (by decide +kernel), q9 1 (by decide +kernel) (by decide +kernel), by decide +kernel⟩
set_option maxRecDepth 100000 in
theorem km_X6_305 : MLk RX6 305 yX0_takeOutByClock 0 := ⟨q9 675 (by decide +kernel) (by decide +kernel), q9 3 (by decide +kernel) (by decide +kernel), by decide +kernel⟩
set_option maxRecDepth 100000 in
theorem km_X0_28 : MLk RX0 28 yX0_takeReference 1 := ⟨q9 679 (by decide +kernel) (by decide +kernel), q9 3 (by decide +kernel) (by decide +kernel), by decide +kernel⟩
set_option maxRecDepth 100000 in
theorem km_X0_32 : MLk RX0 32 yX0_takeOut 1 := ⟨q9 683 (by decide +kernel) (by decide +kernel), q9 3 (by decide +kernel) (by decide +kernel), by decide +kernel⟩
set_option maxRecDepth 100000 in
theorem km_X6_298 : MLk RX6 298 yX0_put 2 := ⟨q9 684 (by decide +kernel) (by decide +kernel), q9 3 (by decide +kernel) (by decide +kernel), by decide +kernel⟩
set_option maxRecDepth 100000 in
theorem km_X0_21 : MLk RX0 21 yX2_moveIntoFrame 1 := ⟨q9 688 (by decide +kernel) (by decide +kernel), q9 16 (by decide +kernel) (by decide +kernel), by decide +kernel⟩
set_option maxRecDepth 100000 in
theorem km_X2_29 : MLk RX2 29 yX2_moveTo 1 := ⟨q9 692 (by decide +kernel) (by decide +kernel), q9 16 (by decide +kernel) (by decide +kernel), by decide +kernel⟩
set_option maxRecDepth 100000 in
theorem km_X6_155 : MLk RX6 155 yX6_countTouch 2 := ⟨q9 693 (by decide +kernel) (by decide +kernel), q9 1 (by decide +kernel) (by decide +kernel), by decide +kernel⟩
set_option maxRecDepth 100000 in
theorem km_X6_309 : MLk RX6 309 yX3_add 1 := ⟨q9 697 (by decide +kernel) (by decide +kernel), q9 8 (by decide +kernel) (by decide +kernel), by decide +kernel⟩
set_option maxRecDepth 100000 in
theorem km_L_140 : MLk RL 140 yL_tick 3 := ⟨q9 701 (by decide +kernel) (by decide +kernel), q9 0 (by decide +kernel) (by decide +kernel), by decide +kernel⟩
set_option maxRecDepth 100000 in
theorem km_L_42 : MLk RL 42 yX6_tick 1 := ⟨q9 704 (by decide +kernel) (by decide +kernel), q9 1 (by decide +kernel) (by decide +kernel), by decide +kernel⟩
set_option maxRecDepth 100000 in
theorem km_X6_162 : MLk RX6 162 yX6_passOneTick 0 := ⟨q9 708 (by decide +kernel) (by decide +kernel), q9 1 (by decide +kernel) (by decide +kernel), by decide +kernel⟩
set_option maxRecDepth 100000 in
theorem km_X6_311 : MLk RX6 311 yX6_killNextVictim 0 := ⟨q9 712 (by decide +kernel) (by decide +kernel), q9 1 (by decide +kernel) (by decide +kernel), by decide +kernel⟩
set_option maxRecDepth 100000 in
theorem km_X6_242 : MLk RX6 242 yX6_nextVictim 0 := ⟨q9 716 (by decide +kernel) (by decide +kernel), q9 1 (by decide +kernel) (by decide +kernel), by decide +kernel⟩
set_option maxRecDepth 100000 in
theorem km_X6_239 : MLk RX6 239 yX4_killScore 0 := ⟨q9 720 (by decide +kernel) (by decide +kernel), q9 15 (by decide +kernel) (by decide +kernel), by decide +kernel⟩
set_option maxRecDepth 100000 in
theorem km_X4_37 : MLk RX4 37 yX4_countPages 1 := ⟨q9 724 (by decide +kernel) (by decide +kernel), q9 15 (by decide +kernel) (by decide +kernel), by decide +kernel⟩
set_option maxRecDepth 100000 in
theorem km_X6_323 : MLk RX6 323 yX2_moveTo 1 := ⟨q9 725 (by decide +kernel) (by decide +kernel), q9 16 (by decide +kernel) (by decide +kernel), by decide +kernel⟩
set_option maxRecDepth 100000 in
theorem km_X6_314 : MLk RX6 314 yX3_forget 0 := ⟨q9 726 (by decide +kernel) (by decide +kernel), q9 8 (by decide +kernel) (by decide +kernel), by decide +kernel⟩
set_option maxRecDepth 100000 in
theorem km_X6_317 : MLk RX6 317 yX3_beginTick 0 := ⟨q9 730 (by decide +kernel) (by decide +kernel), q9 8 (by decide +kernel) (by decide +kernel), by decide +kernel⟩
set_option maxRecDepth 100000 in
theorem km_X6_320 : MLk RX6 320 yX6_startDeadServices 0 := ⟨q9 734 (by decide +kernel) (by decide +kernel), q9 1 (by decide +kernel) (by decide +kernel), by decide +kernel⟩
set_option maxRecDepth 100000 in
theorem km_X6_227 : MLk RX6 227 yX4_delayLeft 1 := ⟨q9 738 (by decide +kernel) (by decide +kernel), q9 15 (by decide +kernel) (by decide +kernel), by decide +kernel⟩
set_option maxRecDepth 100000 in
theorem km_X6_222 : MLk RX6 222 yX6_isNeededByLiving 1 := ⟨q9 742 (by decide +kernel) (by decide +kernel), q9 1 (by decide +kernel) (by decide +kernel), by decide +kernel⟩
set_option maxRecDepth 100000 in
theorem km_L_147 : MLk RL 147 yL_placeOf 4 := ⟨q9 746 (by decide +kernel) (by decide +kernel), q9 0 (by decide +kernel) (by decide +kernel), by decide +kernel⟩
set_option maxRecDepth 100000 in
theorem km_L_45 : MLk RL 45 yX6_placeOf 2 := ⟨q9 749 (by decide +kernel) (by decide +kernel), q9 1 (by decide +kernel) (by decide +kernel), by decide +kernel⟩
set_option maxRecDepth 100000 in
theorem km_L_150 : MLk RL 150 yL_placeByEvents 4 := ⟨q9 753 (by decide +kernel) (by decide +kernel), q9 0 (by decide +kernel) (by decide +kernel), by decide +kernel⟩
set_option maxRecDepth 100000 in
theorem km_L_49 : MLk RL 49 yX6_placeByEvents 2 := ⟨q9 756 (by decide +kernel) (by decide +kernel), q9 1 (by decide +kernel) (by decide +kernel), by decide +kernel⟩
set_option maxRecDepth 100000 in
theorem km_L_153 : MLk RL 153 yL_frameOf 4 := ⟨q9 760 (by decide +kernel) (by decide +kernel), q9 0 (by decide +kernel) (by decide +kernel), by decide +kernel⟩
set_option maxRecDepth 100000 in
theorem km_L_52 : MLk RL 52 yX6_frameOf 2 := ⟨q9 764 (by decide +kernel) (by decide +kernel), q9 1 (by decide +kernel) (by decide +kernel), by decide +kernel⟩
set_option maxRecDepth 100000 in
theorem km_L_156 : MLk RL 156 yL_isReferenced 4 := ⟨q9 784 (by decide +kernel) (by decide +kernel), q9 0 (by decide +kernel) (by decide +kernel), by decide +kernel⟩
set_option maxRecDepth 100000 in
theorem km_L_57 : MLk RL 57 yX6_isReferenced 2 := ⟨q9 787 (by decide +kernel) (by decide +kernel), q9 1 (by decide +kernel) (by decide +kernel), by decide +kernel⟩
set_option maxRecDepth 100000 in
theorem km_L_171 : MLk RL 171 yL_storedAt 3 := ⟨q9 791 (by decide +kernel) (by decide +kernel), q9 0 (by decide +kernel) (by decide +kernel), by decide +kernel⟩
set_option maxRecDepth 100000 in
theorem km_L_61 : MLk RL 61 yX6_storedAt 1 := ⟨q9 794 (by decide +kernel) (by decide +kernel), q9 1 (by decide +kernel) (by decide +kernel), by decide +kernel⟩
set_option maxRecDepth 100000 in
theorem km_L_178 : MLk RL 178 yL_pagesIn 4 := ⟨q9 800 (by decide +kernel) (by decide +kernel), q9 0 (by decide +kernel) (by decide +kernel), by decide +kernel⟩
set_option maxRecDepth 100000 in
theorem km_L_64 : MLk RL 64 yX6_pagesIn 2 := ⟨q9 803 (by decide +kernel) (by decide +kernel), q9 1 (by decide +kernel) (by decide +kernel), by decide +kernel⟩
set_option maxRecDepth 100000 in
theorem km_L_186 : MLk RL 186 yL_stallsOf 3 := ⟨q9 808 (by decide +kernel) (by decide +kernel), q9 0 (by decide +kernel) (by decide +kernel), by decide +kernel⟩
set_option maxRecDepth 100000 in
theorem km_L_68 : MLk RL 68 yX6_stallsOf 1 := ⟨q9 811 (by decide +kernel) (by decide +kernel), q9 1 (by decide +kernel) (by decide +kernel), by decide +kernel⟩
set_option maxRecDepth 100000 in
theorem km_L_189 : MLk RL 189 yL_stateOf 3 := ⟨q9 815 (by decide +kernel) (by decide +kernel), q9 0 (by decide +kernel) (by decide +kernel), by decide +kernel⟩
set_option maxRecDepth 100000 in
theorem km_L_72 : MLk RL 72 yX6_stateOf 1 := ⟨q9 818 (by decide +kernel) (by decide +kernel), q9 1 (by decide +kernel) (by decide +kernel), by decide +kernel⟩
set_option maxRecDepth 100000 in
theorem km_L_192 : MLk RL 192 yL_waitsFor 3 := ⟨q9 822 (by decide +kernel) (by decide +kernel), q9 0 (by decide +kernel) (by decide +kernel), by decide +kernel⟩
set_option maxRecDepth 100000 in
theorem km_L_76 : MLk RL 76 yX6_waitsFor 1 := ⟨q9 825 (by decide +kernel) (by decide +kernel), q9 1 (by decide +kernel) (by decide +kernel), by decide +kernel⟩
set_option maxRecDepth 100000 in
theorem km_L_195 : MLk RL 195 yL_isNeeded 3 := ⟨q9 830 (by decide +kernel) (by decide +kernel), q9 0 (by decide +kernel) (by decide +kernel), by decide +kernel⟩
set_option maxRecDepth 100000 in
theorem km_L_79 : MLk RL 79 yX6_isNeeded 1 := ⟨q9 833 (by decide +kernel) (by decide +kernel), q9 1 (by decide +kernel) (by decide +kernel), by decide +kernel⟩
set_option maxRecDepth 100000 in
theorem km_L_198 : MLk RL 198 yL_startsIn 3 := ⟨q9 837 (by decide +kernel) (by decide +kernel), q9 0 (by decide +kernel) (by decide +kernel), by decide +kernel⟩
set_option maxRecDepth 100000 in
theorem km_L_83 : MLk RL 83 yX6_startsIn 1 := ⟨q9 840 (by decide +kernel) (by decide +kernel), q9 1 (by decide +kernel) (by decide +kernel), by decide +kernel⟩
set_option maxRecDepth 100000 in
theorem km_X6_230 : MLk RX6 230 yJ9_max_7cf53 2 := ⟨q9 845 (by decide +kernel) (by decide +kernel), q9 18 (by decide +kernel) (by decide +kernel), by decide +kernel⟩
set_option maxRecDepth 100000 in
theorem km_L_201 : MLk RL 201 yL_starts 3 := ⟨q9 846 (by decide +kernel) (by decide +kernel), q9 0 (by decide +kernel) (by decide +kernel), by decide +kernel⟩
set_option maxRecDepth 100000 in
theorem km_L_86 : MLk RL 86 yX6_starts 1 := ⟨q9 849 (by decide +kernel) (by decide +kernel), q9 1 (by decide +kernel) (by decide +kernel), by decide +kernel⟩
set_option maxRecDepth 100000 in
theorem km_L_204 : MLk RL 204 yL_score 3 := ⟨q9 853 (by decide +kernel) (by decide +kernel), q9 0 (by decide +kernel) (by decide +kernel), by decide +kernel⟩
set_option maxRecDepth 100000 in
theorem km_L_89 : MLk RL 89 yX6_score 1 := ⟨q9 856 (by decide +kernel) (by decide +kernel), q9 1 (by decide +kernel) (by decide +kernel), by decide +kernel⟩
set_option maxRecDepth 100000 in
theorem km_L_207 : MLk RL 207 yL_victim 2 := ⟨q9 860 (by decide +kernel) (by decide +kernel), q9 0 (by decide +kernel) (by decide +kernel), by decide +kernel⟩
set_option maxRecDepth 100000 in
theorem km_L_92 : MLk RL 92 yX6_victim 0 := ⟨q9 863 (by decide +kernel) (by decide +kernel), q9 1 (by decide +kernel) (by decide +kernel), by decide +kernel⟩
set_option maxRecDepth 100000 in
theorem km_L_215 : MLk RL 215 yL_smoothShare 2 := ⟨q9 868 (by decide +kernel) (by decide +kernel), q9 0 (by decide +kernel) (by decide +kernel), by decide +kernel⟩
set_option maxRecDepth 100000 in
theorem km_L_96 : MLk RL 96 yX6_smoothShare 0 := ⟨q9 885 (by decide +kernel) (by decide +kernel), q9 1 (by decide +kernel) (by decide +kernel), by decide +kernel⟩
set_option maxRecDepth 100000 in
theorem km_L_219 : MLk RL 219 yL_meanStalls 2 := ⟨q9 892 (by decide +kernel) (by decide +kernel), q9 0 (by decide +kernel) (by decide +kernel), by decide +kernel⟩
set_option maxRecDepth 100000 in
theorem km_L_102 : MLk RL 102 yX6_meanStalls 0 := ⟨q9 895 (by decide +kernel) (by decide +kernel), q9 1 (by decide +kernel) (by decide +kernel), by decide +kernel⟩
set_option maxRecDepth 100000 in
theorem km_L_109 : MLk RL 109 yX7_init 0 := ⟨q9 901 (by decide +kernel) (by decide +kernel), q9 9 (by decide +kernel) (by decide +kernel), by decide +kernel⟩
set_option maxRecDepth 100000 in
theorem km_L_116 : MLk RL 116 yX7_thrown 0 := ⟨q9 989 (by decide +kernel) (by decide +kernel), q9 9 (by decide +kernel) (by decide +kernel), by decide +kernel⟩
set_option maxRecDepth 100000 in
theorem km_L_115 : MLk RL 115 yX7_addService 3 := ⟨q9 993 (by decide +kernel) (by decide +kernel), q9 9 (by decide +kernel) (by decide +kernel), by decide +kernel⟩
set_option maxRecDepth 100000 in
theorem km_X7_71 : MLk RX7 71 yX7_in 3 := ⟨q9 997 (by decide +kernel) (by decide +kernel), q9 9 (by decide +kernel) (by decide +kernel), by decide +kernel⟩
set_option maxRecDepth 100000 in
theorem km_X7_79 : MLk RX7 79 yX7_fails 1 := ⟨q9 1000 (by decide +kernel) (by decide +kernel), q9 9 (by decide +kernel) (by decide +kernel), by decide +kernel⟩
set_option maxRecDepth 100000 in
theorem km_L_122 : MLk RL 122 yX7_addNeed 2 := ⟨q9 1004 (by decide +kernel) (by decide +kernel), q9 9 (by decide +kernel) (by decide +kernel), by decide +kernel⟩
set_option maxRecDepth 100000 in
theorem km_X7_75 : MLk RX7 75 yX7_isNone 1 := ⟨q9 1008 (by decide +kernel) (by decide +kernel), q9 9 (by decide +kernel) (by decide +kernel), by decide +kernel⟩
set_option maxRecDepth 100000 in
theorem km_X7_85 : MLk RX7 85 yX7_needsAtLast 2 := ⟨q9 1012 (by decide +kernel) (by decide +kernel), q9 9 (by decide +kernel) (by decide +kernel), by decide +kernel⟩
set_option maxRecDepth 100000 in
theorem km_X7_82 : MLk RX7 82 yX7_needs 2 := ⟨q9 1016 (by decide +kernel) (by decide +kernel), q9 9 (by decide +kernel) (by decide +kernel), by decide +kernel⟩
set_option maxRecDepth 100000 in
theorem km_L_126 : MLk RL 126 yX7_setSize 3 := ⟨q9 1020 (by decide +kernel) (by decide +kernel), q9 9 (by decide +kernel) (by decide +kernel), by decide +kernel⟩
set_option maxRecDepth 100000 in
theorem km_X7_91 : MLk RX7 91 yX7_isNoPage 2 := ⟨q9 1024 (by decide +kernel) (by decide +kernel), q9 9 (by decide +kernel) (by decide +kernel), by decide +kernel⟩
set_option maxRecDepth 100000 in
theorem km_L_130 : MLk RL 130 yX7_setFrames 1 := ⟨q9 1028 (by decide +kernel) (by decide +kernel), q9 9 (by decide +kernel) (by decide +kernel), by decide +kernel⟩
set_option maxRecDepth 100000 in
theorem km_X7_111 : MLk RX7 111 yX7_takesOut 1 := ⟨q9 1032 (by decide +kernel) (by decide +kernel), q9 9 (by decide +kernel) (by decide +kernel), by decide +kernel⟩
set_option maxRecDepth 100000 in
theorem km_X7_108 : MLk RX7 108 yX7_makesRoom 1 := ⟨q9 1036 (by decide +kernel) (by decide +kernel), q9 9 (by decide +kernel) (by decide +kernel), by decide +kernel⟩
set_option maxRecDepth 100000 in
theorem km_X7_97 : MLk RX7 97 yX7_taken 0 := ⟨q9 1040 (by decide +kernel) (by decide +kernel), q9 9 (by decide +kernel) (by decide +kernel), by decide +kernel⟩
set_option maxRecDepth 100000 in
theorem km_X7_101 : MLk RX7 101 yX7_unstores 1 := ⟨q9 1044 (by decide +kernel) (by decide +kernel), q9 9 (by decide +kernel) (by decide +kernel), by decide +kernel⟩
set_option maxRecDepth 100000 in
theorem km_L_133 : MLk RL 133 yX7_setRoom 1 := ⟨q9 1048 (by decide +kernel) (by decide +kernel), q9 9 (by decide +kernel) (by decide +kernel), by decide +kernel⟩
set_option maxRecDepth 100000 in
theorem km_L_136 : MLk RL 136 yX7_setLimit 1 := ⟨q9 1052 (by decide +kernel) (by decide +kernel), q9 9 (by decide +kernel) (by decide +kernel), by decide +kernel⟩
set_option maxRecDepth 100000 in
theorem km_L_139 : MLk RL 139 yX7_touch 2 := ⟨q9 1056 (by decide +kernel) (by decide +kernel), q9 9 (by decide +kernel) (by decide +kernel), by decide +kernel⟩
set_option maxRecDepth 100000 in
theorem km_X7_88 : MLk RX7 88 yX7_runs 1 := ⟨q9 1060 (by decide +kernel) (by decide +kernel), q9 9 (by decide +kernel) (by decide +kernel), by decide +kernel⟩
set_option maxRecDepth 100000 in
theorem km_X7_126 : MLk RX7 126 yX7_frameWith 1 := ⟨q9 1064 (by decide +kernel) (by decide +kernel), q9 9 (by decide +kernel) (by decide +kernel), by decide +kernel⟩
set_option maxRecDepth 100000 in
theorem km_X7_130 : MLk RX7 130 yX7_comes 1 := ⟨q9 1068 (by decide +kernel) (by decide +kernel), q9 9 (by decide +kernel) (by decide +kernel), by decide +kernel⟩
set_option maxRecDepth 100000 in
theorem km_X7_117 : MLk RX7 117 yX7_leaves 1 := ⟨q9 1072 (by decide +kernel) (by decide +kernel), q9 9 (by decide +kernel) (by decide +kernel), by decide +kernel⟩
set_option maxRecDepth 100000 in
theorem km_X7_120 : MLk RX7 120 yX7_freeFrame 0 := ⟨q9 1076 (by decide +kernel) (by decide +kernel), q9 9 (by decide +kernel) (by decide +kernel), by decide +kernel⟩
set_option maxRecDepth 100000 in
theorem km_X7_123 : MLk RX7 123 yX7_clears 0 := ⟨q9 1080 (by decide +kernel) (by decide +kernel), q9 9 (by decide +kernel) (by decide +kernel), by decide +kernel⟩
set_option maxRecDepth 100000 in
theorem km_L_142 : MLk RL 142 yX7_tick 1 := ⟨q9 1084 (by decide +kernel) (by decide +kernel), q9 9 (by decide +kernel) (by decide +kernel), by decide +kernel⟩
set_option maxRecDepth 100000 in
theorem km_X7_168 : MLk RX7 168 yX7_ticks 0 := ⟨q9 1088 (by decide +kernel) (by decide +kernel), q9 9 (by decide +kernel) (by decide +kernel), by decide +kernel⟩
set_option maxRecDepth 100000 in
theorem km_X7_156 : MLk RX7 156 yX7_pressing 0 := ⟨q9 1092 (by decide +kernel) (by decide +kernel), q9 9 (by decide +kernel) (by decide +kernel), by decide +kernel⟩
set_option maxRecDepth 100000 in
theorem km_X7_159 : MLk RX7 159 yX7_worst 0 := ⟨q9 1096 (by decide +kernel) (by decide +kernel), q9 9 (by decide +kernel) (by decide +kernel), by decide +kernel⟩
set_option maxRecDepth 100000 in
theorem km_X7_150 : MLk RX7 150 yX7_scoreOf 1 := ⟨q9 1100 (by decide +kernel) (by decide +kernel), q9 9 (by decide +kernel) (by decide +kernel), by decide +kernel⟩
set_option maxRecDepth 100000 in
theorem km_X7_146 : MLk RX7 146 yX7_inPlace 2 := ⟨q9 1104 (by decide +kernel) (by decide +kernel), q9 9 (by decide +kernel) (by decide +kernel), by decide +kernel⟩
set_option maxRecDepth 100000 in
theorem km_X7_162 : MLk RX7 162 yX7_kills 1 := ⟨q9 1108 (by decide +kernel) (by decide +kernel), q9 9 (by decide +kernel) (by decide +kernel), by decide +kernel⟩
set_option maxRecDepth 100000 in
theorem km_X7_165 : MLk RX7 165 yX7_isWanted 1 := ⟨q9 1112 (by decide +kernel) (by decide +kernel), q9 9 (by decide +kernel) (by decide +kernel), by decide +kernel⟩
set_option maxRecDepth 100000 in
theorem km_L_146 : MLk RL 146 yX7_time 0 := ⟨q9 1116 (by decide +kernel) (by decide +kernel), q9 9 (by decide +kernel) (by decide +kernel), by decide +kernel⟩
set_option maxRecDepth 100000 in
theorem km_X7_171 : MLk RX7 171 yX7_tells 1 := ⟨q9 1120 (by decide +kernel) (by decide +kernel), q9 9 (by decide +kernel) (by decide +kernel), by decide +kernel⟩
set_option maxRecDepth 100000 in
theorem km_L_149 : MLk RL 149 yX7_placeOf 2 := ⟨q9 1124 (by decide +kernel) (by decide +kernel), q9 9 (by decide +kernel) (by decide +kernel), by decide +kernel⟩
set_option maxRecDepth 100000 in
theorem km_X7_174 : MLk RX7 174 yX7_placed 2 := ⟨q9 1128 (by decide +kernel) (by decide +kernel), q9 9 (by decide +kernel) (by decide +kernel), by decide +kernel⟩
set_option maxRecDepth 100000 in
theorem km_L_152 : MLk RL 152 yX7_placeByEvents 2 := ⟨q9 1132 (by decide +kernel) (by decide +kernel), q9 9 (by decide +kernel) (by decide +kernel), by decide +kernel⟩
set_option maxRecDepth 100000 in
theorem km_L_155 : MLk RL 155 yX7_frameOf 2 := ⟨q9 1136 (by decide +kernel) (by decide +kernel), q9 9 (by decide +kernel) (by decide +kernel), by decide +kernel⟩
set_option maxRecDepth 100000 in
theorem km_L_158 : MLk RL 158 yX7_isReferenced 2 := ⟨q9 1140 (by decide +kernel) (by decide +kernel), q9 9 (by decide +kernel) (by decide +kernel), by decide +kernel⟩
set_option maxRecDepth 100000 in
theorem km_L_162 : MLk RL 162 yX7_hand 0 := ⟨q9 1144 (by decide +kernel) (by decide +kernel), q9 9 (by decide +kernel) (by decide +kernel), by decide +kernel⟩
set_option maxRecDepth 100000 in
theorem km_L_166 : MLk RL 166 yX7_free 0 := ⟨q9 1148 (by decide +kernel) (by decide +kernel), q9 9 (by decide +kernel) (by decide +kernel), by decide +kernel⟩
set_option maxRecDepth 100000 in
theorem km_L_170 : MLk RL 170 yX7_stored 0 := ⟨q9 1152 (by decide +kernel) (by decide +kernel), q9 9 (by decide +kernel) (by decide +kernel), by decide +kernel⟩
set_option maxRecDepth 100000 in
theorem km_L_173 : MLk RL 173 yX7_storedAt 1 := ⟨q9 1156 (by decide +kernel) (by decide +kernel), q9 9 (by decide +kernel) (by decide +kernel), by decide +kernel⟩
set_option maxRecDepth 100000 in
theorem km_L_177 : MLk RL 177 yX7_onDisk 0 := ⟨q9 1160 (by decide +kernel) (by decide +kernel), q9 9 (by decide +kernel) (by decide +kernel), by decide +kernel⟩
set_option maxRecDepth 100000 in
theorem km_L_181 : MLk RL 181 yX7_pagesIn 2 := ⟨q9 1164 (by decide +kernel) (by decide +kernel), q9 9 (by decide +kernel) (by decide +kernel), by decide +kernel⟩
set_option maxRecDepth 100000 in
theorem km_L_185 : MLk RL 185 yX7_pressure 0 := ⟨q9 1168 (by decide +kernel) (by decide +kernel), q9 9 (by decide +kernel) (by decide +kernel), by decide +kernel⟩
set_option maxRecDepth 100000 in
theorem km_L_188 : MLk RL 188 yX7_stallsOf 1 := ⟨q9 1172 (by decide +kernel) (by decide +kernel), q9 9 (by decide +kernel) (by decide +kernel), by decide +kernel⟩
set_option maxRecDepth 100000 in
theorem km_X7_178 : MLk RX7 178 yX7_isNobody 1 := ⟨q9 1176 (by decide +kernel) (by decide +kernel), q9 9 (by decide +kernel) (by decide +kernel), by decide +kernel⟩
set_option maxRecDepth 100000 in
theorem km_L_191 : MLk RL 191 yX7_stateOf 1 := ⟨q9 1180 (by decide +kernel) (by decide +kernel), q9 9 (by decide +kernel) (by decide +kernel), by decide +kernel⟩
set_option maxRecDepth 100000 in
theorem km_L_194 : MLk RL 194 yX7_waitsFor 1 := ⟨q9 1184 (by decide +kernel) (by decide +kernel), q9 9 (by decide +kernel) (by decide +kernel), by decide +kernel⟩
set_option maxRecDepth 100000 in
theorem km_L_197 : MLk RL 197 yX7_isNeeded 1 := ⟨q9 1188 (by decide +kernel) (by decide +kernel), q9 9 (by decide +kernel) (by decide +kernel), by decide +kernel⟩
set_option maxRecDepth 100000 in
theorem km_L_200 : MLk RL 200 yX7_startsIn 1 := ⟨q9 1192 (by decide +kernel) (by decide +kernel), q9 9 (by decide +kernel) (by decide +kernel), by decide +kernel⟩
set_option maxRecDepth 100000 in
theorem km_L_203 : MLk RL 203 yX7_starts 1 := ⟨q9 1196 (by decide +kernel) (by decide +kernel), q9 9 (by decide +kernel) (by decide +kernel), by decide +kernel⟩
set_option maxRecDepth 100000 in
theorem km_L_206 : MLk RL 206 yX7_score 1 := ⟨q9 1200 (by decide +kernel) (by decide +kernel), q9 9 (by decide +kernel) (by decide +kernel), by decide +kernel⟩
set_option maxRecDepth 100000 in
theorem km_L_210 : MLk RL 210 yX7_victim 0 := ⟨q9 1204 (by decide +kernel) (by decide +kernel), q9 9 (by decide +kernel) (by decide +kernel), by decide +kernel⟩
set_option maxRecDepth 100000 in
theorem km_L_214 : MLk RL 214 yX7_deaths 0 := ⟨q9 1208 (by decide +kernel) (by decide +kernel), q9 9 (by decide +kernel) (by decide +kernel), by decide +kernel⟩
set_option maxRecDepth 100000 in
theorem km_L_218 : MLk RL 218 yX7_smoothShare 0 := ⟨q9 1212 (by decide +kernel) (by decide +kernel), q9 9 (by decide +kernel) (by decide +kernel), by decide +kernel⟩
set_option maxRecDepth 100000 in
theorem km_L_221 : MLk RL 221 yX7_meanStalls 0 := ⟨q9 1216 (by decide +kernel) (by decide +kernel), q9 9 (by decide +kernel) (by decide +kernel), by decide +kernel⟩
set_option maxRecDepth 100000 in
theorem km_L_226 : MLk RL 226 yX7_isSound 0 := ⟨q9 1220 (by decide +kernel) (by decide +kernel), q9 9 (by decide +kernel) (by decide +kernel), by decide +kernel⟩
set_option maxRecDepth 100000 in
theorem kc_X6_init : Cond.code yX6_init cX6_init 1 none ∈ lw_good := q9 34 (by decide +kernel) (by decide +kernel)
set_option maxRecDepth 100000 in
theorem ki_X6_init : Cond.instanceMethod yX6_init ∈ lw_good ∧ yX6_init.name = "<init>" := ⟨q9 33 (by decide +kernel) (by decide +kernel), rfl⟩
set_option maxRecDepth 100000 in
theorem kc_X1_init : Cond.code yX1_init cX1_init 1 none ∈ lw_good := q9 42 (by decide +kernel) (by decide +kernel)
set_option maxRecDepth 100000 in
theorem ki_X1_init : Cond.instanceMethod yX1_init ∈ lw_good ∧ yX1_init.name = "<init>" := ⟨q9 41 (by decide +kernel) (by decide +kernel), rfl⟩
set_option maxRecDepth 100000 in
theorem kc_X0_init : Cond.code yX0_init cX0_init 1 none ∈ lw_good := q9 60 (by decide +kernel) (by decide +kernel)
set_option maxRecDepth 100000 in
theorem ki_X0_init : Cond.instanceMethod yX0_init ∈ lw_good ∧ yX0_init.name = "<init>" := ⟨q9 59 (by decide +kernel) (by decide +kernel), rfl⟩
set_option maxRecDepth 100000 in
theorem kc_X5_init : Cond.code yX5_init cX5_init 1 none ∈ lw_good := q9 80 (by decide +kernel) (by decide +kernel)
set_option maxRecDepth 100000 in
theorem ki_X5_init : Cond.instanceMethod yX5_init ∈ lw_good ∧ yX5_init.name = "<init>" := ⟨q9 79 (by decide +kernel) (by decide +kernel), rfl⟩
set_option maxRecDepth 100000 in
theorem kc_Jx4a65c_init_da8c8 : Cond.code yJx4a65c_init_da8c8 cJx4a65c_init_da8c8 1 none ∈ lw_good := q9 86 (by decide +kernel) (by decide +kernel)
set_option maxRecDepth 100000 in
theorem ki_Jx4a65c_init_da8c8 : Cond.instanceMethod yJx4a65c_init_da8c8 ∈ lw_good ∧ yJx4a65c_init_da8c8.name = "<init>" := ⟨q9 85 (by decide +kernel) (by decide +kernel), rfl⟩
set_option maxRecDepth 100000 in
theorem kc_Jxc12de_init_da8c8 : Cond.code yJxc12de_init_da8c8 cJxc12de_init_da8c8 1 none ∈ lw_good := q9 89 (by decide +kernel) (by decide +kernel)
set_option maxRecDepth 100000 in
theorem ki_Jxc12de_init_da8c8 : Cond.instanceMethod yJxc12de_init_da8c8 ∈ lw_good ∧ yJxc12de_init_da8c8.name = "<init>" := ⟨q9 88 (by decide +kernel) (by decide +kernel), rfl⟩
set_option maxRecDepth 100000 in
theorem kc_Jxa1e45_init_da8c8 : Cond.code yJxa1e45_init_da8c8 cJxa1e45_init_da8c8 1 none ∈ lw_good := q9 92 (by decide +kernel) (by decide +kernel)
set_option maxRecDepth 100000 in
theorem ki_Jxa1e45_init_da8c8 : Cond.instanceMethod yJxa1e45_init_da8c8 ∈ lw_good ∧ yJxa1e45_init_da8c8.name = "<init>" := ⟨q9 91 (by decide +kernel) (by decide +kernel), rfl⟩
set_option maxRecDepth 100000 in
theorem kc_X3_init : Cond.code yX3_init cX3_init 1 none ∈ lw_good := q9 121 (by decide +kernel) (by decide +kernel)
set_option maxRecDepth 100000 in
theorem ki_X3_init : Cond.instanceMethod yX3_init ∈ lw_good ∧ yX3_init.name = "<init>" := ⟨q9 120 (by decide +kernel) (by decide +kernel), rfl⟩
set_option maxRecDepth 100000 in
theorem kc_X6_time : Cond.code yX6_time cX6_time 1 (some .int) ∈ lw_good := q9 166 (by decide +kernel) (by decide +kernel)
set_option maxRecDepth 100000 in
theorem kv_X6_time : MLv yX6_time := ⟨q9 164 (by decide +kernel) (by decide +kernel), q9 165 (by decide +kernel) (by decide +kernel)⟩
set_option maxRecDepth 100000 in
theorem kc_X6_hand : Cond.code yX6_hand cX6_hand 1 (some .int) ∈ lw_good := q9 170 (by decide +kernel) (by decide +kernel)
set_option maxRecDepth 100000 in
theorem kv_X6_hand : MLv yX6_hand := ⟨q9 168 (by decide +kernel) (by decide +kernel), q9 169 (by decide +kernel) (by decide +kernel)⟩
set_option maxRecDepth 100000 in
theorem kc_X6_free : Cond.code yX6_free cX6_free 1 (some .int) ∈ lw_good := q9 174 (by decide +kernel) (by decide +kernel)
set_option maxRecDepth 100000 in
theorem kv_X6_free : MLv yX6_free := ⟨q9 172 (by decide +kernel) (by decide +kernel), q9 173 (by decide +kernel) (by decide +kernel)⟩
set_option maxRecDepth 100000 in
theorem kc_X0_countFree : Cond.code yX0_countFree cX0_countFree 3 (some .int) ∈ lw_good := q9 178 (by decide +kernel) (by decide +kernel)
set_option maxRecDepth 100000 in
theorem kv_X0_countFree : MLv yX0_countFree := ⟨q9 176 (by decide +kernel) (by decide +kernel), q9 177 (by decide +kernel) (by decide +kernel)⟩
set_option maxRecDepth 100000 in
theorem kc_X6_stored : Cond.code yX6_stored cX6_stored 1 (some .int) ∈ lw_good := q9 182 (by decide +kernel) (by decide +kernel)
set_option maxRecDepth 100000 in
theorem kv_X6_stored : MLv yX6_stored := ⟨q9 180 (by decide +kernel) (by decide +kernel), q9 181 (by decide +kernel) (by decide +kernel)⟩
set_option maxRecDepth 100000 in
theorem kc_X5_takenRoom : Cond.code yX5_takenRoom cX5_takenRoom 3 (some .int) ∈ lw_good := q9 186 (by decide +kernel) (by decide +kernel)
set_option maxRecDepth 100000 in
theorem kv_X5_takenRoom : MLv yX5_takenRoom := ⟨q9 184 (by decide +kernel) (by decide +kernel), q9 185 (by decide +kernel) (by decide +kernel)⟩
set_option maxRecDepth 100000 in
theorem kc_Jx4a65c_size_8abf5 : Cond.code yJx4a65c_size_8abf5 cJx4a65c_size_8abf5 1 (some .int) ∈ lw_good := q9 190 (by decide +kernel) (by decide +kernel)
set_option maxRecDepth 100000 in
theorem kv_Jx4a65c_size_8abf5 : MLv yJx4a65c_size_8abf5 := ⟨q9 188 (by decide +kernel) (by decide +kernel), q9 189 (by decide +kernel) (by decide +kernel)⟩
set_option maxRecDepth 100000 in
theorem kc_Jx4a65c_get_915e3 : Cond.code yJx4a65c_get_915e3 cJx4a65c_get_915e3 2 (some (.object "java/lang/Object")) ∈ lw_good := q9 194 (by decide +kernel) (by decide +kernel)
set_option maxRecDepth 100000 in
theorem kv_Jx4a65c_get_915e3 : MLv yJx4a65c_get_915e3 := ⟨q9 192 (by decide +kernel) (by decide +kernel), q9 193 (by decide +kernel) (by decide +kernel)⟩
set_option maxRecDepth 100000 in
theorem kc_J15_checkIndex_7cf53 : Cond.code yJ15_checkIndex_7cf53 cJ15_checkIndex_7cf53 2 (some .int) ∈ lw_good := q9 197 (by decide +kernel) (by decide +kernel)
set_option maxRecDepth 100000 in
theorem ks_J15_checkIndex_7cf53 : Cond.static yJ15_checkIndex_7cf53 ∈ lw_good := q9 196 (by decide +kernel) (by decide +kernel)
set_option maxRecDepth 100000 in
theorem kc_J3_checkIndex_8e157 : Cond.code yJ3_checkIndex_8e157 cJ3_checkIndex_8e157 3 (some .int) ∈ lw_good := q9 200 (by decide +kernel) (by decide +kernel)
set_option maxRecDepth 100000 in
theorem ks_J3_checkIndex_8e157 : Cond.static yJ3_checkIndex_8e157 ∈ lw_good := q9 199 (by decide +kernel) (by decide +kernel)
set_option maxRecDepth 100000 in
theorem kc_Jx4a65c_elementData_915e3 : Cond.code yJx4a65c_elementData_915e3 cJx4a65c_elementData_915e3 2 (some (.object "java/lang/Object")) ∈ lw_good := q9 204 (by decide +kernel) (by decide +kernel)
set_option maxRecDepth 100000 in
theorem kv_Jx4a65c_elementData_915e3 : MLv yJx4a65c_elementData_915e3 := ⟨q9 202 (by decide +kernel) (by decide +kernel), q9 203 (by decide +kernel) (by decide +kernel)⟩
set_option maxRecDepth 100000 in
theorem kc_X6_onDisk : Cond.code yX6_onDisk cX6_onDisk 3 (some .int) ∈ lw_good := q9 209 (by decide +kernel) (by decide +kernel)
set_option maxRecDepth 100000 in
theorem kv_X6_onDisk : MLv yX6_onDisk := ⟨q9 207 (by decide +kernel) (by decide +kernel), q9 208 (by decide +kernel) (by decide +kernel)⟩
set_option maxRecDepth 100000 in
theorem kc_X4_countPages : Cond.code yX4_countPages cX4_countPages 7 (some .int) ∈ lw_good := q9 216 (by decide +kernel) (by decide +kernel)
set_option maxRecDepth 100000 in
theorem kv_X4_countPages : MLv yX4_countPages := ⟨q9 214 (by decide +kernel) (by decide +kernel), q9 215 (by decide +kernel) (by decide +kernel)⟩
set_option maxRecDepth 100000 in
theorem kc_X6_pressure : Cond.code yX6_pressure cX6_pressure 1 (some .int) ∈ lw_good := q9 220 (by decide +kernel) (by decide +kernel)
set_option maxRecDepth 100000 in
theorem kv_X6_pressure : MLv yX6_pressure := ⟨q9 218 (by decide +kernel) (by decide +kernel), q9 219 (by decide +kernel) (by decide +kernel)⟩
set_option maxRecDepth 100000 in
theorem kc_X3_sum : Cond.code yX3_sum cX3_sum 6 (some .int) ∈ lw_good := q9 224 (by decide +kernel) (by decide +kernel)
set_option maxRecDepth 100000 in
theorem kv_X3_sum : MLv yX3_sum := ⟨q9 222 (by decide +kernel) (by decide +kernel), q9 223 (by decide +kernel) (by decide +kernel)⟩
set_option maxRecDepth 100000 in
theorem kc_X6_deaths : Cond.code yX6_deaths cX6_deaths 1 (some .int) ∈ lw_good := q9 228 (by decide +kernel) (by decide +kernel)
set_option maxRecDepth 100000 in
theorem kv_X6_deaths : MLv yX6_deaths := ⟨q9 226 (by decide +kernel) (by decide +kernel), q9 227 (by decide +kernel) (by decide +kernel)⟩
set_option maxRecDepth 100000 in
theorem kc_X6_isSound : Cond.code yX6_isSound cX6_isSound 1 (some .boolean) ∈ lw_good := q9 232 (by decide +kernel) (by decide +kernel)
set_option maxRecDepth 100000 in
theorem kv_X6_isSound : MLv yX6_isSound := ⟨q9 230 (by decide +kernel) (by decide +kernel), q9 231 (by decide +kernel) (by decide +kernel)⟩
set_option maxRecDepth 100000 in
theorem kc_X6_placesAgree : Cond.code yX6_placesAgree cX6_placesAgree 6 (some .boolean) ∈ lw_good := q9 236 (by decide +kernel) (by decide +kernel)
set_option maxRecDepth 100000 in
theorem kv_X6_placesAgree : MLv yX6_placesAgree := ⟨q9 235 (by decide +kernel) (by decide +kernel), q8 0 (by decide +kernel) (by decide +kernel)⟩
set_option maxRecDepth 100000 in
theorem kc_X1_replay : Cond.code yX1_replay cX1_replay 3 none ∈ lw_good := q9 240 (by decide +kernel) (by decide +kernel)
set_option maxRecDepth 100000 in
theorem kv_X1_replay : MLv yX1_replay := ⟨q9 238 (by decide +kernel) (by decide +kernel), q9 239 (by decide +kernel) (by decide +kernel)⟩
set_option maxRecDepth 100000 in
theorem kc_X1_replayedPlace : Cond.code yX1_replayedPlace cX1_replayedPlace 2 (some .char) ∈ lw_good := q9 244 (by decide +kernel) (by decide +kernel)
set_option maxRecDepth 100000 in
theorem kv_X1_replayedPlace : MLv yX1_replayedPlace := ⟨q9 242 (by decide +kernel) (by decide +kernel), q9 243 (by decide +kernel) (by decide +kernel)⟩
set_option maxRecDepth 100000 in
theorem kc_X6_framesAreSingle : Cond.code yX6_framesAreSingle cX6_framesAreSingle 7 (some .boolean) ∈ lw_good := q9 248 (by decide +kernel) (by decide +kernel)
set_option maxRecDepth 100000 in
theorem kv_X6_framesAreSingle : MLv yX6_framesAreSingle := ⟨q9 247 (by decide +kernel) (by decide +kernel), q8 1 (by decide +kernel) (by decide +kernel)⟩
set_option maxRecDepth 100000 in
theorem kc_X6_hasBit : Cond.code yX6_hasBit cX6_hasBit 2 (some .boolean) ∈ lw_good := q9 251 (by decide +kernel) (by decide +kernel)
set_option maxRecDepth 100000 in
theorem ks_X6_hasBit : Cond.static yX6_hasBit ∈ lw_good := q9 250 (by decide +kernel) (by decide +kernel)
set_option maxRecDepth 100000 in
theorem kc_X6_addService : Cond.code yX6_addService cX6_addService 5 (some .int) ∈ lw_good := q9 260 (by decide +kernel) (by decide +kernel)
set_option maxRecDepth 100000 in
theorem kv_X6_addService : MLv yX6_addService := ⟨q9 258 (by decide +kernel) (by decide +kernel), q9 259 (by decide +kernel) (by decide +kernel)⟩
set_option maxRecDepth 100000 in
theorem kc_X6_requireRange : Cond.code yX6_requireRange cX6_requireRange 3 none ∈ lw_good := q9 263 (by decide +kernel) (by decide +kernel)
set_option maxRecDepth 100000 in
theorem ks_X6_requireRange : Cond.static yX6_requireRange ∈ lw_good := q9 262 (by decide +kernel) (by decide +kernel)
set_option maxRecDepth 100000 in
theorem kc_X4_init : Cond.code yX4_init cX4_init 7 none ∈ lw_good := q9 356 (by decide +kernel) (by decide +kernel)
set_option maxRecDepth 100000 in
theorem ki_X4_init : Cond.instanceMethod yX4_init ∈ lw_good ∧ yX4_init.name = "<init>" := ⟨q9 355 (by decide +kernel) (by decide +kernel), rfl⟩
set_option maxRecDepth 100000 in
theorem kc_X2_init : Cond.code yX2_init cX2_init 3 none ∈ lw_good := q9 362 (by decide +kernel) (by decide +kernel)
set_option maxRecDepth 100000 in
theorem ki_X2_init : Cond.instanceMethod yX2_init ∈ lw_good ∧ yX2_init.name = "<init>" := ⟨q9 361 (by decide +kernel) (by decide +kernel), rfl⟩
set_option maxRecDepth 100000 in
theorem kc_Jx4a65c_add_9ea2d : Cond.code yJx4a65c_add_9ea2d cJx4a65c_add_9ea2d 2 (some .boolean) ∈ lw_good := q9 430 (by decide +kernel) (by decide +kernel)
set_option maxRecDepth 100000 in
theorem kv_Jx4a65c_add_9ea2d : MLv yJx4a65c_add_9ea2d := ⟨q9 428 (by decide +kernel) (by decide +kernel), q9 429 (by decide +kernel) (by decide +kernel)⟩
set_option maxRecDepth 100000 in
theorem kc_Jx4a65c_add_72be8 : Cond.code yJx4a65c_add_72be8 cJx4a65c_add_72be8 4 none ∈ lw_good := q9 434 (by decide +kernel) (by decide +kernel)
set_option maxRecDepth 100000 in
theorem kv_Jx4a65c_add_72be8 : MLv yJx4a65c_add_72be8 := ⟨q9 433 (by decide +kernel) (by decide +kernel), q8 3 (by decide +kernel) (by decide +kernel)⟩
set_option maxRecDepth 100000 in
theorem kc_Jx4a65c_grow_d5877 : Cond.code yJx4a65c_grow_d5877 cJx4a65c_grow_d5877 1 (some (.array (.object "java/lang/Object"))) ∈ lw_good := q9 438 (by decide +kernel) (by decide +kernel)
set_option maxRecDepth 100000 in
theorem kv_Jx4a65c_grow_d5877 : MLv yJx4a65c_grow_d5877 := ⟨q9 437 (by decide +kernel) (by decide +kernel), q8 4 (by decide +kernel) (by decide +kernel)⟩
set_option maxRecDepth 100000 in
theorem kc_Jx4a65c_grow_92f84 : Cond.code yJx4a65c_grow_92f84 cJx4a65c_grow_92f84 4 (some (.array (.object "java/lang/Object"))) ∈ lw_good := q9 442 (by decide +kernel) (by decide +kernel)
set_option maxRecDepth 100000 in
theorem kv_Jx4a65c_grow_92f84 : MLv yJx4a65c_grow_92f84 := ⟨q9 441 (by decide +kernel) (by decide +kernel), q8 5 (by decide +kernel) (by decide +kernel)⟩
set_option maxRecDepth 100000 in
theorem kc_J8_newLength_cabcc : Cond.code yJ8_newLength_cabcc cJ8_newLength_cabcc 4 (some .int) ∈ lw_good := q9 445 (by decide +kernel) (by decide +kernel)
set_option maxRecDepth 100000 in
theorem ks_J8_newLength_cabcc : Cond.static yJ8_newLength_cabcc ∈ lw_good := q9 444 (by decide +kernel) (by decide +kernel)
set_option maxRecDepth 100000 in
theorem kc_J9_max_7cf53 : Cond.code yJ9_max_7cf53 cJ9_max_7cf53 2 (some .int) ∈ lw_good := q9 448 (by decide +kernel) (by decide +kernel)
set_option maxRecDepth 100000 in
theorem ks_J9_max_7cf53 : Cond.static yJ9_max_7cf53 ∈ lw_good := q9 447 (by decide +kernel) (by decide +kernel)
set_option maxRecDepth 100000 in
theorem kc_J8_hugeLength_7cf53 : Cond.code yJ8_hugeLength_7cf53 cJ8_hugeLength_7cf53 3 (some .int) ∈ lw_good := q9 452 (by decide +kernel) (by decide +kernel)
set_option maxRecDepth 100000 in
theorem ks_J8_hugeLength_7cf53 : Cond.static yJ8_hugeLength_7cf53 ∈ lw_good := q9 451 (by decide +kernel) (by decide +kernel)
set_option maxRecDepth 100000 in
theorem kc_J7_copyOf_1904c : Cond.code yJ7_copyOf_1904c cJ7_copyOf_1904c 2 (some (.array (.object "java/lang/Object"))) ∈ lw_good := q9 455 (by decide +kernel) (by decide +kernel)
set_option maxRecDepth 100000 in
theorem ks_J7_copyOf_1904c : Cond.static yJ7_copyOf_1904c ∈ lw_good := q9 454 (by decide +kernel) (by decide +kernel)
set_option maxRecDepth 100000 in
theorem kc_J7_copyOf_6403c : Cond.code yJ7_copyOf_6403c cJ7_copyOf_6403c 4 (some (.array (.object "java/lang/Object"))) ∈ lw_good := q9 478 (by decide +kernel) (by decide +kernel)
set_option maxRecDepth 100000 in
theorem ks_J7_copyOf_6403c : Cond.static yJ7_copyOf_6403c ∈ lw_good := q9 477 (by decide +kernel) (by decide +kernel)
set_option maxRecDepth 100000 in
theorem kc_J9_min_7cf53 : Cond.code yJ9_min_7cf53 cJ9_min_7cf53 2 (some .int) ∈ lw_good := q9 484 (by decide +kernel) (by decide +kernel)
set_option maxRecDepth 100000 in
theorem ks_J9_min_7cf53 : Cond.static yJ9_min_7cf53 ∈ lw_good := q9 483 (by decide +kernel) (by decide +kernel)
set_option maxRecDepth 100000 in
theorem kc_Jx00060_init_a7421 : Cond.code yJx00060_init_a7421 cJx00060_init_a7421 2 none ∈ lw_good := q9 496 (by decide +kernel) (by decide +kernel)
set_option maxRecDepth 100000 in
theorem ki_Jx00060_init_a7421 : Cond.instanceMethod yJx00060_init_a7421 ∈ lw_good ∧ yJx00060_init_a7421.name = "<init>" := ⟨q9 495 (by decide +kernel) (by decide +kernel), rfl⟩
set_option maxRecDepth 100000 in
theorem kc_X6_addNeed : Cond.code yX6_addNeed cX6_addNeed 4 (some .int) ∈ lw_good := q9 521 (by decide +kernel) (by decide +kernel)
set_option maxRecDepth 100000 in
theorem kv_X6_addNeed : MLv yX6_addNeed := ⟨q9 519 (by decide +kernel) (by decide +kernel), q9 520 (by decide +kernel) (by decide +kernel)⟩
set_option maxRecDepth 100000 in
theorem kc_X6_serviceAt : Cond.code yX6_serviceAt cX6_serviceAt 2 (some (.object "Swapyard$Service")) ∈ lw_good := q9 525 (by decide +kernel) (by decide +kernel)
set_option maxRecDepth 100000 in
theorem kv_X6_serviceAt : MLv yX6_serviceAt := ⟨q9 524 (by decide +kernel) (by decide +kernel), q8 6 (by decide +kernel) (by decide +kernel)⟩
set_option maxRecDepth 100000 in
theorem kc_X6_requireService : Cond.code yX6_requireService cX6_requireService 2 none ∈ lw_good := q9 529 (by decide +kernel) (by decide +kernel)
set_option maxRecDepth 100000 in
theorem kv_X6_requireService : MLv yX6_requireService := ⟨q9 528 (by decide +kernel) (by decide +kernel), q8 7 (by decide +kernel) (by decide +kernel)⟩
set_option maxRecDepth 100000 in
theorem kc_X6_allNeedsOf : Cond.code yX6_allNeedsOf cX6_allNeedsOf 5 (some .int) ∈ lw_good := q9 547 (by decide +kernel) (by decide +kernel)
set_option maxRecDepth 100000 in
theorem kv_X6_allNeedsOf : MLv yX6_allNeedsOf := ⟨q9 546 (by decide +kernel) (by decide +kernel), q8 8 (by decide +kernel) (by decide +kernel)⟩
set_option maxRecDepth 100000 in
theorem kc_J6_bitCount_0f7a4 : Cond.code yJ6_bitCount_0f7a4 cJ6_bitCount_0f7a4 1 (some .int) ∈ lw_good := q9 566 (by decide +kernel) (by decide +kernel)
set_option maxRecDepth 100000 in
theorem ks_J6_bitCount_0f7a4 : Cond.static yJ6_bitCount_0f7a4 ∈ lw_good := q9 565 (by decide +kernel) (by decide +kernel)
set_option maxRecDepth 100000 in
theorem kc_X6_setSize : Cond.code yX6_setSize cX6_setSize 6 (some .int) ∈ lw_good := q9 576 (by decide +kernel) (by decide +kernel)
set_option maxRecDepth 100000 in
theorem kv_X6_setSize : MLv yX6_setSize := ⟨q9 574 (by decide +kernel) (by decide +kernel), q9 575 (by decide +kernel) (by decide +kernel)⟩
set_option maxRecDepth 100000 in
theorem kc_X6_pageAt : Cond.code yX6_pageAt cX6_pageAt 4 (some (.object "Swapyard$Page")) ∈ lw_good := q9 580 (by decide +kernel) (by decide +kernel)
set_option maxRecDepth 100000 in
theorem kv_X6_pageAt : MLv yX6_pageAt := ⟨q9 579 (by decide +kernel) (by decide +kernel), q8 9 (by decide +kernel) (by decide +kernel)⟩
set_option maxRecDepth 100000 in
theorem kc_X6_setFrames : Cond.code yX6_setFrames cX6_setFrames 5 (some .int) ∈ lw_good := q9 589 (by decide +kernel) (by decide +kernel)
set_option maxRecDepth 100000 in
theorem kv_X6_setFrames : MLv yX6_setFrames := ⟨q9 587 (by decide +kernel) (by decide +kernel), q9 588 (by decide +kernel) (by decide +kernel)⟩
set_option maxRecDepth 100000 in
theorem kc_X0_takeOut : Cond.code yX0_takeOut cX0_takeOut 3 (some (.object "Swapyard$Page")) ∈ lw_good := q9 593 (by decide +kernel) (by decide +kernel)
set_option maxRecDepth 100000 in
theorem kv_X0_takeOut : MLv yX0_takeOut := ⟨q9 591 (by decide +kernel) (by decide +kernel), q9 592 (by decide +kernel) (by decide +kernel)⟩
set_option maxRecDepth 100000 in
theorem kc_X5_takeIn : Cond.code yX5_takeIn cX5_takeIn 3 (some .int) ∈ lw_good := q9 597 (by decide +kernel) (by decide +kernel)
set_option maxRecDepth 100000 in
theorem kv_X5_takeIn : MLv yX5_takeIn := ⟨q9 595 (by decide +kernel) (by decide +kernel), q9 596 (by decide +kernel) (by decide +kernel)⟩
set_option maxRecDepth 100000 in
theorem kc_X2_moveTo : Cond.code yX2_moveTo cX2_moveTo 2 none ∈ lw_good := q9 601 (by decide +kernel) (by decide +kernel)
set_option maxRecDepth 100000 in
theorem kv_X2_moveTo : MLv yX2_moveTo := ⟨q9 599 (by decide +kernel) (by decide +kernel), q9 600 (by decide +kernel) (by decide +kernel)⟩
set_option maxRecDepth 100000 in
theorem kc_X1_record : Cond.code yX1_record cX1_record 3 none ∈ lw_good := q9 605 (by decide +kernel) (by decide +kernel)
set_option maxRecDepth 100000 in
theorem kv_X1_record : MLv yX1_record := ⟨q9 603 (by decide +kernel) (by decide +kernel), q9 604 (by decide +kernel) (by decide +kernel)⟩
set_option maxRecDepth 100000 in
theorem kc_X5_makeRoomFor : Cond.code yX5_makeRoomFor cX5_makeRoomFor 4 (some .int) ∈ lw_good := q9 609 (by decide +kernel) (by decide +kernel)
set_option maxRecDepth 100000 in
theorem kv_X5_makeRoomFor : MLv yX5_makeRoomFor := ⟨q9 607 (by decide +kernel) (by decide +kernel), q9 608 (by decide +kernel) (by decide +kernel)⟩
set_option maxRecDepth 100000 in
theorem kc_Jx4a65c_remove_915e3 : Cond.code yJx4a65c_remove_915e3 cJx4a65c_remove_915e3 4 (some (.object "java/lang/Object")) ∈ lw_good := q9 614 (by decide +kernel) (by decide +kernel)
set_option maxRecDepth 100000 in
theorem kv_Jx4a65c_remove_915e3 : MLv yJx4a65c_remove_915e3 := ⟨q9 612 (by decide +kernel) (by decide +kernel), q9 613 (by decide +kernel) (by decide +kernel)⟩
set_option maxRecDepth 100000 in
theorem kc_Jx4a65c_fastRemove_b59b0 : Cond.code yJx4a65c_fastRemove_b59b0 cJx4a65c_fastRemove_b59b0 4 none ∈ lw_good := q9 618 (by decide +kernel) (by decide +kernel)
set_option maxRecDepth 100000 in
theorem kv_Jx4a65c_fastRemove_b59b0 : MLv yJx4a65c_fastRemove_b59b0 := ⟨q9 617 (by decide +kernel) (by decide +kernel), q8 10 (by decide +kernel) (by decide +kernel)⟩
set_option maxRecDepth 100000 in
theorem kc_X0_resize : Cond.code yX0_resize cX0_resize 2 none ∈ lw_good := q9 624 (by decide +kernel) (by decide +kernel)
set_option maxRecDepth 100000 in
theorem kv_X0_resize : MLv yX0_resize := ⟨q9 622 (by decide +kernel) (by decide +kernel), q9 623 (by decide +kernel) (by decide +kernel)⟩
set_option maxRecDepth 100000 in
theorem kc_X6_setRoom : Cond.code yX6_setRoom cX6_setRoom 3 (some .int) ∈ lw_good := q9 631 (by decide +kernel) (by decide +kernel)
set_option maxRecDepth 100000 in
theorem kv_X6_setRoom : MLv yX6_setRoom := ⟨q9 629 (by decide +kernel) (by decide +kernel), q9 630 (by decide +kernel) (by decide +kernel)⟩
set_option maxRecDepth 100000 in
theorem kc_X6_setLimit : Cond.code yX6_setLimit cX6_setLimit 3 (some .int) ∈ lw_good := q9 639 (by decide +kernel) (by decide +kernel)
set_option maxRecDepth 100000 in
theorem kv_X6_setLimit : MLv yX6_setLimit := ⟨q9 637 (by decide +kernel) (by decide +kernel), q9 638 (by decide +kernel) (by decide +kernel)⟩
set_option maxRecDepth 100000 in
theorem kc_X6_touch : Cond.code yX6_touch cX6_touch 5 (some .int) ∈ lw_good := q9 646 (by decide +kernel) (by decide +kernel)
set_option maxRecDepth 100000 in
theorem kv_X6_touch : MLv yX6_touch := ⟨q9 644 (by decide +kernel) (by decide +kernel), q9 645 (by decide +kernel) (by decide +kernel)⟩
set_option maxRecDepth 100000 in
theorem kc_X6_isRunning : Cond.code yX6_isRunning cX6_isRunning 4 (some .boolean) ∈ lw_good := q9 650 (by decide +kernel) (by decide +kernel)
set_option maxRecDepth 100000 in
theorem kv_X6_isRunning : MLv yX6_isRunning := ⟨q9 649 (by decide +kernel) (by decide +kernel), q8 11 (by decide +kernel) (by decide +kernel)⟩
set_option maxRecDepth 100000 in
theorem kc_X6_bringIntoFrame : Cond.code yX6_bringIntoFrame cX6_bringIntoFrame 4 (some .int) ∈ lw_good := q9 655 (by decide +kernel) (by decide +kernel)
set_option maxRecDepth 100000 in
theorem kv_X6_bringIntoFrame : MLv yX6_bringIntoFrame := ⟨q9 654 (by decide +kernel) (by decide +kernel), q8 12 (by decide +kernel) (by decide +kernel)⟩
set_option maxRecDepth 100000 in
theorem kc_X6_stallsFrom : Cond.code yX6_stallsFrom cX6_stallsFrom 1 (some .int) ∈ lw_good := q9 658 (by decide +kernel) (by decide +kernel)
set_option maxRecDepth 100000 in
theorem ks_X6_stallsFrom : Cond.static yX6_stallsFrom ∈ lw_good := q9 657 (by decide +kernel) (by decide +kernel)
set_option maxRecDepth 100000 in
theorem kc_X6_detach : Cond.code yX6_detach cX6_detach 2 none ∈ lw_good := q9 662 (by decide +kernel) (by decide +kernel)
set_option maxRecDepth 100000 in
theorem kv_X6_detach : MLv yX6_detach := ⟨q9 661 (by decide +kernel) (by decide +kernel), q8 13 (by decide +kernel) (by decide +kernel)⟩
set_option maxRecDepth 100000 in
theorem kc_X5_drop : Cond.code yX5_drop cX5_drop 3 none ∈ lw_good := q9 666 (by decide +kernel) (by decide +kernel)
set_option maxRecDepth 100000 in
theorem kv_X5_drop : MLv yX5_drop := ⟨q9 664 (by decide +kernel) (by decide +kernel), q9 665 (by decide +kernel) (by decide +kernel)⟩
set_option maxRecDepth 100000 in
theorem kc_X0_lowestFree : Cond.code yX0_lowestFree cX0_lowestFree 2 (some .int) ∈ lw_good := q9 670 (by decide +kernel) (by decide +kernel)
set_option maxRecDepth 100000 in
theorem kv_X0_lowestFree : MLv yX0_lowestFree := ⟨q9 668 (by decide +kernel) (by decide +kernel), q9 669 (by decide +kernel) (by decide +kernel)⟩
set_option maxRecDepth 100000 in
theorem kc_X6_clearFrame : Cond.code yX6_clearFrame cX6_clearFrame 2 (some .int) ∈ lw_good := q9 674 (by decide +kernel) (by decide +kernel)
set_option maxRecDepth 100000 in
theorem kv_X6_clearFrame : MLv yX6_clearFrame := ⟨q9 673 (by decide +kernel) (by decide +kernel), q8 14 (by decide +kernel) (by decide +kernel)⟩
set_option maxRecDepth 100000 in
theorem kc_X0_takeOutByClock : Cond.code yX0_takeOutByClock cX0_takeOutByClock 3 (some (.object "Swapyard$Page")) ∈ lw_good := q9 678 (by decide +kernel) (by decide +kernel)
set_option maxRecDepth 100000 in
theorem kv_X0_takeOutByClock : MLv yX0_takeOutByClock := ⟨q9 676 (by decide +kernel) (by decide +kernel), q9 677 (by decide +kernel) (by decide +kernel)⟩
set_option maxRecDepth 100000 in
theorem kc_X0_takeReference : Cond.code yX0_takeReference cX0_takeReference 3 (some .boolean) ∈ lw_good := q9 682 (by decide +kernel) (by decide +kernel)
set_option maxRecDepth 100000 in
theorem kv_X0_takeReference : MLv yX0_takeReference := ⟨q9 681 (by decide +kernel) (by decide +kernel), q8 15 (by decide +kernel) (by decide +kernel)⟩
set_option maxRecDepth 100000 in
theorem kc_X0_put : Cond.code yX0_put cX0_put 3 none ∈ lw_good := q9 687 (by decide +kernel) (by decide +kernel)
set_option maxRecDepth 100000 in
theorem kv_X0_put : MLv yX0_put := ⟨q9 685 (by decide +kernel) (by decide +kernel), q9 686 (by decide +kernel) (by decide +kernel)⟩
set_option maxRecDepth 100000 in
theorem kc_X2_moveIntoFrame : Cond.code yX2_moveIntoFrame cX2_moveIntoFrame 2 none ∈ lw_good := q9 691 (by decide +kernel) (by decide +kernel)
set_option maxRecDepth 100000 in
theorem kv_X2_moveIntoFrame : MLv yX2_moveIntoFrame := ⟨q9 689 (by decide +kernel) (by decide +kernel), q9 690 (by decide +kernel) (by decide +kernel)⟩
set_option maxRecDepth 100000 in
theorem kc_X6_countTouch : Cond.code yX6_countTouch cX6_countTouch 3 none ∈ lw_good := q9 696 (by decide +kernel) (by decide +kernel)
set_option maxRecDepth 100000 in
theorem kv_X6_countTouch : MLv yX6_countTouch := ⟨q9 695 (by decide +kernel) (by decide +kernel), q8 16 (by decide +kernel) (by decide +kernel)⟩
set_option maxRecDepth 100000 in
theorem kc_X3_add : Cond.code yX3_add cX3_add 2 none ∈ lw_good := q9 700 (by decide +kernel) (by decide +kernel)
set_option maxRecDepth 100000 in
theorem kv_X3_add : MLv yX3_add := ⟨q9 698 (by decide +kernel) (by decide +kernel), q9 699 (by decide +kernel) (by decide +kernel)⟩
set_option maxRecDepth 100000 in
theorem kc_X6_tick : Cond.code yX6_tick cX6_tick 4 (some .int) ∈ lw_good := q9 707 (by decide +kernel) (by decide +kernel)
set_option maxRecDepth 100000 in
theorem kv_X6_tick : MLv yX6_tick := ⟨q9 705 (by decide +kernel) (by decide +kernel), q9 706 (by decide +kernel) (by decide +kernel)⟩
set_option maxRecDepth 100000 in
theorem kc_X6_passOneTick : Cond.code yX6_passOneTick cX6_passOneTick 1 none ∈ lw_good := q9 711 (by decide +kernel) (by decide +kernel)
set_option maxRecDepth 100000 in
theorem kv_X6_passOneTick : MLv yX6_passOneTick := ⟨q9 710 (by decide +kernel) (by decide +kernel), q8 17 (by decide +kernel) (by decide +kernel)⟩
set_option maxRecDepth 100000 in
theorem kc_X6_killNextVictim : Cond.code yX6_killNextVictim cX6_killNextVictim 6 none ∈ lw_good := q9 715 (by decide +kernel) (by decide +kernel)
set_option maxRecDepth 100000 in
theorem kv_X6_killNextVictim : MLv yX6_killNextVictim := ⟨q9 714 (by decide +kernel) (by decide +kernel), q8 18 (by decide +kernel) (by decide +kernel)⟩
set_option maxRecDepth 100000 in
theorem kc_X6_nextVictim : Cond.code yX6_nextVictim cX6_nextVictim 4 (some (.object "Swapyard$Service")) ∈ lw_good := q9 719 (by decide +kernel) (by decide +kernel)
set_option maxRecDepth 100000 in
theorem kv_X6_nextVictim : MLv yX6_nextVictim := ⟨q9 718 (by decide +kernel) (by decide +kernel), q8 19 (by decide +kernel) (by decide +kernel)⟩
set_option maxRecDepth 100000 in
theorem kc_X4_killScore : Cond.code yX4_killScore cX4_killScore 1 (some .int) ∈ lw_good := q9 723 (by decide +kernel) (by decide +kernel)
set_option maxRecDepth 100000 in
theorem kv_X4_killScore : MLv yX4_killScore := ⟨q9 721 (by decide +kernel) (by decide +kernel), q9 722 (by decide +kernel) (by decide +kernel)⟩
set_option maxRecDepth 100000 in
theorem kc_X3_forget : Cond.code yX3_forget cX3_forget 2 none ∈ lw_good := q9 729 (by decide +kernel) (by decide +kernel)
set_option maxRecDepth 100000 in
theorem kv_X3_forget : MLv yX3_forget := ⟨q9 727 (by decide +kernel) (by decide +kernel), q9 728 (by decide +kernel) (by decide +kernel)⟩
set_option maxRecDepth 100000 in
theorem kc_X3_beginTick : Cond.code yX3_beginTick cX3_beginTick 2 none ∈ lw_good := q9 733 (by decide +kernel) (by decide +kernel)
set_option maxRecDepth 100000 in
theorem kv_X3_beginTick : MLv yX3_beginTick := ⟨q9 731 (by decide +kernel) (by decide +kernel), q9 732 (by decide +kernel) (by decide +kernel)⟩
set_option maxRecDepth 100000 in
theorem kc_X6_startDeadServices : Cond.code yX6_startDeadServices cX6_startDeadServices 3 none ∈ lw_good := q9 737 (by decide +kernel) (by decide +kernel)
set_option maxRecDepth 100000 in
theorem kv_X6_startDeadServices : MLv yX6_startDeadServices := ⟨q9 736 (by decide +kernel) (by decide +kernel), q8 20 (by decide +kernel) (by decide +kernel)⟩
set_option maxRecDepth 100000 in
theorem kc_X4_delayLeft : Cond.code yX4_delayLeft cX4_delayLeft 2 (some .int) ∈ lw_good := q9 741 (by decide +kernel) (by decide +kernel)
set_option maxRecDepth 100000 in
theorem kv_X4_delayLeft : MLv yX4_delayLeft := ⟨q9 739 (by decide +kernel) (by decide +kernel), q9 740 (by decide +kernel) (by decide +kernel)⟩
set_option maxRecDepth 100000 in
theorem kc_X6_isNeededByLiving : Cond.code yX6_isNeededByLiving cX6_isNeededByLiving 4 (some .boolean) ∈ lw_good := q9 745 (by decide +kernel) (by decide +kernel)
set_option maxRecDepth 100000 in
theorem kv_X6_isNeededByLiving : MLv yX6_isNeededByLiving := ⟨q9 744 (by decide +kernel) (by decide +kernel), q8 21 (by decide +kernel) (by decide +kernel)⟩
set_option maxRecDepth 100000 in
theorem kc_X6_placeOf : Cond.code yX6_placeOf cX6_placeOf 3 (some .char) ∈ lw_good := q9 752 (by decide +kernel) (by decide +kernel)
set_option maxRecDepth 100000 in
theorem kv_X6_placeOf : MLv yX6_placeOf := ⟨q9 750 (by decide +kernel) (by decide +kernel), q9 751 (by decide +kernel) (by decide +kernel)⟩
set_option maxRecDepth 100000 in
theorem kc_X6_placeByEvents : Cond.code yX6_placeByEvents cX6_placeByEvents 4 (some .char) ∈ lw_good := q9 759 (by decide +kernel) (by decide +kernel)
set_option maxRecDepth 100000 in
theorem kv_X6_placeByEvents : MLv yX6_placeByEvents := ⟨q9 757 (by decide +kernel) (by decide +kernel), q9 758 (by decide +kernel) (by decide +kernel)⟩
set_option maxRecDepth 100000 in
theorem kc_X6_frameOf : Cond.code yX6_frameOf cX6_frameOf 4 (some .int) ∈ lw_good := q9 767 (by decide +kernel) (by decide +kernel)
set_option maxRecDepth 100000 in
theorem kv_X6_frameOf : MLv yX6_frameOf := ⟨q9 765 (by decide +kernel) (by decide +kernel), q9 766 (by decide +kernel) (by decide +kernel)⟩
set_option maxRecDepth 100000 in
theorem kc_X6_isReferenced : Cond.code yX6_isReferenced cX6_isReferenced 3 (some .boolean) ∈ lw_good := q9 790 (by decide +kernel) (by decide +kernel)
set_option maxRecDepth 100000 in
theorem kv_X6_isReferenced : MLv yX6_isReferenced := ⟨q9 788 (by decide +kernel) (by decide +kernel), q9 789 (by decide +kernel) (by decide +kernel)⟩
set_option maxRecDepth 100000 in
theorem kc_X6_storedAt : Cond.code yX6_storedAt cX6_storedAt 2 (some .int) ∈ lw_good := q9 797 (by decide +kernel) (by decide +kernel)
set_option maxRecDepth 100000 in
theorem kv_X6_storedAt : MLv yX6_storedAt := ⟨q9 795 (by decide +kernel) (by decide +kernel), q9 796 (by decide +kernel) (by decide +kernel)⟩
set_option maxRecDepth 100000 in
theorem kc_X6_pagesIn : Cond.code yX6_pagesIn cX6_pagesIn 4 (some .int) ∈ lw_good := q9 806 (by decide +kernel) (by decide +kernel)
set_option maxRecDepth 100000 in
theorem kv_X6_pagesIn : MLv yX6_pagesIn := ⟨q9 804 (by decide +kernel) (by decide +kernel), q9 805 (by decide +kernel) (by decide +kernel)⟩
set_option maxRecDepth 100000 in
theorem kc_X6_stallsOf : Cond.code yX6_stallsOf cX6_stallsOf 2 (some .long) ∈ lw_good := q9 814 (by decide +kernel) (by decide +kernel)
set_option maxRecDepth 100000 in
theorem kv_X6_stallsOf : MLv yX6_stallsOf := ⟨q9 812 (by decide +kernel) (by decide +kernel), q9 813 (by decide +kernel) (by decide +kernel)⟩
set_option maxRecDepth 100000 in
theorem kc_X6_stateOf : Cond.code yX6_stateOf cX6_stateOf 2 (some .char) ∈ lw_good := q9 821 (by decide +kernel) (by decide +kernel)
set_option maxRecDepth 100000 in
theorem kv_X6_stateOf : MLv yX6_stateOf := ⟨q9 819 (by decide +kernel) (by decide +kernel), q9 820 (by decide +kernel) (by decide +kernel)⟩
set_option maxRecDepth 100000 in
theorem kc_X6_waitsFor : Cond.code yX6_waitsFor cX6_waitsFor 4 (some .int) ∈ lw_good := q9 828 (by decide +kernel) (by decide +kernel)
set_option maxRecDepth 100000 in
theorem kv_X6_waitsFor : MLv yX6_waitsFor := ⟨q9 826 (by decide +kernel) (by decide +kernel), q9 827 (by decide +kernel) (by decide +kernel)⟩
set_option maxRecDepth 100000 in
theorem kc_X6_isNeeded : Cond.code yX6_isNeeded cX6_isNeeded 2 (some .boolean) ∈ lw_good := q9 836 (by decide +kernel) (by decide +kernel)
set_option maxRecDepth 100000 in
theorem kv_X6_isNeeded : MLv yX6_isNeeded := ⟨q9 834 (by decide +kernel) (by decide +kernel), q9 835 (by decide +kernel) (by decide +kernel)⟩
set_option maxRecDepth 100000 in
theorem kc_X6_startsIn : Cond.code yX6_startsIn cX6_startsIn 3 (some .int) ∈ lw_good := q9 843 (by decide +kernel) (by decide +kernel)
set_option maxRecDepth 100000 in
theorem kv_X6_startsIn : MLv yX6_startsIn := ⟨q9 841 (by decide +kernel) (by decide +kernel), q9 842 (by decide +kernel) (by decide +kernel)⟩
set_option maxRecDepth 100000 in
theorem kc_X6_starts : Cond.code yX6_starts cX6_starts 2 (some .int) ∈ lw_good := q9 852 (by decide +kernel) (by decide +kernel)
set_option maxRecDepth 100000 in
theorem kv_X6_starts : MLv yX6_starts := ⟨q9 850 (by decide +kernel) (by decide +kernel), q9 851 (by decide +kernel) (by decide +kernel)⟩
set_option maxRecDepth 100000 in
theorem kc_X6_score : Cond.code yX6_score cX6_score 2 (some .int) ∈ lw_good := q9 859 (by decide +kernel) (by decide +kernel)
set_option maxRecDepth 100000 in
theorem kv_X6_score : MLv yX6_score := ⟨q9 857 (by decide +kernel) (by decide +kernel), q9 858 (by decide +kernel) (by decide +kernel)⟩
set_option maxRecDepth 100000 in
theorem kc_X6_victim : Cond.code yX6_victim cX6_victim 2 (some .int) ∈ lw_good := q9 866 (by decide +kernel) (by decide +kernel)
set_option maxRecDepth 100000 in
theorem kv_X6_victim : MLv yX6_victim := ⟨q9 864 (by decide +kernel) (by decide +kernel), q9 865 (by decide +kernel) (by decide +kernel)⟩
set_option maxRecDepth 100000 in
theorem kc_X6_smoothShare : Cond.code yX6_smoothShare cX6_smoothShare 1 (some .float) ∈ lw_good := q9 888 (by decide +kernel) (by decide +kernel)
set_option maxRecDepth 100000 in
theorem kv_X6_smoothShare : MLv yX6_smoothShare := ⟨q9 886 (by decide +kernel) (by decide +kernel), q9 887 (by decide +kernel) (by decide +kernel)⟩
set_option maxRecDepth 100000 in
theorem kc_X6_meanStalls : Cond.code yX6_meanStalls cX6_meanStalls 1 (some .double) ∈ lw_good := q9 898 (by decide +kernel) (by decide +kernel)
set_option maxRecDepth 100000 in
theorem kv_X6_meanStalls : MLv yX6_meanStalls := ⟨q9 896 (by decide +kernel) (by decide +kernel), q9 897 (by decide +kernel) (by decide +kernel)⟩
set_option maxRecDepth 100000 in
theorem kc_X7_init : Cond.code yX7_init cX7_init 1 none ∈ lw_good := q9 903 (by decide +kernel) (by decide +kernel)
set_option maxRecDepth 100000 in
theorem ki_X7_init : Cond.instanceMethod yX7_init ∈ lw_good ∧ yX7_init.name = "<init>" := ⟨q9 902 (by decide +kernel) (by decide +kernel), rfl⟩
set_option maxRecDepth 100000 in
theorem kc_X7_thrown : Cond.code yX7_thrown cX7_thrown 1 (some .int) ∈ lw_good := q9 992 (by decide +kernel) (by decide +kernel)
set_option maxRecDepth 100000 in
theorem kv_X7_thrown : MLv yX7_thrown := ⟨q9 990 (by decide +kernel) (by decide +kernel), q9 991 (by decide +kernel) (by decide +kernel)⟩
set_option maxRecDepth 100000 in
theorem kc_X7_addService : Cond.code yX7_addService cX7_addService 5 (some .int) ∈ lw_good := q9 996 (by decide +kernel) (by decide +kernel)
set_option maxRecDepth 100000 in
theorem kv_X7_addService : MLv yX7_addService := ⟨q9 994 (by decide +kernel) (by decide +kernel), q9 995 (by decide +kernel) (by decide +kernel)⟩
set_option maxRecDepth 100000 in
theorem kc_X7_in : Cond.code yX7_in cX7_in 3 (some .boolean) ∈ lw_good := q9 999 (by decide +kernel) (by decide +kernel)
set_option maxRecDepth 100000 in
theorem ks_X7_in : Cond.static yX7_in ∈ lw_good := q9 998 (by decide +kernel) (by decide +kernel)
set_option maxRecDepth 100000 in
theorem kc_X7_fails : Cond.code yX7_fails cX7_fails 2 (some .boolean) ∈ lw_good := q9 1003 (by decide +kernel) (by decide +kernel)
set_option maxRecDepth 100000 in
theorem kv_X7_fails : MLv yX7_fails := ⟨q9 1002 (by decide +kernel) (by decide +kernel), q8 22 (by decide +kernel) (by decide +kernel)⟩
set_option maxRecDepth 100000 in
theorem kc_X7_addNeed : Cond.code yX7_addNeed cX7_addNeed 5 (some .int) ∈ lw_good := q9 1007 (by decide +kernel) (by decide +kernel)
set_option maxRecDepth 100000 in
theorem kv_X7_addNeed : MLv yX7_addNeed := ⟨q9 1005 (by decide +kernel) (by decide +kernel), q9 1006 (by decide +kernel) (by decide +kernel)⟩
set_option maxRecDepth 100000 in
theorem kc_X7_isNone : Cond.code yX7_isNone cX7_isNone 2 (some .boolean) ∈ lw_good := q9 1011 (by decide +kernel) (by decide +kernel)
set_option maxRecDepth 100000 in
theorem kv_X7_isNone : MLv yX7_isNone := ⟨q9 1010 (by decide +kernel) (by decide +kernel), q8 23 (by decide +kernel) (by decide +kernel)⟩
set_option maxRecDepth 100000 in
theorem kc_X7_needsAtLast : Cond.code yX7_needsAtLast cX7_needsAtLast 4 (some .boolean) ∈ lw_good := q9 1015 (by decide +kernel) (by decide +kernel)
set_option maxRecDepth 100000 in
theorem kv_X7_needsAtLast : MLv yX7_needsAtLast := ⟨q9 1014 (by decide +kernel) (by decide +kernel), q8 24 (by decide +kernel) (by decide +kernel)⟩
set_option maxRecDepth 100000 in
theorem kc_X7_needs : Cond.code yX7_needs cX7_needs 3 (some .boolean) ∈ lw_good := q9 1019 (by decide +kernel) (by decide +kernel)
set_option maxRecDepth 100000 in
theorem kv_X7_needs : MLv yX7_needs := ⟨q9 1018 (by decide +kernel) (by decide +kernel), q8 25 (by decide +kernel) (by decide +kernel)⟩
set_option maxRecDepth 100000 in
theorem kc_X7_setSize : Cond.code yX7_setSize cX7_setSize 5 (some .int) ∈ lw_good := q9 1023 (by decide +kernel) (by decide +kernel)
set_option maxRecDepth 100000 in
theorem kv_X7_setSize : MLv yX7_setSize := ⟨q9 1021 (by decide +kernel) (by decide +kernel), q9 1022 (by decide +kernel) (by decide +kernel)⟩
set_option maxRecDepth 100000 in
theorem kc_X7_isNoPage : Cond.code yX7_isNoPage cX7_isNoPage 3 (some .boolean) ∈ lw_good := q9 1027 (by decide +kernel) (by decide +kernel)
set_option maxRecDepth 100000 in
theorem kv_X7_isNoPage : MLv yX7_isNoPage := ⟨q9 1026 (by decide +kernel) (by decide +kernel), q8 26 (by decide +kernel) (by decide +kernel)⟩
set_option maxRecDepth 100000 in
theorem kc_X7_setFrames : Cond.code yX7_setFrames cX7_setFrames 4 (some .int) ∈ lw_good := q9 1031 (by decide +kernel) (by decide +kernel)
set_option maxRecDepth 100000 in
theorem kv_X7_setFrames : MLv yX7_setFrames := ⟨q9 1029 (by decide +kernel) (by decide +kernel), q9 1030 (by decide +kernel) (by decide +kernel)⟩
set_option maxRecDepth 100000 in
theorem kc_X7_takesOut : Cond.code yX7_takesOut cX7_takesOut 3 none ∈ lw_good := q9 1035 (by decide +kernel) (by decide +kernel)
set_option maxRecDepth 100000 in
theorem kv_X7_takesOut : MLv yX7_takesOut := ⟨q9 1034 (by decide +kernel) (by decide +kernel), q8 27 (by decide +kernel) (by decide +kernel)⟩
set_option maxRecDepth 100000 in
theorem kc_X7_makesRoom : Cond.code yX7_makesRoom cX7_makesRoom 2 none ∈ lw_good := q9 1039 (by decide +kernel) (by decide +kernel)
set_option maxRecDepth 100000 in
theorem kv_X7_makesRoom : MLv yX7_makesRoom := ⟨q9 1038 (by decide +kernel) (by decide +kernel), q8 28 (by decide +kernel) (by decide +kernel)⟩
set_option maxRecDepth 100000 in
theorem kc_X7_taken : Cond.code yX7_taken cX7_taken 3 (some .int) ∈ lw_good := q9 1043 (by decide +kernel) (by decide +kernel)
set_option maxRecDepth 100000 in
theorem kv_X7_taken : MLv yX7_taken := ⟨q9 1042 (by decide +kernel) (by decide +kernel), q8 29 (by decide +kernel) (by decide +kernel)⟩
set_option maxRecDepth 100000 in
theorem kc_X7_unstores : Cond.code yX7_unstores cX7_unstores 3 none ∈ lw_good := q9 1047 (by decide +kernel) (by decide +kernel)
set_option maxRecDepth 100000 in
theorem kv_X7_unstores : MLv yX7_unstores := ⟨q9 1046 (by decide +kernel) (by decide +kernel), q8 30 (by decide +kernel) (by decide +kernel)⟩
set_option maxRecDepth 100000 in
theorem kc_X7_setRoom : Cond.code yX7_setRoom cX7_setRoom 3 (some .int) ∈ lw_good := q9 1051 (by decide +kernel) (by decide +kernel)
set_option maxRecDepth 100000 in
theorem kv_X7_setRoom : MLv yX7_setRoom := ⟨q9 1049 (by decide +kernel) (by decide +kernel), q9 1050 (by decide +kernel) (by decide +kernel)⟩
set_option maxRecDepth 100000 in
theorem kc_X7_setLimit : Cond.code yX7_setLimit cX7_setLimit 3 (some .int) ∈ lw_good := q9 1055 (by decide +kernel) (by decide +kernel)
set_option maxRecDepth 100000 in
theorem kv_X7_setLimit : MLv yX7_setLimit := ⟨q9 1053 (by decide +kernel) (by decide +kernel), q9 1054 (by decide +kernel) (by decide +kernel)⟩
set_option maxRecDepth 100000 in
theorem kc_X7_touch : Cond.code yX7_touch cX7_touch 4 (some .int) ∈ lw_good := q9 1059 (by decide +kernel) (by decide +kernel)
set_option maxRecDepth 100000 in
theorem kv_X7_touch : MLv yX7_touch := ⟨q9 1057 (by decide +kernel) (by decide +kernel), q9 1058 (by decide +kernel) (by decide +kernel)⟩
set_option maxRecDepth 100000 in
theorem kc_X7_runs : Cond.code yX7_runs cX7_runs 3 (some .boolean) ∈ lw_good := q9 1063 (by decide +kernel) (by decide +kernel)
set_option maxRecDepth 100000 in
theorem kv_X7_runs : MLv yX7_runs := ⟨q9 1062 (by decide +kernel) (by decide +kernel), q8 31 (by decide +kernel) (by decide +kernel)⟩
set_option maxRecDepth 100000 in
theorem kc_X7_frameWith : Cond.code yX7_frameWith cX7_frameWith 3 (some .int) ∈ lw_good := q9 1067 (by decide +kernel) (by decide +kernel)
set_option maxRecDepth 100000 in
theorem kv_X7_frameWith : MLv yX7_frameWith := ⟨q9 1066 (by decide +kernel) (by decide +kernel), q8 32 (by decide +kernel) (by decide +kernel)⟩
set_option maxRecDepth 100000 in
theorem kc_X7_comes : Cond.code yX7_comes cX7_comes 3 none ∈ lw_good := q9 1071 (by decide +kernel) (by decide +kernel)
set_option maxRecDepth 100000 in
theorem kv_X7_comes : MLv yX7_comes := ⟨q9 1070 (by decide +kernel) (by decide +kernel), q8 33 (by decide +kernel) (by decide +kernel)⟩
set_option maxRecDepth 100000 in
theorem kc_X7_leaves : Cond.code yX7_leaves cX7_leaves 3 none ∈ lw_good := q9 1075 (by decide +kernel) (by decide +kernel)
set_option maxRecDepth 100000 in
theorem kv_X7_leaves : MLv yX7_leaves := ⟨q9 1074 (by decide +kernel) (by decide +kernel), q8 34 (by decide +kernel) (by decide +kernel)⟩
set_option maxRecDepth 100000 in
theorem kc_X7_freeFrame : Cond.code yX7_freeFrame cX7_freeFrame 2 (some .int) ∈ lw_good := q9 1079 (by decide +kernel) (by decide +kernel)
set_option maxRecDepth 100000 in
theorem kv_X7_freeFrame : MLv yX7_freeFrame := ⟨q9 1078 (by decide +kernel) (by decide +kernel), q8 35 (by decide +kernel) (by decide +kernel)⟩
set_option maxRecDepth 100000 in
theorem kc_X7_clears : Cond.code yX7_clears cX7_clears 1 none ∈ lw_good := q9 1083 (by decide +kernel) (by decide +kernel)
set_option maxRecDepth 100000 in
theorem kv_X7_clears : MLv yX7_clears := ⟨q9 1082 (by decide +kernel) (by decide +kernel), q8 36 (by decide +kernel) (by decide +kernel)⟩
set_option maxRecDepth 100000 in
theorem kc_X7_tick : Cond.code yX7_tick cX7_tick 4 (some .int) ∈ lw_good := q9 1087 (by decide +kernel) (by decide +kernel)
set_option maxRecDepth 100000 in
theorem kv_X7_tick : MLv yX7_tick := ⟨q9 1085 (by decide +kernel) (by decide +kernel), q9 1086 (by decide +kernel) (by decide +kernel)⟩
set_option maxRecDepth 100000 in
theorem kc_X7_ticks : Cond.code yX7_ticks cX7_ticks 3 (some .int) ∈ lw_good := q9 1091 (by decide +kernel) (by decide +kernel)
set_option maxRecDepth 100000 in
theorem kv_X7_ticks : MLv yX7_ticks := ⟨q9 1090 (by decide +kernel) (by decide +kernel), q8 37 (by decide +kernel) (by decide +kernel)⟩
set_option maxRecDepth 100000 in
theorem kc_X7_pressing : Cond.code yX7_pressing cX7_pressing 1 (some .int) ∈ lw_good := q9 1095 (by decide +kernel) (by decide +kernel)
set_option maxRecDepth 100000 in
theorem kv_X7_pressing : MLv yX7_pressing := ⟨q9 1094 (by decide +kernel) (by decide +kernel), q8 38 (by decide +kernel) (by decide +kernel)⟩
set_option maxRecDepth 100000 in
theorem kc_X7_worst : Cond.code yX7_worst cX7_worst 3 (some .int) ∈ lw_good := q9 1099 (by decide +kernel) (by decide +kernel)
set_option maxRecDepth 100000 in
theorem kv_X7_worst : MLv yX7_worst := ⟨q9 1098 (by decide +kernel) (by decide +kernel), q8 39 (by decide +kernel) (by decide +kernel)⟩
set_option maxRecDepth 100000 in
theorem kc_X7_scoreOf : Cond.code yX7_scoreOf cX7_scoreOf 2 (some .int) ∈ lw_good := q9 1103 (by decide +kernel) (by decide +kernel)
set_option maxRecDepth 100000 in
theorem kv_X7_scoreOf : MLv yX7_scoreOf := ⟨q9 1102 (by decide +kernel) (by decide +kernel), q8 40 (by decide +kernel) (by decide +kernel)⟩
set_option maxRecDepth 100000 in
theorem kc_X7_inPlace : Cond.code yX7_inPlace cX7_inPlace 5 (some .int) ∈ lw_good := q9 1107 (by decide +kernel) (by decide +kernel)
set_option maxRecDepth 100000 in
theorem kv_X7_inPlace : MLv yX7_inPlace := ⟨q9 1106 (by decide +kernel) (by decide +kernel), q8 41 (by decide +kernel) (by decide +kernel)⟩
set_option maxRecDepth 100000 in
theorem kc_X7_kills : Cond.code yX7_kills cX7_kills 3 none ∈ lw_good := q9 1111 (by decide +kernel) (by decide +kernel)
set_option maxRecDepth 100000 in
theorem kv_X7_kills : MLv yX7_kills := ⟨q9 1110 (by decide +kernel) (by decide +kernel), q8 42 (by decide +kernel) (by decide +kernel)⟩
set_option maxRecDepth 100000 in
theorem kc_X7_isWanted : Cond.code yX7_isWanted cX7_isWanted 3 (some .boolean) ∈ lw_good := q9 1115 (by decide +kernel) (by decide +kernel)
set_option maxRecDepth 100000 in
theorem kv_X7_isWanted : MLv yX7_isWanted := ⟨q9 1114 (by decide +kernel) (by decide +kernel), q8 43 (by decide +kernel) (by decide +kernel)⟩
set_option maxRecDepth 100000 in
theorem kc_X7_time : Cond.code yX7_time cX7_time 1 (some .int) ∈ lw_good := q9 1119 (by decide +kernel) (by decide +kernel)
set_option maxRecDepth 100000 in
theorem kv_X7_time : MLv yX7_time := ⟨q9 1117 (by decide +kernel) (by decide +kernel), q9 1118 (by decide +kernel) (by decide +kernel)⟩
set_option maxRecDepth 100000 in
theorem kc_X7_tells : Cond.code yX7_tells cX7_tells 2 (some .int) ∈ lw_good := q9 1123 (by decide +kernel) (by decide +kernel)
set_option maxRecDepth 100000 in
theorem kv_X7_tells : MLv yX7_tells := ⟨q9 1122 (by decide +kernel) (by decide +kernel), q8 44 (by decide +kernel) (by decide +kernel)⟩
set_option maxRecDepth 100000 in
theorem kc_X7_placeOf : Cond.code yX7_placeOf cX7_placeOf 3 (some .char) ∈ lw_good := q9 1127 (by decide +kernel) (by decide +kernel)
set_option maxRecDepth 100000 in
theorem kv_X7_placeOf : MLv yX7_placeOf := ⟨q9 1125 (by decide +kernel) (by decide +kernel), q9 1126 (by decide +kernel) (by decide +kernel)⟩
set_option maxRecDepth 100000 in
theorem kc_X7_placed : Cond.code yX7_placed cX7_placed 4 (some .char) ∈ lw_good := q9 1131 (by decide +kernel) (by decide +kernel)
set_option maxRecDepth 100000 in
theorem kv_X7_placed : MLv yX7_placed := ⟨q9 1130 (by decide +kernel) (by decide +kernel), q8 45 (by decide +kernel) (by decide +kernel)⟩
set_option maxRecDepth 100000 in
theorem kc_X7_placeByEvents : Cond.code yX7_placeByEvents cX7_placeByEvents 3 (some .char) ∈ lw_good := q9 1135 (by decide +kernel) (by decide +kernel)
set_option maxRecDepth 100000 in
theorem kv_X7_placeByEvents : MLv yX7_placeByEvents := ⟨q9 1133 (by decide +kernel) (by decide +kernel), q9 1134 (by decide +kernel) (by decide +kernel)⟩
set_option maxRecDepth 100000 in
theorem kc_X7_frameOf : Cond.code yX7_frameOf cX7_frameOf 3 (some .int) ∈ lw_good := q9 1139 (by decide +kernel) (by decide +kernel)
set_option maxRecDepth 100000 in
theorem kv_X7_frameOf : MLv yX7_frameOf := ⟨q9 1137 (by decide +kernel) (by decide +kernel), q9 1138 (by decide +kernel) (by decide +kernel)⟩
set_option maxRecDepth 100000 in
theorem kc_X7_isReferenced : Cond.code yX7_isReferenced cX7_isReferenced 3 (some .boolean) ∈ lw_good := q9 1143 (by decide +kernel) (by decide +kernel)
set_option maxRecDepth 100000 in
theorem kv_X7_isReferenced : MLv yX7_isReferenced := ⟨q9 1141 (by decide +kernel) (by decide +kernel), q9 1142 (by decide +kernel) (by decide +kernel)⟩
set_option maxRecDepth 100000 in
theorem kc_X7_hand : Cond.code yX7_hand cX7_hand 1 (some .int) ∈ lw_good := q9 1147 (by decide +kernel) (by decide +kernel)
set_option maxRecDepth 100000 in
theorem kv_X7_hand : MLv yX7_hand := ⟨q9 1145 (by decide +kernel) (by decide +kernel), q9 1146 (by decide +kernel) (by decide +kernel)⟩
set_option maxRecDepth 100000 in
theorem kc_X7_free : Cond.code yX7_free cX7_free 3 (some .int) ∈ lw_good := q9 1151 (by decide +kernel) (by decide +kernel)
set_option maxRecDepth 100000 in
theorem kv_X7_free : MLv yX7_free := ⟨q9 1149 (by decide +kernel) (by decide +kernel), q9 1150 (by decide +kernel) (by decide +kernel)⟩
set_option maxRecDepth 100000 in
theorem kc_X7_stored : Cond.code yX7_stored cX7_stored 1 (some .int) ∈ lw_good := q9 1155 (by decide +kernel) (by decide +kernel)
set_option maxRecDepth 100000 in
theorem kv_X7_stored : MLv yX7_stored := ⟨q9 1153 (by decide +kernel) (by decide +kernel), q9 1154 (by decide +kernel) (by decide +kernel)⟩
set_option maxRecDepth 100000 in
theorem kc_X7_storedAt : Cond.code yX7_storedAt cX7_storedAt 2 (some .int) ∈ lw_good := q9 1159 (by decide +kernel) (by decide +kernel)
set_option maxRecDepth 100000 in
theorem kv_X7_storedAt : MLv yX7_storedAt := ⟨q9 1157 (by decide +kernel) (by decide +kernel), q9 1158 (by decide +kernel) (by decide +kernel)⟩
set_option maxRecDepth 100000 in
theorem kc_X7_onDisk : Cond.code yX7_onDisk cX7_onDisk 3 (some .int) ∈ lw_good := q9 1163 (by decide +kernel) (by decide +kernel)
set_option maxRecDepth 100000 in
theorem kv_X7_onDisk : MLv yX7_onDisk := ⟨q9 1161 (by decide +kernel) (by decide +kernel), q9 1162 (by decide +kernel) (by decide +kernel)⟩
set_option maxRecDepth 100000 in
theorem kc_X7_pagesIn : Cond.code yX7_pagesIn cX7_pagesIn 4 (some .int) ∈ lw_good := q9 1167 (by decide +kernel) (by decide +kernel)
set_option maxRecDepth 100000 in
theorem kv_X7_pagesIn : MLv yX7_pagesIn := ⟨q9 1165 (by decide +kernel) (by decide +kernel), q9 1166 (by decide +kernel) (by decide +kernel)⟩
set_option maxRecDepth 100000 in
theorem kc_X7_pressure : Cond.code yX7_pressure cX7_pressure 1 (some .int) ∈ lw_good := q9 1171 (by decide +kernel) (by decide +kernel)
set_option maxRecDepth 100000 in
theorem kv_X7_pressure : MLv yX7_pressure := ⟨q9 1169 (by decide +kernel) (by decide +kernel), q9 1170 (by decide +kernel) (by decide +kernel)⟩
set_option maxRecDepth 100000 in
theorem kc_X7_stallsOf : Cond.code yX7_stallsOf cX7_stallsOf 2 (some .long) ∈ lw_good := q9 1175 (by decide +kernel) (by decide +kernel)
set_option maxRecDepth 100000 in
theorem kv_X7_stallsOf : MLv yX7_stallsOf := ⟨q9 1173 (by decide +kernel) (by decide +kernel), q9 1174 (by decide +kernel) (by decide +kernel)⟩
set_option maxRecDepth 100000 in
theorem kc_X7_isNobody : Cond.code yX7_isNobody cX7_isNobody 2 (some .boolean) ∈ lw_good := q9 1179 (by decide +kernel) (by decide +kernel)
set_option maxRecDepth 100000 in
theorem kv_X7_isNobody : MLv yX7_isNobody := ⟨q9 1178 (by decide +kernel) (by decide +kernel), q8 46 (by decide +kernel) (by decide +kernel)⟩
set_option maxRecDepth 100000 in
theorem kc_X7_stateOf : Cond.code yX7_stateOf cX7_stateOf 2 (some .char) ∈ lw_good := q9 1183 (by decide +kernel) (by decide +kernel)
set_option maxRecDepth 100000 in
theorem kv_X7_stateOf : MLv yX7_stateOf := ⟨q9 1181 (by decide +kernel) (by decide +kernel), q9 1182 (by decide +kernel) (by decide +kernel)⟩
set_option maxRecDepth 100000 in
theorem kc_X7_waitsFor : Cond.code yX7_waitsFor cX7_waitsFor 3 (some .int) ∈ lw_good := q9 1187 (by decide +kernel) (by decide +kernel)
set_option maxRecDepth 100000 in
theorem kv_X7_waitsFor : MLv yX7_waitsFor := ⟨q9 1185 (by decide +kernel) (by decide +kernel), q9 1186 (by decide +kernel) (by decide +kernel)⟩
set_option maxRecDepth 100000 in
theorem kc_X7_isNeeded : Cond.code yX7_isNeeded cX7_isNeeded 2 (some .boolean) ∈ lw_good := q9 1191 (by decide +kernel) (by decide +kernel)
set_option maxRecDepth 100000 in
theorem kv_X7_isNeeded : MLv yX7_isNeeded := ⟨q9 1189 (by decide +kernel) (by decide +kernel), q9 1190 (by decide +kernel) (by decide +kernel)⟩
set_option maxRecDepth 100000 in
theorem kc_X7_startsIn : Cond.code yX7_startsIn cX7_startsIn 3 (some .int) ∈ lw_good := q9 1195 (by decide +kernel) (by decide +kernel)
set_option maxRecDepth 100000 in
theorem kv_X7_startsIn : MLv yX7_startsIn := ⟨q9 1193 (by decide +kernel) (by decide +kernel), q9 1194 (by decide +kernel) (by decide +kernel)⟩
set_option maxRecDepth 100000 in
theorem kc_X7_starts : Cond.code yX7_starts cX7_starts 2 (some .int) ∈ lw_good := q9 1199 (by decide +kernel) (by decide +kernel)
set_option maxRecDepth 100000 in
theorem kv_X7_starts : MLv yX7_starts := ⟨q9 1197 (by decide +kernel) (by decide +kernel), q9 1198 (by decide +kernel) (by decide +kernel)⟩
set_option maxRecDepth 100000 in
theorem kc_X7_score : Cond.code yX7_score cX7_score 2 (some .int) ∈ lw_good := q9 1203 (by decide +kernel) (by decide +kernel)
set_option maxRecDepth 100000 in
theorem kv_X7_score : MLv yX7_score := ⟨q9 1201 (by decide +kernel) (by decide +kernel), q9 1202 (by decide +kernel) (by decide +kernel)⟩
set_option maxRecDepth 100000 in
theorem kc_X7_victim : Cond.code yX7_victim cX7_victim 1 (some .int) ∈ lw_good := q9 1207 (by decide +kernel) (by decide +kernel)
set_option maxRecDepth 100000 in
theorem kv_X7_victim : MLv yX7_victim := ⟨q9 1205 (by decide +kernel) (by decide +kernel), q9 1206 (by decide +kernel) (by decide +kernel)⟩
set_option maxRecDepth 100000 in
theorem kc_X7_deaths : Cond.code yX7_deaths cX7_deaths 1 (some .int) ∈ lw_good := q9 1211 (by decide +kernel) (by decide +kernel)
set_option maxRecDepth 100000 in
theorem kv_X7_deaths : MLv yX7_deaths := ⟨q9 1209 (by decide +kernel) (by decide +kernel), q9 1210 (by decide +kernel) (by decide +kernel)⟩
set_option maxRecDepth 100000 in
theorem kc_X7_smoothShare : Cond.code yX7_smoothShare cX7_smoothShare 1 (some .float) ∈ lw_good := q9 1215 (by decide +kernel) (by decide +kernel)
set_option maxRecDepth 100000 in
theorem kv_X7_smoothShare : MLv yX7_smoothShare := ⟨q9 1213 (by decide +kernel) (by decide +kernel), q9 1214 (by decide +kernel) (by decide +kernel)⟩
set_option maxRecDepth 100000 in
theorem kc_X7_meanStalls : Cond.code yX7_meanStalls cX7_meanStalls 1 (some .double) ∈ lw_good := q9 1219 (by decide +kernel) (by decide +kernel)
set_option maxRecDepth 100000 in
theorem kv_X7_meanStalls : MLv yX7_meanStalls := ⟨q9 1217 (by decide +kernel) (by decide +kernel), q9 1218 (by decide +kernel) (by decide +kernel)⟩
set_option maxRecDepth 100000 in
theorem kc_X7_isSound : Cond.code yX7_isSound cX7_isSound 4 (some .boolean) ∈ lw_good := q9 1223 (by decide +kernel) (by decide +kernel)
set_option maxRecDepth 100000 in
theorem kv_X7_isSound : MLv yX7_isSound := ⟨q9 1221 (by decide +kernel) (by decide +kernel), q9 1222 (by decide +kernel) (by decide +kernel)⟩
set_option maxRecDepth 100000 in
theorem kh_L_addService : Cond.codeWith yL_addService cL_addService 6 (some .int) [((0), (12), (15), (13)), ((0), (12), (19), (15))] ∈ lw_good := q9 254 (by decide +kernel) (by decide +kernel)
set_option maxRecDepth 100000 in
theorem ks_L_addService : Cond.static yL_addService ∈ lw_good := q9 253 (by decide +kernel) (by decide +kernel)
set_option maxRecDepth 100000 in
theorem kh_L_addNeed : Cond.codeWith yL_addNeed cL_addNeed 5 (some .int) [((0), (10), (13), (21)), ((0), (10), (17), (13)), ((0), (10), (21), (23))] ∈ lw_good := q9 492 (by decide +kernel) (by decide +kernel)
set_option maxRecDepth 100000 in
theorem ks_L_addNeed : Cond.static yL_addNeed ∈ lw_good := q9 491 (by decide +kernel) (by decide +kernel)
set_option maxRecDepth 100000 in
theorem kh_L_setSize : Cond.codeWith yL_setSize cL_setSize 6 (some .int) [((0), (12), (15), (21)), ((0), (12), (19), (13)), ((0), (12), (23), (15))] ∈ lw_good := q9 572 (by decide +kernel) (by decide +kernel)
set_option maxRecDepth 100000 in
theorem ks_L_setSize : Cond.static yL_setSize ∈ lw_good := q9 571 (by decide +kernel) (by decide +kernel)
set_option maxRecDepth 100000 in
theorem kh_L_setFrames : Cond.codeWith yL_setFrames cL_setFrames 4 (some .int) [((0), (9), (12), (13))] ∈ lw_good := q9 585 (by decide +kernel) (by decide +kernel)
set_option maxRecDepth 100000 in
theorem ks_L_setFrames : Cond.static yL_setFrames ∈ lw_good := q9 584 (by decide +kernel) (by decide +kernel)
set_option maxRecDepth 100000 in
theorem kh_L_setRoom : Cond.codeWith yL_setRoom cL_setRoom 4 (some .int) [((0), (9), (12), (13))] ∈ lw_good := q9 627 (by decide +kernel) (by decide +kernel)
set_option maxRecDepth 100000 in
theorem ks_L_setRoom : Cond.static yL_setRoom ∈ lw_good := q9 626 (by decide +kernel) (by decide +kernel)
set_option maxRecDepth 100000 in
theorem kh_L_setLimit : Cond.codeWith yL_setLimit cL_setLimit 4 (some .int) [((0), (9), (12), (13))] ∈ lw_good := q9 635 (by decide +kernel) (by decide +kernel)
set_option maxRecDepth 100000 in
theorem ks_L_setLimit : Cond.static yL_setLimit ∈ lw_good := q9 634 (by decide +kernel) (by decide +kernel)
set_option maxRecDepth 100000 in
theorem kh_L_touch : Cond.codeWith yL_touch cL_touch 5 (some .int) [((0), (10), (13), (21)), ((0), (10), (17), (15))] ∈ lw_good := q9 642 (by decide +kernel) (by decide +kernel)
set_option maxRecDepth 100000 in
theorem ks_L_touch : Cond.static yL_touch ∈ lw_good := q9 641 (by decide +kernel) (by decide +kernel)
set_option maxRecDepth 100000 in
theorem kh_L_tick : Cond.codeWith yL_tick cL_tick 4 (some .int) [((0), (9), (12), (13))] ∈ lw_good := q9 703 (by decide +kernel) (by decide +kernel)
set_option maxRecDepth 100000 in
theorem ks_L_tick : Cond.static yL_tick ∈ lw_good := q9 702 (by decide +kernel) (by decide +kernel)
set_option maxRecDepth 100000 in
theorem kh_L_placeOf : Cond.codeWith yL_placeOf cL_placeOf 5 (some .int) [((0), (10), (13), (21))] ∈ lw_good := q9 748 (by decide +kernel) (by decide +kernel)
set_option maxRecDepth 100000 in
theorem ks_L_placeOf : Cond.static yL_placeOf ∈ lw_good := q9 747 (by decide +kernel) (by decide +kernel)
set_option maxRecDepth 100000 in
theorem kh_L_placeByEvents : Cond.codeWith yL_placeByEvents cL_placeByEvents 5 (some .int) [((0), (10), (13), (21))] ∈ lw_good := q9 755 (by decide +kernel) (by decide +kernel)
set_option maxRecDepth 100000 in
theorem ks_L_placeByEvents : Cond.static yL_placeByEvents ∈ lw_good := q9 754 (by decide +kernel) (by decide +kernel)
set_option maxRecDepth 100000 in
theorem kh_L_frameOf : Cond.codeWith yL_frameOf cL_frameOf 5 (some .int) [((0), (10), (13), (21)), ((0), (10), (17), (55))] ∈ lw_good := q9 762 (by decide +kernel) (by decide +kernel)
set_option maxRecDepth 100000 in
theorem ks_L_frameOf : Cond.static yL_frameOf ∈ lw_good := q9 761 (by decide +kernel) (by decide +kernel)
set_option maxRecDepth 100000 in
theorem kh_L_isReferenced : Cond.codeWith yL_isReferenced cL_isReferenced 5 (some .int) [((0), (17), (20), (21))] ∈ lw_good := q9 786 (by decide +kernel) (by decide +kernel)
set_option maxRecDepth 100000 in
theorem ks_L_isReferenced : Cond.static yL_isReferenced ∈ lw_good := q9 785 (by decide +kernel) (by decide +kernel)
set_option maxRecDepth 100000 in
theorem kh_L_storedAt : Cond.codeWith yL_storedAt cL_storedAt 4 (some .int) [((0), (9), (12), (55))] ∈ lw_good := q9 793 (by decide +kernel) (by decide +kernel)
set_option maxRecDepth 100000 in
theorem ks_L_storedAt : Cond.static yL_storedAt ∈ lw_good := q9 792 (by decide +kernel) (by decide +kernel)
set_option maxRecDepth 100000 in
theorem kh_L_pagesIn : Cond.codeWith yL_pagesIn cL_pagesIn 5 (some .int) [((0), (10), (13), (21)), ((0), (10), (17), (13))] ∈ lw_good := q9 802 (by decide +kernel) (by decide +kernel)
set_option maxRecDepth 100000 in
theorem ks_L_pagesIn : Cond.static yL_pagesIn ∈ lw_good := q9 801 (by decide +kernel) (by decide +kernel)
set_option maxRecDepth 100000 in
theorem kh_L_stallsOf : Cond.codeWith yL_stallsOf cL_stallsOf 4 (some .int) [((0), (8), (11), (21))] ∈ lw_good := q9 810 (by decide +kernel) (by decide +kernel)
set_option maxRecDepth 100000 in
theorem ks_L_stallsOf : Cond.static yL_stallsOf ∈ lw_good := q9 809 (by decide +kernel) (by decide +kernel)
set_option maxRecDepth 100000 in
theorem kh_L_stateOf : Cond.codeWith yL_stateOf cL_stateOf 4 (some .int) [((0), (9), (12), (21))] ∈ lw_good := q9 817 (by decide +kernel) (by decide +kernel)
set_option maxRecDepth 100000 in
theorem ks_L_stateOf : Cond.static yL_stateOf ∈ lw_good := q9 816 (by decide +kernel) (by decide +kernel)
set_option maxRecDepth 100000 in
theorem kh_L_waitsFor : Cond.codeWith yL_waitsFor cL_waitsFor 4 (some .int) [((0), (9), (12), (21)), ((0), (9), (15), (55))] ∈ lw_good := q9 824 (by decide +kernel) (by decide +kernel)
set_option maxRecDepth 100000 in
theorem ks_L_waitsFor : Cond.static yL_waitsFor ∈ lw_good := q9 823 (by decide +kernel) (by decide +kernel)
set_option maxRecDepth 100000 in
theorem kh_L_isNeeded : Cond.codeWith yL_isNeeded cL_isNeeded 4 (some .int) [((0), (16), (19), (21))] ∈ lw_good := q9 832 (by decide +kernel) (by decide +kernel)
set_option maxRecDepth 100000 in
theorem ks_L_isNeeded : Cond.static yL_isNeeded ∈ lw_good := q9 831 (by decide +kernel) (by decide +kernel)
set_option maxRecDepth 100000 in
theorem kh_L_startsIn : Cond.codeWith yL_startsIn cL_startsIn 4 (some .int) [((0), (9), (12), (21)), ((0), (9), (15), (15))] ∈ lw_good := q9 839 (by decide +kernel) (by decide +kernel)
set_option maxRecDepth 100000 in
theorem ks_L_startsIn : Cond.static yL_startsIn ∈ lw_good := q9 838 (by decide +kernel) (by decide +kernel)
set_option maxRecDepth 100000 in
theorem kh_L_starts : Cond.codeWith yL_starts cL_starts 4 (some .int) [((0), (9), (12), (21))] ∈ lw_good := q9 848 (by decide +kernel) (by decide +kernel)
set_option maxRecDepth 100000 in
theorem ks_L_starts : Cond.static yL_starts ∈ lw_good := q9 847 (by decide +kernel) (by decide +kernel)
set_option maxRecDepth 100000 in
theorem kh_L_score : Cond.codeWith yL_score cL_score 4 (some .int) [((0), (9), (12), (21))] ∈ lw_good := q9 855 (by decide +kernel) (by decide +kernel)
set_option maxRecDepth 100000 in
theorem ks_L_score : Cond.static yL_score ∈ lw_good := q9 854 (by decide +kernel) (by decide +kernel)
set_option maxRecDepth 100000 in
theorem kh_L_victim : Cond.codeWith yL_victim cL_victim 3 (some .int) [((0), (8), (11), (55))] ∈ lw_good := q9 862 (by decide +kernel) (by decide +kernel)
set_option maxRecDepth 100000 in
theorem ks_L_victim : Cond.static yL_victim ∈ lw_good := q9 861 (by decide +kernel) (by decide +kernel)
set_option maxRecDepth 100000 in
theorem kh_L_smoothShare : Cond.codeWith yL_smoothShare cL_smoothShare 3 (some .int) [((0), (8), (11), (100))] ∈ lw_good := q9 870 (by decide +kernel) (by decide +kernel)
set_option maxRecDepth 100000 in
theorem ks_L_smoothShare : Cond.static yL_smoothShare ∈ lw_good := q9 869 (by decide +kernel) (by decide +kernel)
set_option maxRecDepth 100000 in
theorem kh_L_meanStalls : Cond.codeWith yL_meanStalls cL_meanStalls 3 (some .int) [((0), (7), (10), (100))] ∈ lw_good := q9 894 (by decide +kernel) (by decide +kernel)
set_option maxRecDepth 100000 in
theorem ks_L_meanStalls : Cond.static yL_meanStalls ∈ lw_good := q9 893 (by decide +kernel) (by decide +kernel)
set_option maxRecDepth 100000 in
theorem kl_L_8 : Cond.classLink RL 8 "Swapyard" ∈ lw_good := q9 30 (by decide +kernel) (by decide +kernel)
set_option maxRecDepth 100000 in
theorem kl_X6_9 : Cond.classLink RX6 9 "Swapyard$History" ∈ lw_good := q9 38 (by decide +kernel) (by decide +kernel)
set_option maxRecDepth 100000 in
theorem kl_X6_16 : Cond.classLink RX6 16 "Swapyard$Frames" ∈ lw_good := q9 56 (by decide +kernel) (by decide +kernel)
set_option maxRecDepth 100000 in
theorem kl_X0_9 : Cond.classLink RX0 9 "Swapyard$Page" ∈ lw_good := q9 62 (by decide +kernel) (by decide +kernel)
set_option maxRecDepth 100000 in
theorem kl_X6_23 : Cond.classLink RX6 23 "Swapyard$Store" ∈ lw_good := q9 76 (by decide +kernel) (by decide +kernel)
set_option maxRecDepth 100000 in
theorem kl_X5_9 : Cond.classLink RX5 9 "java/util/ArrayList" ∈ lw_good := q9 82 (by decide +kernel) (by decide +kernel)
set_option maxRecDepth 100000 in
theorem kl_X6_30 : Cond.classLink RX6 30 "Swapyard$RecentStalls" ∈ lw_good := q9 117 (by decide +kernel) (by decide +kernel)
set_option maxRecDepth 100000 in
theorem kl_X6_37 : Cond.classLink RX6 37 "java/util/ArrayList" ∈ lw_good := q9 127 (by decide +kernel) (by decide +kernel)
set_option maxRecDepth 100000 in
theorem kl_X5_30 : Cond.classLink RX5 30 "Swapyard$Page" ∈ lw_good := q9 205 (by decide +kernel) (by decide +kernel)
set_option maxRecDepth 100000 in
theorem kl_X6_68 : Cond.classLink RX6 68 "Swapyard$Service" ∈ lw_good := q9 212 (by decide +kernel) (by decide +kernel)
set_option maxRecDepth 100000 in
theorem kl_L_13 : Cond.classLink RL 13 "java/lang/IllegalArgumentException" ∈ lw_good := q9 255 (by decide +kernel) (by decide +kernel)
set_option maxRecDepth 100000 in
theorem kl_L_15 : Cond.classLink RL 15 "java/lang/IllegalStateException" ∈ lw_good := q9 256 (by decide +kernel) (by decide +kernel)
set_option maxRecDepth 100000 in
theorem kl_X6_52 : Cond.classLink RX6 52 "java/lang/IllegalArgumentException" ∈ lw_good := q9 264 (by decide +kernel) (by decide +kernel)
set_option maxRecDepth 100000 in
theorem kl_X6_63 : Cond.classLink RX6 63 "java/lang/IllegalStateException" ∈ lw_good := q9 337 (by decide +kernel) (by decide +kernel)
set_option maxRecDepth 100000 in
theorem kl_X4_9 : Cond.classLink RX4 9 "Swapyard$Page" ∈ lw_good := q9 358 (by decide +kernel) (by decide +kernel)
set_option maxRecDepth 100000 in
theorem kl_J7_110 : Cond.classLink RJ7 110 "[Ljava/lang/Object;" ∈ lw_good := q9 479 (by decide +kernel) (by decide +kernel)
set_option maxRecDepth 100000 in
theorem kl_J7_2 : Cond.classLink RJ7 2 "java/lang/Object" ∈ lw_good := q9 481 (by decide +kernel) (by decide +kernel)
set_option maxRecDepth 100000 in
theorem kl_Jx4a65c_7 : Cond.classLink RJx4a65c 7 "java/lang/Object" ∈ lw_good := q9 489 (by decide +kernel) (by decide +kernel)
set_option maxRecDepth 100000 in
theorem kl_L_21 : Cond.classLink RL 21 "java/lang/IndexOutOfBoundsException" ∈ lw_good := q9 493 (by decide +kernel) (by decide +kernel)
set_option maxRecDepth 100000 in
theorem kl_L_23 : Cond.classLink RL 23 "java/lang/UnsupportedOperationException" ∈ lw_good := q9 517 (by decide +kernel) (by decide +kernel)
set_option maxRecDepth 100000 in
theorem kl_X6_274 : Cond.classLink RX6 274 "java/lang/IndexOutOfBoundsException" ∈ lw_good := q9 530 (by decide +kernel) (by decide +kernel)
set_option maxRecDepth 100000 in
theorem kl_X6_95 : Cond.classLink RX6 95 "java/lang/UnsupportedOperationException" ∈ lw_good := q9 548 (by decide +kernel) (by decide +kernel)
set_option maxRecDepth 100000 in
theorem kl_L_55 : Cond.classLink RL 55 "java/util/NoSuchElementException" ∈ lw_good := q9 763 (by decide +kernel) (by decide +kernel)
set_option maxRecDepth 100000 in
theorem kl_X6_178 : Cond.classLink RX6 178 "java/util/NoSuchElementException" ∈ lw_good := q9 768 (by decide +kernel) (by decide +kernel)
set_option maxRecDepth 100000 in
theorem kl_X6_113 : Cond.classLink RX6 113 "Swapyard$Page" ∈ lw_good := q9 799 (by decide +kernel) (by decide +kernel)
set_option maxRecDepth 100000 in
theorem kl_L_100 : Cond.classLink RL 100 "java/lang/ArithmeticException" ∈ lw_good := q9 871 (by decide +kernel) (by decide +kernel)
set_option maxRecDepth 100000 in
theorem kl_X6_254 : Cond.classLink RX6 254 "java/lang/ArithmeticException" ∈ lw_good := q9 889 (by decide +kernel) (by decide +kernel)
set_option maxRecDepth 100000 in
theorem kl_L_107 : Cond.classLink RL 107 "SwapyardModel" ∈ lw_good := q9 899 (by decide +kernel) (by decide +kernel)
set_option maxRecDepth 100000 in
theorem kn_L_8 : NWk RL 8 9 11 [vR none, vR none, vR none, vR none, vR none, vI 0, vI 0, vI 0, vI 0, vI 0, vL 0] := ⟨_, _, tyX6, vcX6, inX6, tyX6_ok, kl_L_8, q9 31 (by decide +kernel) (by decide +kernel), q9 1 (by decide +kernel) (by decide +kernel), fun ad j hj => match j, hj with | 0, _ => rfl | 1, _ => rfl | 2, _ => rfl | 3, _ => rfl | 4, _ => rfl | 5, _ => rfl | 6, _ => rfl | 7, _ => rfl | 8, _ => rfl | 9, _ => rfl | 10, _ => rfl, by decide⟩
set_option maxRecDepth 100000 in
theorem kn_X6_9 : NWk RX6 9 4 3 [vR none, vI 0, vR none] := ⟨_, _, tyX1, vcX1, inX1, tyX1_ok, kl_X6_9, q9 39 (by decide +kernel) (by decide +kernel), q9 2 (by decide +kernel) (by decide +kernel), fun ad j hj => match j, hj with | 0, _ => rfl | 1, _ => rfl | 2, _ => rfl, by decide⟩
set_option maxRecDepth 100000 in
theorem kn_X6_16 : NWk RX6 16 3 3 [vR none, vI 0, vI 0] := ⟨_, _, tyX0, vcX0, inX0, tyX0_ok, kl_X6_16, q9 57 (by decide +kernel) (by decide +kernel), q9 3 (by decide +kernel) (by decide +kernel), fun ad j hj => match j, hj with | 0, _ => rfl | 1, _ => rfl | 2, _ => rfl, by decide⟩
set_option maxRecDepth 100000 in
theorem kn_X0_9 : NWk RX0 9 5 6 [vI 0, vR none, vI 0, vI 0, vI 0, vI 0] := ⟨_, _, tyX2, vcX2, inX2, tyX2_ok, kl_X0_9, q9 359 (by decide +kernel) (by decide +kernel), q9 16 (by decide +kernel) (by decide +kernel), fun ad j hj => match j, hj with | 0, _ => rfl | 1, _ => rfl | 2, _ => rfl | 3, _ => rfl | 4, _ => rfl | 5, _ => rfl, by decide⟩
set_option maxRecDepth 100000 in
theorem kn_X6_23 : NWk RX6 23 8 2 [vR none, vI 0] := ⟨_, _, tyX5, vcX5, inX5, tyX5_ok, kl_X6_23, q9 77 (by decide +kernel) (by decide +kernel), q9 4 (by decide +kernel) (by decide +kernel), fun ad j hj => match j, hj with | 0, _ => rfl | 1, _ => rfl, by decide⟩
set_option maxRecDepth 100000 in
theorem kn_X5_9 : NWk RX5 9 2 3 [vI 0, vR none, vI 0] := ⟨_, _, tyJx4a65c, vcJx4a65c, inJx4a65c, tyJx4a65c_ok, kl_X5_9, q9 83 (by decide +kernel) (by decide +kernel), q9 7 (by decide +kernel) (by decide +kernel), fun ad j hj => match j, hj with | 0, _ => rfl | 1, _ => rfl | 2, _ => rfl, by decide⟩
set_option maxRecDepth 100000 in
theorem kn_X6_30 : NWk RX6 30 6 1 [vR none] := ⟨_, _, tyX3, vcX3, inX3, tyX3_ok, kl_X6_30, q9 118 (by decide +kernel) (by decide +kernel), q9 8 (by decide +kernel) (by decide +kernel), fun ad j hj => match j, hj with | 0, _ => rfl, by decide⟩
set_option maxRecDepth 100000 in
theorem kn_X6_37 : NWk RX6 37 2 3 [vI 0, vR none, vI 0] := ⟨_, _, tyJx4a65c, vcJx4a65c, inJx4a65c, tyJx4a65c_ok, kl_X6_37, q9 83 (by decide +kernel) (by decide +kernel), q9 7 (by decide +kernel) (by decide +kernel), fun ad j hj => match j, hj with | 0, _ => rfl | 1, _ => rfl | 2, _ => rfl, by decide⟩
set_option maxRecDepth 100000 in
theorem kn_X5_30 : NWk RX5 30 5 6 [vI 0, vR none, vI 0, vI 0, vI 0, vI 0] := ⟨_, _, tyX2, vcX2, inX2, tyX2_ok, kl_X5_30, q9 359 (by decide +kernel) (by decide +kernel), q9 16 (by decide +kernel) (by decide +kernel), fun ad j hj => match j, hj with | 0, _ => rfl | 1, _ => rfl | 2, _ => rfl | 3, _ => rfl | 4, _ => rfl | 5, _ => rfl, by decide⟩
set_option maxRecDepth 100000 in
theorem kn_X6_68 : NWk RX6 68 7 10 [vI 0, vI 0, vI 0, vI 0, vR none, vI 0, vI 0, vI 0, vI 0, vL 0] := ⟨_, _, tyX4, vcX4, inX4, tyX4_ok, kl_X6_68, q9 353 (by decide +kernel) (by decide +kernel), q9 15 (by decide +kernel) (by decide +kernel), fun ad j hj => match j, hj with | 0, _ => rfl | 1, _ => rfl | 2, _ => rfl | 3, _ => rfl | 4, _ => rfl | 5, _ => rfl | 6, _ => rfl | 7, _ => rfl | 8, _ => rfl | 9, _ => rfl, by decide⟩
set_option maxRecDepth 100000 in
theorem kn_X4_9 : NWk RX4 9 5 6 [vI 0, vR none, vI 0, vI 0, vI 0, vI 0] := ⟨_, _, tyX2, vcX2, inX2, tyX2_ok, kl_X4_9, q9 359 (by decide +kernel) (by decide +kernel), q9 16 (by decide +kernel) (by decide +kernel), fun ad j hj => match j, hj with | 0, _ => rfl | 1, _ => rfl | 2, _ => rfl | 3, _ => rfl | 4, _ => rfl | 5, _ => rfl, by decide⟩
set_option maxRecDepth 100000 in
theorem kn_X6_113 : NWk RX6 113 5 6 [vI 0, vR none, vI 0, vI 0, vI 0, vI 0] := ⟨_, _, tyX2, vcX2, inX2, tyX2_ok, kl_X6_113, q9 359 (by decide +kernel) (by decide +kernel), q9 16 (by decide +kernel) (by decide +kernel), fun ad j hj => match j, hj with | 0, _ => rfl | 1, _ => rfl | 2, _ => rfl | 3, _ => rfl | 4, _ => rfl | 5, _ => rfl, by decide⟩
set_option maxRecDepth 100000 in
theorem kn_L_107 : NWk RL 107 10 27 [vI 0, vR none, vR none, vR none, vR none, vR none, vR none, vR none, vR none, vR none, vR none, vI 0, vR none, vR none, vI 0, vI 0, vI 0, vR none, vI 0, vI 0, vR none, vI 0, vI 0, vI 0, vL 0, vI 0, vI 0] := ⟨_, _, tyX7, vcX7, inX7, tyX7_ok, kl_L_107, q9 900 (by decide +kernel) (by decide +kernel), q9 9 (by decide +kernel) (by decide +kernel), fun ad j hj => match j, hj with | 0, _ => rfl | 1, _ => rfl | 2, _ => rfl | 3, _ => rfl | 4, _ => rfl | 5, _ => rfl | 6, _ => rfl | 7, _ => rfl | 8, _ => rfl | 9, _ => rfl | 10, _ => rfl | 11, _ => rfl | 12, _ => rfl | 13, _ => rfl | 14, _ => rfl | 15, _ => rfl | 16, _ => rfl | 17, _ => rfl | 18, _ => rfl | 19, _ => rfl | 20, _ => rfl | 21, _ => rfl | 22, _ => rfl | 23, _ => rfl | 24, _ => rfl | 25, _ => rfl | 26, _ => rfl | n + 27, h => absurd h (by omega), by decide⟩
set_option maxRecDepth 100000 in
theorem ka_int : Cond.arrayClass .int ∈ lw_good := q9 54 (by decide +kernel) (by decide +kernel)
set_option maxRecDepth 100000 in
theorem ka_char : Cond.arrayClass .char ∈ lw_good := q9 55 (by decide +kernel) (by decide +kernel)
set_option maxRecDepth 100000 in
theorem ka_byte : Cond.arrayClass .byte ∈ lw_good := q9 335 (by decide +kernel) (by decide +kernel)
set_option maxRecDepth 100000 in
theorem ka_boolean : Cond.arrayClass .boolean ∈ lw_good := q9 987 (by decide +kernel) (by decide +kernel)
set_option maxRecDepth 100000 in
theorem ka_long : Cond.arrayClass .long ∈ lw_good := q9 988 (by decide +kernel) (by decide +kernel)
set_option maxRecDepth 100000 in
theorem ka_double : Cond.arrayClass .double ∈ lw_good := q9 1224 (by decide +kernel) (by decide +kernel)
set_option maxRecDepth 100000 in
theorem kk_J8_200 : Cond.constant RJ8 200 (2147483639) ∈ lw_good := q9 449 (by decide +kernel) (by decide +kernel)
set_option maxRecDepth 100000 in
theorem kk_J6_265 : Cond.constant RJ6 265 (1431655765) ∈ lw_good := q9 567 (by decide +kernel) (by decide +kernel)
set_option maxRecDepth 100000 in
theorem kk_J6_266 : Cond.constant RJ6 266 (858993459) ∈ lw_good := q9 568 (by decide +kernel) (by decide +kernel)
set_option maxRecDepth 100000 in
theorem kk_J6_267 : Cond.constant RJ6 267 (252645135) ∈ lw_good := q9 569 (by decide +kernel) (by decide +kernel)
set_option maxRecDepth 100000 in
theorem ko_1 : Cond.instanceMethod Lib.objectInit ∈ lw_good := q9 36 (by decide +kernel) (by decide +kernel)
set_option maxRecDepth 100000 in
theorem ko_2 : Cond.code Lib.objectInit ⟨#[0xb1]⟩ 1 none ∈ lw_good := q9 37 (by decide +kernel) (by decide +kernel)
set_option maxRecDepth 100000 in
theorem kb_X6_3 : Cond.methodLink RX6 3 Lib.objectInit ∈ lw_good := q9 35 (by decide +kernel) (by decide +kernel)
set_option maxRecDepth 100000 in
theorem kb_X1_3 : Cond.methodLink RX1 3 Lib.objectInit ∈ lw_good := q9 43 (by decide +kernel) (by decide +kernel)
set_option maxRecDepth 100000 in
theorem kb_X0_3 : Cond.methodLink RX0 3 Lib.objectInit ∈ lw_good := q9 61 (by decide +kernel) (by decide +kernel)
set_option maxRecDepth 100000 in
theorem kb_X5_3 : Cond.methodLink RX5 3 Lib.objectInit ∈ lw_good := q9 81 (by decide +kernel) (by decide +kernel)
set_option maxRecDepth 100000 in
theorem kb_Jxa1e45_1 : Cond.methodLink RJxa1e45 1 Lib.objectInit ∈ lw_good := q9 93 (by decide +kernel) (by decide +kernel)
set_option maxRecDepth 100000 in
theorem kb_X3_1 : Cond.methodLink RX3 1 Lib.objectInit ∈ lw_good := q9 122 (by decide +kernel) (by decide +kernel)
set_option maxRecDepth 100000 in
theorem kb_X4_3 : Cond.methodLink RX4 3 Lib.objectInit ∈ lw_good := q9 357 (by decide +kernel) (by decide +kernel)
set_option maxRecDepth 100000 in
theorem kb_X2_3 : Cond.methodLink RX2 3 Lib.objectInit ∈ lw_good := q9 363 (by decide +kernel) (by decide +kernel)
set_option maxRecDepth 100000 in
theorem kb_X7_1 : Cond.methodLink RX7 1 Lib.objectInit ∈ lw_good := q9 904 (by decide +kernel) (by decide +kernel)
set_option maxRecDepth 100000 in
theorem kt_52_56 : TLk 52 56 "java/lang/IllegalArgumentException" := ⟨by decide, kl_X6_52, q9 13 (by decide +kernel) (by decide +kernel), by decide, by decide +kernel, by decide +kernel, by decide +kernel⟩
set_option maxRecDepth 100000 in
theorem kt_63_67 : TLk 63 67 "java/lang/IllegalStateException" := ⟨by decide, kl_X6_63, q9 14 (by decide +kernel) (by decide +kernel), by decide, by decide +kernel, by decide +kernel, by decide +kernel⟩
set_option maxRecDepth 100000 in
theorem kt_274_278 : TLk 274 278 "java/lang/IndexOutOfBoundsException" := ⟨by decide, kl_X6_274, q9 21 (by decide +kernel) (by decide +kernel), by decide, by decide +kernel, by decide +kernel, by decide +kernel⟩
set_option maxRecDepth 100000 in
theorem kt_95_99 : TLk 95 99 "java/lang/UnsupportedOperationException" := ⟨by decide, kl_X6_95, q9 26 (by decide +kernel) (by decide +kernel), by decide, by decide +kernel, by decide +kernel, by decide +kernel⟩
set_option maxRecDepth 100000 in
theorem kt_254_258 : TLk 254 258 "java/lang/ArithmeticException" := ⟨by decide, kl_X6_254, q9 29 (by decide +kernel) (by decide +kernel), by decide, by decide +kernel, by decide +kernel, by decide +kernel⟩
end
section
/-! ROWS OVER THE NAMED HEAP -/
def rg (x : Int) : Prop := -2147483648 ≤ x ∧ x < 2147483648
def rgL (x : Int) : Prop := -9223372036854775808 ≤ x ∧ x < 9223372036854775808
theorem iI_toInt {x : Int} (h : rg x) : (iI x).toInt = x := by
  unfold iI
  rw [Int32.toInt_ofInt]
  have hs : (Int32.size : Int) = 4294967296 := rfl
  have h1 := h.1
  have h2 := h.2
  exact Int.bmod_eq_of_le (by omega) (by omega)
theorem iL_toInt {x : Int} (h : rgL x) : (iL x).toInt = x := by
  unfold iL
  rw [Int64.toInt_ofInt]
  have hs : (Int64.size : Int) = 18446744073709551616 := rfl
  have h1 := h.1
  have h2 := h.2
  exact Int.bmod_eq_of_le (by omega) (by omega)
theorem iI_eq {x y : Int} (hx : rg x) (hy : rg y) : iI x = iI y ↔ x = y := by
  constructor
  · intro h
    have := congrArg Int32.toInt h
    rwa [iI_toInt hx, iI_toInt hy] at this
  · intro h; rw [h]
theorem iI_lt {x y : Int} (hx : rg x) (hy : rg y) : iI x < iI y ↔ x < y := by rw [Int32.lt_iff_toInt_lt, iI_toInt hx, iI_toInt hy]
theorem iI_le {x y : Int} (hx : rg x) (hy : rg y) : iI x ≤ iI y ↔ x ≤ y := by rw [Int32.le_iff_toInt_le, iI_toInt hx, iI_toInt hy]
theorem iI_0 : iI 0 = 0 := by decide
theorem rg_0 : rg 0 := by unfold rg; omega
theorem iI_eq0 {x : Int} (hx : rg x) : iI x = 0 ↔ x = 0 := by rw [← iI_0]; exact iI_eq hx rg_0
theorem iI_lt0 {x : Int} (hx : rg x) : iI x < 0 ↔ x < 0 := by rw [← iI_0]; exact iI_lt hx rg_0
theorem iI_le0 {x : Int} (hx : rg x) : iI x ≤ 0 ↔ x ≤ 0 := by rw [← iI_0]; exact iI_le hx rg_0
theorem iI_0lt {x : Int} (hx : rg x) : 0 < iI x ↔ 0 < x := by rw [← iI_0]; exact iI_lt rg_0 hx
theorem iI_0le {x : Int} (hx : rg x) : 0 ≤ iI x ↔ 0 ≤ x := by rw [← iI_0]; exact iI_le rg_0 hx
theorem iI_add (x y : Int) : iI x + iI y = iI (x + y) := (Int32.ofInt_add x y).symm
theorem iI_sub (x y : Int) : iI x - iI y = iI (x - y) := (Int32.ofInt_sub x y).symm
theorem iI_mul (x y : Int) : iI x * iI y = iI (x * y) := (Int32.ofInt_mul x y).symm
theorem iL_add (x y : Int) : iL x + iL y = iL (x + y) := (Int64.ofInt_add x y).symm
theorem iI_of (x : Int32) : iI x.toInt = x := Int32.ofInt_toInt x
theorem iI_nat {x : Int} (hx : rg x) (h0 : 0 ≤ x) : (iI x).toNatClampNeg = x.toNat := by
  show (iI x).toInt.toNat = _
  rw [iI_toInt hx]
theorem iI_in {x : Int} {n : Nat} (hx : rg x) (h0 : 0 ≤ x) (h1 : x < n) : vp_in (iI x) n := by
  rw [vp_in_iff, iI_toInt hx]
  exact ⟨h0, h1⟩
theorem iI_bi {x : Int} (h : -128 ≤ x ∧ x < 128) : (Int8.ofInt x).toInt32 = iI x := by
  apply Int32.toInt_inj.mp
  have hs : (Int8.size : Int) = 256 := rfl
  rw [Int8.toInt_toInt32, Int8.toInt_ofInt, iI_toInt (by unfold rg; omega)]
  exact Int.bmod_eq_of_le (by omega) (by omega)
theorem iI_si {x : Int} (h : -32768 ≤ x ∧ x < 32768) : (Int16.ofInt x).toInt32 = iI x := by
  apply Int32.toInt_inj.mp
  have hs : (Int16.size : Int) = 65536 := rfl
  rw [Int16.toInt_toInt32, Int16.toInt_ofInt, iI_toInt (by unfold rg; omega)]
  exact Int.bmod_eq_of_le (by omega) (by omega)
-- bits: by the machine's own words
def bAnd (x y : Int) : Int := (iI x &&& iI y).toInt
def bOr (x y : Int) : Int := (iI x ||| iI y).toInt
def bShl (x y : Int) : Int := (iI x <<< (iI y &&& 31)).toInt
def bShr (x y : Int) : Int := (iI x >>> (iI y &&& 31)).toInt
def bUshr (x y : Int) : Int := (((iI x).toUInt32 >>> ((iI y).toUInt32 &&& 31)).toInt32).toInt
-- locals
def lvf (i : Nat) (w : Bool) : List (Nat × AV) → List (Nat × AV)
  | [] => []
  | q :: r => if (Nat.beq q.1 i || (Nat.beq (q.1 + 1) i && c2 q.2) || (w && Nat.beq q.1 (i + 1))) = true then lvf i w r else q :: lvf i w r
def lvg (i : Nat) : List (Nat × AV) → Option AV
  | [] => none
  | q :: r => if Nat.beq q.1 i = true then some q.2 else lvg i r
theorem lvg_mem {i : Nat} {v : AV} : ∀ {lv : List (Nat × AV)}, lvg i lv = some v → (i, v) ∈ lv
  | [], h => by cases h
  | q :: r, h => by
    unfold lvg at h
    by_cases hq : Nat.beq q.1 i = true
    · rw [if_pos hq] at h
      cases h
      rw [← Nat.eq_of_beq_eq_true hq]
      exact List.mem_cons_self
    · rw [if_neg hq] at h
      exact List.mem_cons_of_mem _ (lvg_mem h)
theorem lvf_mem {i : Nat} {w : Bool} {q : Nat × AV} : ∀ {lv : List (Nat × AV)}, q ∈ lvf i w lv → q ∈ lv ∧ q.1 ≠ i ∧ ¬ (q.1 + 1 = i ∧ c2 q.2 = true) ∧ ¬ (w = true ∧ q.1 = i + 1)
  | [], h => by cases h
  | a :: r, h => by
    unfold lvf at h
    by_cases ha : (Nat.beq a.1 i || (Nat.beq (a.1 + 1) i && c2 a.2) || (w && Nat.beq a.1 (i + 1))) = true
    · rw [if_pos ha] at h
      obtain ⟨h1, h2⟩ := lvf_mem h
      exact ⟨List.mem_cons_of_mem _ h1, h2⟩
    · rw [if_neg ha] at h
      rcases List.mem_cons.mp h with rfl | h
      · refine ⟨List.mem_cons_self, ?_, ?_, ?_⟩
        · intro e; apply ha; simp [e]
        · rintro ⟨e1, e2⟩; apply ha; simp [e1, e2]
        · rintro ⟨e1, e2⟩; apply ha; simp [e1, e2]
      · obtain ⟨h1, h2⟩ := lvf_mem h
        exact ⟨List.mem_cons_of_mem _ h1, h2⟩
def lvs (i : Nat) (w : Bool) (v : AV) : List (Nat × AV) → List (Nat × AV)
  | [] => [(i, v)]
  | q :: r => if Nat.beq q.1 i = true then (i, v) :: lvf i w r else if ((Nat.beq (q.1 + 1) i && c2 q.2) || (w && Nat.beq q.1 (i + 1))) = true then lvs i w v r else q :: lvs i w v r
theorem lvs_mem {i : Nat} {w : Bool} {v : AV} {q : Nat × AV} : ∀ {lv : List (Nat × AV)}, q ∈ lvs i w v lv → q ∈ (i, v) :: lvf i w lv
  | [], h => by
    rcases List.mem_cons.mp h with rfl | h
    · exact List.mem_cons_self
    · cases h
  | a :: r, h => by
    unfold lvs at h
    by_cases h1 : Nat.beq a.1 i = true
    · rw [if_pos h1] at h
      have e : lvf i w (a :: r) = lvf i w r := by
        conv => lhs; unfold lvf
        rw [if_pos (by simp [h1])]
      rw [e]
      exact h
    · rw [if_neg h1] at h
      by_cases h2 : ((Nat.beq (a.1 + 1) i && c2 a.2) || (w && Nat.beq a.1 (i + 1))) = true
      · rw [if_pos h2] at h
        have e : lvf i w (a :: r) = lvf i w r := by
          conv => lhs; unfold lvf
          rw [if_pos (by rw [Bool.or_assoc, Bool.or_eq_true]; exact Or.inr h2)]
        rw [e]
        exact lvs_mem h
      · rw [if_neg h2] at h
        have e : lvf i w (a :: r) = a :: lvf i w r := by
          conv => lhs; unfold lvf
          rw [if_neg (by rw [Bool.or_assoc, Bool.or_eq_true]; rintro (z | z); exact h1 z; exact h2 z)]
        rw [e]
        rcases List.mem_cons.mp h with rfl | h
        · exact List.mem_cons_of_mem _ List.mem_cons_self
        · rcases List.mem_cons.mp (lvs_mem h) with rfl | h
          · exact List.mem_cons_self
          · exact List.mem_cons_of_mem _ (List.mem_cons_of_mem _ h)
theorem lv_less {ls : Array Slot} {nL : Nat} {l l' : List (Nat × Value)} (h : lv_has ls nL l) (hs : ∀ q ∈ l', q ∈ l) : lv_has ls nL l' := ⟨h.1, h.2.1, fun q hq => h.2.2 q (hs q hq)⟩
theorem cvl_at {ls : Array Slot} {nL : Nat} {ad : Nat → Nat} {lv : List (Nat × AV)} {i : Nat} {v : AV} (h : lv_has ls nL (cvl ad lv)) (hg : lvg i lv = some v) : ls[i]? = some (.val (cv ad v)) :=
  h.2.2 (i, cv ad v) (List.mem_map.mpr ⟨(i, v), lvg_mem hg, rfl⟩)
theorem cvl_st1 {ad : Nat → Nat} {lv : List (Nat × AV)} {i : Nat} {v : AV} : ∀ q ∈ cvl ad (lvs i false v lv), q ∈ (i, cv ad v) :: (cvl ad lv).filter (fun q => !(q.1 == i) && !(q.1 + 1 == i && q.2.category == 2)) := by
  intro q hq
  obtain ⟨a, ha, rfl⟩ := List.mem_map.mp hq
  rcases List.mem_cons.mp (lvs_mem ha) with rfl | ha
  · exact List.mem_cons_self
  · obtain ⟨h1, h2, h3, -⟩ := lvf_mem ha
    refine List.mem_cons_of_mem _ (List.mem_filter.mpr ⟨List.mem_map.mpr ⟨a, h1, rfl⟩, ?_⟩)
    simp only [cv_cat]
    cases hc : c2 a.2
    · simp [h2]
    · have h4 : a.1 + 1 ≠ i := fun e => h3 ⟨e, hc⟩
      simp [h2, h4]
theorem cvl_st2 {ad : Nat → Nat} {lv : List (Nat × AV)} {i : Nat} {v : AV} : ∀ q ∈ cvl ad (lvs i true v lv), q ∈ (i, cv ad v) :: (cvl ad lv).filter (fun q => !(q.1 == i) && (!(q.1 == i + 1) && !(q.1 + 1 == i && q.2.category == 2))) := by
  intro q hq
  obtain ⟨a, ha, rfl⟩ := List.mem_map.mp hq
  rcases List.mem_cons.mp (lvs_mem ha) with rfl | ha
  · exact List.mem_cons_self
  · obtain ⟨h1, h2, h3, h5⟩ := lvf_mem ha
    refine List.mem_cons_of_mem _ (List.mem_filter.mpr ⟨List.mem_map.mpr ⟨a, h1, rfl⟩, ?_⟩)
    have h6 : a.1 ≠ i + 1 := fun e => h5 ⟨rfl, e⟩
    simp only [cv_cat]
    cases hc : c2 a.2
    · simp [h2, h6]
    · have h4 : a.1 + 1 ≠ i := fun e => h3 ⟨e, hc⟩
      simp [h2, h4, h6]
/-- the instructions that touch locals and stack alone -/
def as1 (nL : Nat) (ins : Instr) (n : Nat) (lv : List (Nat × AV)) (st : List AV) : Option (List (Nat × AV) × List AV) :=
  match ins, n, st with
  | .iconst x, 1, st => some (lv, vI x :: st)
  | .bipush x, 2, st => if -128 ≤ x ∧ x < 128 then some (lv, vI x :: st) else none
  | .sipush x, 3, st => if -32768 ≤ x ∧ x < 32768 then some (lv, vI x :: st) else none
  | .lconst x, 1, st => some (lv, vL x.val :: st)
  | .aconst_null, 1, st => some (lv, vR none :: st)
  | .iload_n i, 1, st => match lvg i.val lv with
    | some (.inl x) => some (lv, vI x :: st)
    | _ => none
  | .iload i, 2, st => match lvg i lv with
    | some (.inl x) => some (lv, vI x :: st)
    | _ => none
  | .aload_n i, 1, st => match lvg i.val lv with
    | some (.inr (.inl x)) => some (lv, vR x :: st)
    | _ => none
  | .aload i, 2, st => match lvg i lv with
    | some (.inr (.inl x)) => some (lv, vR x :: st)
    | _ => none
  | .lload i, 2, st => match lvg i lv with
    | some (.inr (.inr (.inl x))) => some (lv, vL x :: st)
    | _ => none
  | .istore_n i, 1, .inl x :: st => if i.val < nL then some (lvs i.val false (vI x) lv, st) else none
  | .istore i, 2, .inl x :: st => if i < nL then some (lvs i false (vI x) lv, st) else none
  | .astore_n i, 1, .inr (.inl x) :: st => if i.val < nL then some (lvs i.val false (vR x) lv, st) else none
  | .astore i, 2, .inr (.inl x) :: st => if i < nL then some (lvs i false (vR x) lv, st) else none
  | .lstore i, 2, .inr (.inr (.inl x)) :: st => if i + 1 < nL then some (lvs i true (vL x) lv, st) else none
  | .iinc i d, 3, st => match lvg i lv with
    | some (.inl x) => if i < nL then some (lvs i false (vI (x + d)) lv, st) else none
    | _ => none
  | .iadd, 1, .inl y :: .inl x :: st => some (lv, vI (x + y) :: st)
  | .isub, 1, .inl y :: .inl x :: st => some (lv, vI (x - y) :: st)
  | .imul, 1, .inl y :: .inl x :: st => some (lv, vI (x * y) :: st)
  | .iand, 1, .inl y :: .inl x :: st => some (lv, vI (bAnd x y) :: st)
  | .ior, 1, .inl y :: .inl x :: st => some (lv, vI (bOr x y) :: st)
  | .ishl, 1, .inl y :: .inl x :: st => some (lv, vI (bShl x y) :: st)
  | .ishr, 1, .inl y :: .inl x :: st => some (lv, vI (bShr x y) :: st)
  | .iushr, 1, .inl y :: .inl x :: st => some (lv, vI (bUshr x y) :: st)
  | .ladd, 1, .inr (.inr (.inl y)) :: .inr (.inr (.inl x)) :: st => some (lv, vL (x + y) :: st)
  | .dup, 1, v :: st => if c2 v = false then some (lv, v :: v :: st) else none
  | .pop, 1, v :: st => if c2 v = false then some (lv, st) else none
  | .dup_x1, 1, v :: w :: st => if c2 v = false ∧ c2 w = false then some (lv, v :: w :: v :: st) else none
  | .dup2, 1, v :: w :: st => if c2 v = false ∧ c2 w = false then some (lv, v :: w :: v :: w :: st) else none
  | _, _, _ => none
section NH
variable {k : Kx} {own : String} {cc : ByteArray} {nL : Nat} {pc q tgt : Nat} {lv lv' : List (Nat × AV)} {st st' : List AV} {G G' : GH} {ct sl : Nat}
theorem ev_mk (hok : OKS G lv st → OKS G lv' st') (kk : EV k q lv' st' G ct sl)
    (row : ∀ (ad : Nat → Nat) (H : Heap) (locs : List Loc) (ls : Array Slot), lv_has ls (kc k).maxLocals (cvl ad lv) → (∀ ls', lv_has ls' (kc k).maxLocals (cvl ad lv') → WK k H locs ct sl q ls' (st'.map (cv ad))) → WK k H locs ct sl pc ls (st.map (cv ad))) : EV k pc lv st G ct sl :=
  fun hO ad H locs ls hM hl => row ad H locs ls hl fun ls' hl' => kk (hok hO) ad H locs ls' hM hl'
theorem oks_push {v : AV} (hv : okv G v) : OKS G lv st → OKS G lv (v :: st) := fun h => ⟨h.1, h.2.1, fun w hw => (List.mem_cons.mp hw).elim (fun e => e ▸ hv) (h.2.2 w)⟩
theorem okv_I (x : Int) : okv G (vI x) := fun n h => by cases h
theorem okv_L (x : Int) : okv G (vL x) := fun n h => by cases h
theorem okv_F (x : UInt32) : okv G (vF x) := fun n h => by cases h
theorem okv_D (x : UInt64) : okv G (vD x) := fun n h => by cases h
theorem okv_0 : okv G (vR none) := fun n h => by cases h
theorem oks_pop1 {v : AV} : OKS G lv (v :: st) → OKS G lv st := fun h => ⟨h.1, h.2.1, fun w hw => h.2.2 w (List.mem_cons_of_mem _ hw)⟩
theorem oks_load {i : Nat} {v : AV} (hg : lvg i lv = some v) (h : OKS G lv st) : OKS G lv (v :: st) := oks_push (h.2.1 _ (lvg_mem hg)) h
theorem oks_store {i : Nat} {w : Bool} {v : AV} (h : OKS G lv (v :: st)) : OKS G (lvs i w v lv) st :=
  ⟨h.1, fun a ha => (List.mem_cons.mp (lvs_mem ha)).elim (fun e => e ▸ h.2.2 v List.mem_cons_self) (fun ha => h.2.1 a (lvf_mem ha).1), (oks_pop1 h).2.2⟩
theorem oks_bin {v w r : AV} (hr : okv G r) (h : OKS G lv (v :: w :: st)) : OKS G lv (r :: st) := oks_push hr (oks_pop1 (oks_pop1 h))
theorem va_rf_some {ad : Nat → Nat} {r : Nat} : cv ad (vR (some r)) = .ref (ad r) := rfl
theorem va_rf_none {ad : Nat → Nat} : cv ad (vR none) = .null := rfl
theorem ev_s {ins : Instr} {n : Nat} (C : CX k own cc nL) (hd : decode cc pc = .ok (ins, n)) (hq : pc + n = q) (h : as1 nL ins n lv st = some (lv', st')) (kk : EV k q lv' st' G ct sl) : EV k pc lv st G ct sl := by
  subst hq
  obtain ⟨hx, hb, hml, -⟩ := C
  unfold as1 at h
  split at h
  · cases h
    exact ev_mk (oks_push (okv_I _)) kk fun ad H locs ls hl go => lv_iconst hx hb hd rfl (go ls hl)
  · split at h
    · rename_i hx0
      cases h
      exact ev_mk (oks_push (okv_I _)) kk fun ad H locs ls hl go => lv_bipush hx hb hd (iI_bi hx0) (go ls hl)
    · cases h
  · split at h
    · rename_i hx0
      cases h
      exact ev_mk (oks_push (okv_I _)) kk fun ad H locs ls hl go => lv_sipush hx hb hd (iI_si hx0) (go ls hl)
    · cases h
  · cases h
    exact ev_mk (oks_push (okv_L _)) kk fun ad H locs ls hl go => lv_lconst hx hb hd (v := iL _) (by first | rfl | simp [iL]) (go ls hl)
  · cases h
    exact ev_mk (oks_push okv_0) kk fun ad H locs ls hl go => lv_null hx hb hd (go ls hl)
  · split at h
    · rename_i i _ _ x hg
      cases h
      exact ev_mk (oks_load hg) kk fun ad H locs ls hl go => lv_iload_n hx hb hd rfl (cvl_at hl hg) (go ls hl)
    · cases h
  · split at h
    · rename_i i _ _ x hg
      cases h
      exact ev_mk (oks_load hg) kk fun ad H locs ls hl go => lv_iload hx hb hd (cvl_at hl hg) (go ls hl)
    · cases h
  · split at h
    · rename_i i _ _ x hg
      cases h
      refine ev_mk (oks_load hg) kk fun ad H locs ls hl go => ?_
      cases x with
      | none => exact lv_aload_nN hx hb hd rfl (cvl_at hl hg) (go ls hl)
      | some x => exact lv_aload_n hx hb hd rfl (cvl_at hl hg) (go ls hl)
    · cases h
  · split at h
    · rename_i i _ _ x hg
      cases h
      refine ev_mk (oks_load hg) kk fun ad H locs ls hl go => ?_
      cases x with
      | none => exact lv_aloadN hx hb hd (cvl_at hl hg) (go ls hl)
      | some x => exact lv_aload hx hb hd (cvl_at hl hg) (go ls hl)
    · cases h
  · split at h
    · rename_i i _ _ x hg
      cases h
      exact ev_mk (oks_load hg) kk fun ad H locs ls hl go => lv_lload hx hb hd (cvl_at hl hg) (go ls hl)
    · cases h
  · split at h
    · rename_i hi
      cases h
      exact ev_mk oks_store kk fun ad H locs ls hl go => lv_istore_n hx hb hd rfl hl (by rw [hml]; exact hi) rfl (fun ls' hl' => go ls' (lv_less hl' cvl_st1))
    · cases h
  · split at h
    · rename_i hi
      cases h
      exact ev_mk oks_store kk fun ad H locs ls hl go => lv_istore hx hb hd hl (by rw [hml]; exact hi) rfl (fun ls' hl' => go ls' (lv_less hl' cvl_st1))
    · cases h
  · split at h
    · rename_i i x _ hi
      cases h
      refine ev_mk oks_store kk fun ad H locs ls hl go => ?_
      cases x with
      | none => exact lv_astore_nN hx hb hd rfl hl (by rw [hml]; exact hi) rfl (fun ls' hl' => go ls' (lv_less hl' cvl_st1))
      | some x => exact lv_astore_n hx hb hd rfl hl (by rw [hml]; exact hi) rfl (fun ls' hl' => go ls' (lv_less hl' cvl_st1))
    · cases h
  · split at h
    · rename_i i x _ hi
      cases h
      refine ev_mk oks_store kk fun ad H locs ls hl go => ?_
      cases x with
      | none => exact lv_astoreN hx hb hd hl (by rw [hml]; exact hi) rfl (fun ls' hl' => go ls' (lv_less hl' cvl_st1))
      | some x => exact lv_astore hx hb hd hl (by rw [hml]; exact hi) rfl (fun ls' hl' => go ls' (lv_less hl' cvl_st1))
    · cases h
  · split at h
    · rename_i hi
      cases h
      exact ev_mk oks_store kk fun ad H locs ls hl go => lv_lstore hx hb hd hl (by rw [hml]; exact hi) rfl (fun ls' hl' => go ls' (lv_less hl' cvl_st2))
    · cases h
  · split at h
    · rename_i i d st0 x hg
      split at h
      · rename_i hi
        cases h
        refine ev_mk (fun hO => oks_store (oks_push (okv_I _) hO)) kk fun ad H locs ls hl go => ?_
        obtain ⟨j, hj⟩ := List.getElem?_of_mem (List.mem_map.mpr ⟨(i, vI x), lvg_mem hg, rfl⟩ : (i, cv ad (vI x)) ∈ cvl ad lv)
        exact lv_iinc hx hb hd hl hj (v := iI (x + d)) (iI_add x d) (by rw [hml]; exact hi) rfl (fun ls' hl' => go ls' (lv_less hl' cvl_st1))
      · cases h
    · cases h
  · cases h
    exact ev_mk (oks_bin (okv_I _)) kk fun ad H locs ls hl go => lv_iadd hx hb hd (by rw [iI_add]; exact go ls hl)
  · cases h
    exact ev_mk (oks_bin (okv_I _)) kk fun ad H locs ls hl go => lv_isub hx hb hd (by rw [iI_sub]; exact go ls hl)
  · cases h
    exact ev_mk (oks_bin (okv_I _)) kk fun ad H locs ls hl go => lv_imul hx hb hd (by rw [iI_mul]; exact go ls hl)
  · cases h
    exact ev_mk (oks_bin (okv_I _)) kk fun ad H locs ls hl go => lv_iand hx hb hd (by rw [← iI_of (iI _ &&& iI _)]; exact go ls hl)
  · cases h
    exact ev_mk (oks_bin (okv_I _)) kk fun ad H locs ls hl go => lv_ior hx hb hd (by rw [← iI_of (iI _ ||| iI _)]; exact go ls hl)
  · cases h
    exact ev_mk (oks_bin (okv_I _)) kk fun ad H locs ls hl go => lv_ishl hx hb hd (by rw [← iI_of (iI _ <<< _)]; exact go ls hl)
  · cases h
    exact ev_mk (oks_bin (okv_I _)) kk fun ad H locs ls hl go => lv_ishr hx hb hd (by rw [← iI_of (iI _ >>> _)]; exact go ls hl)
  · cases h
    exact ev_mk (oks_bin (okv_I _)) kk fun ad H locs ls hl go => lv_iushr hx hb hd rfl (by rw [← iI_of (UInt32.toInt32 _)]; exact go ls hl)
  · cases h
    exact ev_mk (oks_bin (okv_L _)) kk fun ad H locs ls hl go => lv_ladd hx hb hd (by rw [iL_add]; exact go ls hl)
  · split at h
    · rename_i hv
      cases h
      exact ev_mk (fun hO => oks_push (hO.2.2 _ List.mem_cons_self) hO) kk fun ad H locs ls hl go => lv_dup hx hb hd (cv_cat1 ad hv) (go ls hl)
    · cases h
  · split at h
    · rename_i hv
      cases h
      exact ev_mk oks_pop1 kk fun ad H locs ls hl go => lv_pop hx hb hd (cv_cat1 ad hv) (go ls hl)
    · cases h
  · split at h
    · rename_i hv
      cases h
      exact ev_mk (fun hO => ⟨hO.1, hO.2.1, fun u hu => by
        rcases List.mem_cons.mp hu with rfl | hu
        · exact hO.2.2 _ List.mem_cons_self
        · rcases List.mem_cons.mp hu with rfl | hu
          · exact hO.2.2 _ (List.mem_cons_of_mem _ List.mem_cons_self)
          · rcases List.mem_cons.mp hu with rfl | hu
            · exact hO.2.2 _ List.mem_cons_self
            · exact hO.2.2 _ (List.mem_cons_of_mem _ (List.mem_cons_of_mem _ hu))⟩) kk fun ad H locs ls hl go => lv_dup_x1 hx hb hd (cv_cat1 ad hv.1) (cv_cat1 ad hv.2) (go ls hl)
    · cases h
  · split at h
    · rename_i hv
      cases h
      exact ev_mk (fun hO => oks_push (hO.2.2 _ List.mem_cons_self) (oks_push (hO.2.2 _ (List.mem_cons_of_mem _ List.mem_cons_self)) hO)) kk fun ad H locs ls hl go => lv_dup2_11 hx hb hd (cv_cat1 ad hv.1) (cv_cat1 ad hv.2) (go ls hl)
    · cases h
  · cases h
end NH
end
section
/-! BRANCHES, FIELDS, ARRAYS, MAKING, ENDS, CALLS -/
section BR
variable {k : Kx} {own : String} {cc : ByteArray} {nL : Nat} {pc q tgt : Nat} {lv lv' : List (Nat × AV)} {st st' : List AV} {G G' : GH} {ct sl : Nat}
theorem ev_if_eq {off : Int} {x : Int} (C : CX k own cc nL) (hd : decode cc pc = .ok (.ifCond .eq off, 3)) (ht : (pc : Int) + off = (tgt : Int)) (hq : pc + 3 = q) (hx : rg x) (kt : x = 0 → EV k tgt lv st G ct sl) (kf : ¬ x = 0 → EV k q lv st G ct sl) : EV k pc lv (vI x :: st) G ct sl := by
  subst hq
  obtain ⟨h1, h2, -⟩ := C
  intro hO ad H locs ls hM hl
  have hO' : OKS G lv st := (oks_pop1) hO
  exact lv_if_eq h1 h2 hd ht (fun h => kt ((iI_eq0 hx).mp h) hO' ad H locs ls hM hl) (fun h => kf (fun z => h ((iI_eq0 hx).mpr z)) hO' ad H locs ls hM hl)
theorem ev_icmp_eq {off : Int} {x y : Int} (C : CX k own cc nL) (hd : decode cc pc = .ok (.if_icmp .eq off, 3)) (ht : (pc : Int) + off = (tgt : Int)) (hq : pc + 3 = q) (hx : rg x) (hy : rg y) (kt : x = y → EV k tgt lv st G ct sl) (kf : ¬ x = y → EV k q lv st G ct sl) : EV k pc lv (vI y :: vI x :: st) G ct sl := by
  subst hq
  obtain ⟨h1, h2, -⟩ := C
  intro hO ad H locs ls hM hl
  have hO' : OKS G lv st := (fun h => oks_pop1 (oks_pop1 h)) hO
  exact lv_icmp_eq h1 h2 hd ht (fun h => kt ((iI_eq hx hy).mp h) hO' ad H locs ls hM hl) (fun h => kf (fun z => h ((iI_eq hx hy).mpr z)) hO' ad H locs ls hM hl)
theorem ev_if_ne {off : Int} {x : Int} (C : CX k own cc nL) (hd : decode cc pc = .ok (.ifCond .ne off, 3)) (ht : (pc : Int) + off = (tgt : Int)) (hq : pc + 3 = q) (hx : rg x) (kt : ¬ x = 0 → EV k tgt lv st G ct sl) (kf : x = 0 → EV k q lv st G ct sl) : EV k pc lv (vI x :: st) G ct sl := by
  subst hq
  obtain ⟨h1, h2, -⟩ := C
  intro hO ad H locs ls hM hl
  have hO' : OKS G lv st := (oks_pop1) hO
  exact lv_if_ne h1 h2 hd ht (fun h => kt (fun z => h ((iI_eq0 hx).mpr z)) hO' ad H locs ls hM hl) (fun h => kf ((iI_eq0 hx).mp h) hO' ad H locs ls hM hl)
theorem ev_icmp_ne {off : Int} {x y : Int} (C : CX k own cc nL) (hd : decode cc pc = .ok (.if_icmp .ne off, 3)) (ht : (pc : Int) + off = (tgt : Int)) (hq : pc + 3 = q) (hx : rg x) (hy : rg y) (kt : ¬ x = y → EV k tgt lv st G ct sl) (kf : x = y → EV k q lv st G ct sl) : EV k pc lv (vI y :: vI x :: st) G ct sl := by
  subst hq
  obtain ⟨h1, h2, -⟩ := C
  intro hO ad H locs ls hM hl
  have hO' : OKS G lv st := (fun h => oks_pop1 (oks_pop1 h)) hO
  exact lv_icmp_ne h1 h2 hd ht (fun h => kt (fun z => h ((iI_eq hx hy).mpr z)) hO' ad H locs ls hM hl) (fun h => kf ((iI_eq hx hy).mp h) hO' ad H locs ls hM hl)
theorem ev_if_lt {off : Int} {x : Int} (C : CX k own cc nL) (hd : decode cc pc = .ok (.ifCond .lt off, 3)) (ht : (pc : Int) + off = (tgt : Int)) (hq : pc + 3 = q) (hx : rg x) (kt : x < 0 → EV k tgt lv st G ct sl) (kf : ¬ x < 0 → EV k q lv st G ct sl) : EV k pc lv (vI x :: st) G ct sl := by
  subst hq
  obtain ⟨h1, h2, -⟩ := C
  intro hO ad H locs ls hM hl
  have hO' : OKS G lv st := (oks_pop1) hO
  exact lv_if_lt h1 h2 hd ht (fun h => kt ((iI_lt0 hx).mp h) hO' ad H locs ls hM hl) (fun h => kf (fun z => h ((iI_lt0 hx).mpr z)) hO' ad H locs ls hM hl)
theorem ev_icmp_lt {off : Int} {x y : Int} (C : CX k own cc nL) (hd : decode cc pc = .ok (.if_icmp .lt off, 3)) (ht : (pc : Int) + off = (tgt : Int)) (hq : pc + 3 = q) (hx : rg x) (hy : rg y) (kt : x < y → EV k tgt lv st G ct sl) (kf : ¬ x < y → EV k q lv st G ct sl) : EV k pc lv (vI y :: vI x :: st) G ct sl := by
  subst hq
  obtain ⟨h1, h2, -⟩ := C
  intro hO ad H locs ls hM hl
  have hO' : OKS G lv st := (fun h => oks_pop1 (oks_pop1 h)) hO
  exact lv_icmp_lt h1 h2 hd ht (fun h => kt ((iI_lt hx hy).mp h) hO' ad H locs ls hM hl) (fun h => kf (fun z => h ((iI_lt hx hy).mpr z)) hO' ad H locs ls hM hl)
theorem ev_if_ge {off : Int} {x : Int} (C : CX k own cc nL) (hd : decode cc pc = .ok (.ifCond .ge off, 3)) (ht : (pc : Int) + off = (tgt : Int)) (hq : pc + 3 = q) (hx : rg x) (kt : 0 ≤ x → EV k tgt lv st G ct sl) (kf : ¬ 0 ≤ x → EV k q lv st G ct sl) : EV k pc lv (vI x :: st) G ct sl := by
  subst hq
  obtain ⟨h1, h2, -⟩ := C
  intro hO ad H locs ls hM hl
  have hO' : OKS G lv st := (oks_pop1) hO
  exact lv_if_ge h1 h2 hd ht (fun h => kt ((iI_0le hx).mp h) hO' ad H locs ls hM hl) (fun h => kf (fun z => h ((iI_0le hx).mpr z)) hO' ad H locs ls hM hl)
theorem ev_icmp_ge {off : Int} {x y : Int} (C : CX k own cc nL) (hd : decode cc pc = .ok (.if_icmp .ge off, 3)) (ht : (pc : Int) + off = (tgt : Int)) (hq : pc + 3 = q) (hx : rg x) (hy : rg y) (kt : y ≤ x → EV k tgt lv st G ct sl) (kf : ¬ y ≤ x → EV k q lv st G ct sl) : EV k pc lv (vI y :: vI x :: st) G ct sl := by
  subst hq
  obtain ⟨h1, h2, -⟩ := C
  intro hO ad H locs ls hM hl
  have hO' : OKS G lv st := (fun h => oks_pop1 (oks_pop1 h)) hO
  exact lv_icmp_ge h1 h2 hd ht (fun h => kt ((iI_le hy hx).mp h) hO' ad H locs ls hM hl) (fun h => kf (fun z => h ((iI_le hy hx).mpr z)) hO' ad H locs ls hM hl)
theorem ev_if_gt {off : Int} {x : Int} (C : CX k own cc nL) (hd : decode cc pc = .ok (.ifCond .gt off, 3)) (ht : (pc : Int) + off = (tgt : Int)) (hq : pc + 3 = q) (hx : rg x) (kt : 0 < x → EV k tgt lv st G ct sl) (kf : ¬ 0 < x → EV k q lv st G ct sl) : EV k pc lv (vI x :: st) G ct sl := by
  subst hq
  obtain ⟨h1, h2, -⟩ := C
  intro hO ad H locs ls hM hl
  have hO' : OKS G lv st := (oks_pop1) hO
  exact lv_if_gt h1 h2 hd ht (fun h => kt ((iI_0lt hx).mp h) hO' ad H locs ls hM hl) (fun h => kf (fun z => h ((iI_0lt hx).mpr z)) hO' ad H locs ls hM hl)
theorem ev_icmp_gt {off : Int} {x y : Int} (C : CX k own cc nL) (hd : decode cc pc = .ok (.if_icmp .gt off, 3)) (ht : (pc : Int) + off = (tgt : Int)) (hq : pc + 3 = q) (hx : rg x) (hy : rg y) (kt : y < x → EV k tgt lv st G ct sl) (kf : ¬ y < x → EV k q lv st G ct sl) : EV k pc lv (vI y :: vI x :: st) G ct sl := by
  subst hq
  obtain ⟨h1, h2, -⟩ := C
  intro hO ad H locs ls hM hl
  have hO' : OKS G lv st := (fun h => oks_pop1 (oks_pop1 h)) hO
  exact lv_icmp_gt h1 h2 hd ht (fun h => kt ((iI_lt hy hx).mp h) hO' ad H locs ls hM hl) (fun h => kf (fun z => h ((iI_lt hy hx).mpr z)) hO' ad H locs ls hM hl)
theorem ev_if_le {off : Int} {x : Int} (C : CX k own cc nL) (hd : decode cc pc = .ok (.ifCond .le off, 3)) (ht : (pc : Int) + off = (tgt : Int)) (hq : pc + 3 = q) (hx : rg x) (kt : x ≤ 0 → EV k tgt lv st G ct sl) (kf : ¬ x ≤ 0 → EV k q lv st G ct sl) : EV k pc lv (vI x :: st) G ct sl := by
  subst hq
  obtain ⟨h1, h2, -⟩ := C
  intro hO ad H locs ls hM hl
  have hO' : OKS G lv st := (oks_pop1) hO
  exact lv_if_le h1 h2 hd ht (fun h => kt ((iI_le0 hx).mp h) hO' ad H locs ls hM hl) (fun h => kf (fun z => h ((iI_le0 hx).mpr z)) hO' ad H locs ls hM hl)
theorem ev_icmp_le {off : Int} {x y : Int} (C : CX k own cc nL) (hd : decode cc pc = .ok (.if_icmp .le off, 3)) (ht : (pc : Int) + off = (tgt : Int)) (hq : pc + 3 = q) (hx : rg x) (hy : rg y) (kt : x ≤ y → EV k tgt lv st G ct sl) (kf : ¬ x ≤ y → EV k q lv st G ct sl) : EV k pc lv (vI y :: vI x :: st) G ct sl := by
  subst hq
  obtain ⟨h1, h2, -⟩ := C
  intro hO ad H locs ls hM hl
  have hO' : OKS G lv st := (fun h => oks_pop1 (oks_pop1 h)) hO
  exact lv_icmp_le h1 h2 hd ht (fun h => kt ((iI_le hx hy).mp h) hO' ad H locs ls hM hl) (fun h => kf (fun z => h ((iI_le hx hy).mpr z)) hO' ad H locs ls hM hl)
end BR
section HP
variable {k : Kx} {own : String} {cc : ByteArray} {nL : Nat} {pc q tgt : Nat} {lv lv' : List (Nat × AV)} {st st' : List AV} {G G' : GH} {ct sl : Nat}
theorem ev_eq (h : G' = G) (kk : EV k pc lv st G ct sl) : EV k pc lv st G' ct sl := h ▸ kk
theorem ev_eqS (h : st' = st) (kk : EV k pc lv st G ct sl) : EV k pc lv st' G ct sl := h ▸ kk
theorem ev_eqL (h : lv' = lv) (kk : EV k pc lv st G ct sl) : EV k pc lv' st G ct sl := h ▸ kk
theorem ev_wide {ct' sl' : Nat} (h1 : ct ≤ ct') (h2 : sl ≤ sl') (kk : EV k pc lv st G ct' sl') : EV k pc lv st G ct sl :=
  fun hO ad H locs ls hM hl => W.widen h1 h2 (kk hO ad H locs ls hM hl)
theorem ev_less (hs : ∀ a ∈ lv', a ∈ lv) (kk : EV k pc lv' st G ct sl) : EV k pc lv st G ct sl :=
  fun hO ad H locs ls hM hl => kk ⟨hO.1, fun a ha => hO.2.1 a (hs a ha), hO.2.2⟩ ad H locs ls hM (lv_less hl (fun a ha => by
    obtain ⟨b, hb, rfl⟩ := List.mem_map.mp ha
    exact List.mem_map.mpr ⟨b, hs b hb, rfl⟩))
theorem ev_goto {off : Int} (C : CX k own cc nL) (hd : decode cc pc = .ok (.goto off, 3)) (ht : (pc : Int) + off = (tgt : Int)) (kk : EV k tgt lv st G ct sl) : EV k pc lv st G ct sl :=
  ev_mk (fun h => h) kk fun ad H locs ls hl go => lv_goto C.1 C.2.1 hd ht (go ls hl)
theorem ev_ifnonnull {off : Int} {r : Option Nat} (C : CX k own cc nL) (hd : decode cc pc = .ok (.ifnonnull off, 3)) (ht : (pc : Int) + off = (tgt : Int)) (hq : pc + 3 = q) (kt : (∃ n, r = some n) → EV k tgt lv st G ct sl) (kf : r = none → EV k q lv st G ct sl) : EV k pc lv (vR r :: st) G ct sl := by
  subst hq
  intro hO ad H locs ls hM hl
  cases r with
  | none => exact lv_ifnonnullN C.1 C.2.1 hd (kf rfl (oks_pop1 hO) ad H locs ls hM hl)
  | some n => exact lv_ifnonnull C.1 C.2.1 hd ht (kt ⟨n, rfl⟩ (oks_pop1 hO) ad H locs ls hM hl)
theorem ev_ifnull {off : Int} {r : Option Nat} (C : CX k own cc nL) (hd : decode cc pc = .ok (.ifnull off, 3)) (ht : (pc : Int) + off = (tgt : Int)) (hq : pc + 3 = q) (kt : r = none → EV k tgt lv st G ct sl) (kf : (∃ n, r = some n) → EV k q lv st G ct sl) : EV k pc lv (vR r :: st) G ct sl := by
  subst hq
  intro hO ad H locs ls hM hl
  cases r with
  | none => exact lv_ifnullN C.1 C.2.1 hd ht (kt rfl (oks_pop1 hO) ad H locs ls hM hl)
  | some n => exact lv_ifnull C.1 C.2.1 hd (kf ⟨n, rfl⟩ (oks_pop1 hO) ad H locs ls hM hl)
theorem ms_ad {ad : Nat → Nat} {H : Heap} {locs : List Loc} (C : CX k own cc nL) (hM : MS k ad G H locs) {a b : Nat} (ha : okv G (vR (some a))) (hb : okv G (vR (some b))) (ha5 : a ≠ 500) (hb5 : b ≠ 500) (h : ad a = ad b) : a = b := by
  obtain ⟨-, -, -, -, -, -, -, -, hH, -, -, hn, -⟩ := C
  have h13 : ad 1013 = kad k 1013 := hM.2.2.2.1 1013 hn
  have hout : ¬ kA k (ad 1013) := by rw [h13]; exact hH.2.2.2.out
  have ca : G a ≠ none ∨ a = 1013 := (ha a rfl).elim Or.inl (fun z => z.elim (fun z => absurd z ha5) Or.inr)
  have cb : G b ≠ none ∨ b = 1013 := (hb b rfl).elim Or.inl (fun z => z.elim (fun z => absurd z hb5) Or.inr)
  rcases ca with ca | rfl <;> rcases cb with cb | rfl
  · exact hM.2.1 a b ca cb h
  · exact absurd (h ▸ hM.2.2.1 a ca) hout
  · exact absurd (h ▸ hM.2.2.1 b cb) hout
  · rfl
theorem ev_acmp_eq {off : Int} {rx ry : Option Nat} (C : CX k own cc nL) (hd : decode cc pc = .ok (.if_acmp .eq off, 3)) (ht : (pc : Int) + off = (tgt : Int)) (hq : pc + 3 = q) (hx5 : rx ≠ some 500) (hy5 : ry ≠ some 500) (kt : rx = ry → EV k tgt lv st G ct sl) (kf : ¬ rx = ry → EV k q lv st G ct sl) : EV k pc lv (vR ry :: vR rx :: st) G ct sl := by
  subst hq
  intro hO ad H locs ls hM hl
  have hO' : OKS G lv st := oks_pop1 (oks_pop1 hO)
  have hi : rx.map ad = ry.map ad → rx = ry := by
    intro h
    cases rx with
    | none => cases ry with
      | none => rfl
      | some b => cases h
    | some a => cases ry with
      | none => cases h
      | some b => rw [ms_ad C hM (hO.2.2 _ (List.mem_cons_of_mem _ List.mem_cons_self)) (hO.2.2 _ List.mem_cons_self) (fun z => hx5 (by rw [z])) (fun z => hy5 (by rw [z])) (Option.some.inj h)]
  exact lv_acmp_eq C.1 C.2.1 hd ht (fun h => kt (hi h) hO' ad H locs ls hM hl) (fun h => kf (fun z => h (by rw [z])) hO' ad H locs ls hM hl)
theorem ev_acmp_ne {off : Int} {rx ry : Option Nat} (C : CX k own cc nL) (hd : decode cc pc = .ok (.if_acmp .ne off, 3)) (ht : (pc : Int) + off = (tgt : Int)) (hq : pc + 3 = q) (hx5 : rx ≠ some 500) (hy5 : ry ≠ some 500) (kt : ¬ rx = ry → EV k tgt lv st G ct sl) (kf : rx = ry → EV k q lv st G ct sl) : EV k pc lv (vR ry :: vR rx :: st) G ct sl := by
  subst hq
  intro hO ad H locs ls hM hl
  have hO' : OKS G lv st := oks_pop1 (oks_pop1 hO)
  have hi : rx.map ad = ry.map ad → rx = ry := by
    intro h
    cases rx with
    | none => cases ry with
      | none => rfl
      | some b => cases h
    | some a => cases ry with
      | none => cases h
      | some b => rw [ms_ad C hM (hO.2.2 _ (List.mem_cons_of_mem _ List.mem_cons_self)) (hO.2.2 _ List.mem_cons_self) (fun z => hx5 (by rw [z])) (fun z => hy5 (by rw [z])) (Option.some.inj h)]
  exact lv_acmp_ne C.1 C.2.1 hd ht (fun h => kt (fun z => h (by rw [z])) hO' ad H locs ls hM hl) (fun h => kf (hi h) hO' ad H locs ls hM hl)
-- fields
theorem ev_get {index ci j n fin : Nat} {ty : FieldType} {fs : List AV} {v : AV} (C : CX k own cc nL) (hd : decode cc pc = .ok (.getfield index, 3)) (F : FLk own index ci j fin ty) (hq : pc + 3 = q) (hG : G n = some (.inl (ci, fs))) (hv : fs[j]? = some v) (kk : EV k q lv (v :: st) G ct sl) : EV k pc lv (vR (some n) :: st) G ct sl := by
  subst hq
  obtain ⟨Cn, T, N, tyf, ref, f1, f2, f3, f4, f5, f6, f7, f8, f9, f10⟩ := F
  obtain ⟨hx, hb, hml, hown, hts, hlk, htr, hK, hH, hV, hA, hn1, hn2⟩ := id C
  intro hO ad H locs ls hM hl
  have hP : va_P (kD k) vwCl [(ad n, .inr (ci, fs.map (cv ad)))] H := by
    intro i a hi
    cases i with
    | zero => cases hi; exact hM.1 n _ hG
    | succ i => cases hi
  have hov : okv G v := hO.1.1 n _ hG v (List.mem_of_getElem? hv)
  refine va_get (D := kD k) (ci := ci) (v := cv ad v) (C := Cn) (T := T) (N := N) hx hb hts f2 hown hK hP 0 rfl f1 j f3 (hts _ f6) (fun x h => ?_) (by rw [List.getElem?_map, hv]; rfl) hd (kk (oks_push hov (oks_pop1 hO)) ad H locs ls hM hl)
  rcases f7 with e | f7
  · rw [e]; exact h
  · exact u_same (hts _ f7) x h
def fitA (ty : FieldType) (v : AV) : Prop := ∀ ad, narrow ty (cv ad v) = cv ad v ∧ fits ty (cv ad v) = true
theorem fit_I (x : Int) : fitA .int (vI x) := fun ad => ⟨rfl, rfl⟩
theorem fit_L (x : Int) : fitA .long (vL x) := fun ad => ⟨rfl, rfl⟩
theorem fit_O (C : String) (r : Option Nat) : fitA (.object C) (vR r) := fun ad => by cases r <;> exact ⟨rfl, rfl⟩
theorem fit_A (t : FieldType) (r : Option Nat) : fitA (.array t) (vR r) := fun ad => by cases r <;> exact ⟨rfl, rfl⟩
theorem fit_Z {x : Int} (h : x = 0 ∨ x = 1) : fitA .boolean (vI x) := fun ad => by
  rcases h with rfl | rfl
  · exact ⟨(show narrow .boolean (.int (iI 0)) = .int (iI 0) by decide), (show fits .boolean (.int (iI 0)) = true by decide)⟩
  · exact ⟨(show narrow .boolean (.int (iI 1)) = .int (iI 1) by decide), (show fits .boolean (.int (iI 1)) = true by decide)⟩
theorem nar_C {x : Int} (h : 0 ≤ x ∧ x < 65536) : narrow .char (.int (iI x)) = .int (iI x) := by
  have h1 : ((iI x).toUInt32 % 65536).toInt32 = iI x := by
    apply Int32.toInt_inj.mp
    rw [iI_toInt (by unfold rg; omega)]
    have h2 : iI x = Int32.ofNat x.toNat := by
      have : x = (x.toNat : Int) := by omega
      unfold iI
      rw [this]
      rfl
    have h3 : (iI x).toUInt32 = UInt32.ofNat x.toNat := by rw [h2]; rfl
    rw [h3]
    have h4 : UInt32.ofNat x.toNat % 65536 = UInt32.ofNat x.toNat := by
      apply UInt32.toNat_inj.mp
      simp
      omega
    rw [h4]
    have h5 : (UInt32.ofNat x.toNat).toInt32 = iI x := by rw [h2]; rfl
    rw [h5, iI_toInt (by unfold rg; omega)]
  show Value.int _ = _
  first
    | exact congrArg Value.int h1
    | (have h6 : (iI x).toUInt32.toUInt16.toUInt32.toInt32 = iI x := by
         rw [← h1]; apply Int32.toInt_inj.mp; simp
       exact congrArg Value.int h6)
theorem fit_C {x : Int} (h : 0 ≤ x ∧ x < 65536) : fitA .char (vI x) := fun ad => ⟨nar_C h, by
  have := nar_C h
  have hr : rg x := by unfold rg; omega
  have h1 : 0 ≤ iI x := (iI_0le hr).mpr h.1
  have h2 : iI x ≤ 65535 := (iI_le (y := 65535) hr (by unfold rg; omega)).mpr (by omega)
  simp [fits, cv, this, h1, h2]⟩
theorem gup_self {n : Nat} {c : AC} : gup G n c n = some c := by simp [gup]
theorem gup_ne {n m : Nat} {c : AC} (h : m ≠ n) : gup G n c m = G m := by simp [gup, h]
theorem gup_dom {n m : Nat} {c : AC} (h : G m ≠ none) : gup G n c m ≠ none := by
  by_cases e : m = n
  · rw [e, gup_self]; exact fun z => nomatch z
  · rw [gup_ne e]; exact h
theorem okv_gup {n : Nat} {c : AC} {v : AV} (h : okv G v) : okv (gup G n c) v := fun m hm => (h m hm).imp gup_dom id
theorem okc_gup {n : Nat} {c d : AC} (h : okc G d) : okc (gup G n c) d := by
  cases d with
  | inl o => exact fun v hv => okv_gup (h v hv)
  | inr a => exact fun j hj => okv_gup (h j hj)
theorem okG_gup {n : Nat} {c : AC} (h : okG G) (hn : ¬ fgn n) (hc : okc G c) : okG (gup G n c) := by
  refine ⟨fun m d hm => ?_, fun m hm => ?_⟩
  · by_cases e : m = n
    · rw [e, gup_self] at hm
      cases hm
      exact okc_gup hc
    · rw [gup_ne e] at hm
      exact okc_gup (h.1 m d hm)
  · rw [gup_ne (fun e => hn (by rw [← e]; exact hm))]
    exact h.2 m hm
theorem oks_gup {n : Nat} {c : AC} (h : OKS G lv st) (hn : ¬ fgn n) (hc : okc G c) : OKS (gup G n c) lv st := ⟨okG_gup h.1 hn hc, fun a ha => okv_gup (h.2.1 a ha), fun v hv => okv_gup (h.2.2 v hv)⟩
theorem nrp1_kept {D : va_G} {dT : Nat → ClassId} {ad : Nat → Nat} {n : Nat} {c : AC} {H H1 : Heap} (h : nrp1 D dT ad n c H) (hq : H1[ad n]? = H[ad n]?) : nrp1 D dT ad n c H1 := by
  cases c with
  | inl o =>
    obtain ⟨r, h1, h2⟩ := h
    exact ⟨r, h1, h2.kept hq⟩
  | inr a => exact ⟨h.1, hq.trans h.2⟩
theorem ms_put {ad : Nat → Nat} {H H1 : Heap} {locs : List Loc} {n s0 : Nat} {c0 c : AC} (hM : MS k ad G H locs) (hG : G n = some c0) (hc : nrp1 (kD k) (kdT k) ad n c H1) (z : H1.size = H.size) (oq : ∀ a, a ≠ ad n → H1[a]? = H[a]?) : MS k ad (gup G n c) H1 (locs ++ [⟨ad n, s0⟩]) := by
  obtain ⟨h1, h2, h3, h4, h5, h6⟩ := hM
  have hdom : ∀ m, gup G n c m ≠ none → G m ≠ none := fun m hm => by
    by_cases e : m = n
    · rw [e, hG]; exact fun z => nomatch z
    · rwa [gup_ne e] at hm
  have hGn : G n ≠ none := by rw [hG]; exact fun z => nomatch z
  refine ⟨fun m d hm => ?_, fun a b ha hb => h2 a b (hdom a ha) (hdom b hb), fun m hm => h3 m (hdom m hm), h4, fun m hm => gup_dom (h5 m hm), h6.put z oq (h3 n hGn)⟩
  by_cases e : m = n
  · subst e
    rw [gup_self] at hm
    cases hm
    exact hc
  · rw [gup_ne e] at hm
    exact nrp1_kept (h1 m d hm) (oq _ (fun z => e (h2 m n (by rw [hm]; exact fun z => nomatch z) hGn z)))
theorem ev_put {index ci j n : Nat} {ty : FieldType} {fs : List AV} {v : AV} (C : CX k own cc nL) (hd : decode cc pc = .ok (.putfield index, 3)) (F : FLk own index ci j 0 ty) (hq : pc + 3 = q) (hf : fitA ty v) (hG : G n = some (.inl (ci, fs))) (hj : j < fs.length) (hG' : gup G n (.inl (ci, fs.set j v)) = G') (kk : EV k q lv st G' ct sl) : EV k pc lv (v :: vR (some n) :: st) G ct sl := by
  subst hq
  subst hG'
  obtain ⟨Cn, T, N, tyf, ref, f1, f2, f3, f4, f5, f6, f7, f8, f9, f10⟩ := F
  obtain ⟨hx, hb, hml, hown, hts, hlk, htr, hK, hH, hV, hA, hn1, hn2⟩ := id C
  intro hO ad H locs ls hM hl
  have hnf : ¬ fgn n := fun z => by have := hO.1.2 n z; rw [hG] at this; cases this
  have hokc : okc G (.inl (ci, fs.set j v)) := fun w hw => by
    rcases List.mem_or_eq_of_mem_set hw with hw | rfl
    · exact hO.1.1 n _ hG w hw
    · exact hO.2.2 _ List.mem_cons_self
  have hsame : ∀ x, (ks k).fieldFound? (T j).1 (T j).2.1 (T j).2.2.1 = some x → (ks k).fieldFound? ref (T j).2.1 (T j).2.2.1 = some x := fun x h => by
    rcases f7 with e | f7
    · rw [e]; exact h
    · exact u_same (hts _ f7) x h
  have hap := va_apart (own := own) hts f2 tyf f4 f5 hK f1
  obtain ⟨r, e1, cell, q1, q2, q3, q4⟩ := hM.1 n _ hG
  have hr : r = (Cn, T, N) := Option.some.inj (e1.symm.trans f1)
  subst hr
  obtain ⟨hS, hfc, kC, hkC, hkind⟩ := hK.1 ci _ f1
  obtain ⟨cf, kf, fi, f, hi, hsl⟩ := hS j f3
  have hlay := hts _ (f2 _ (u_in_lay f3))
  unfold u_lay at hlay
  rw [if_neg (by rw [f8]; decide)] at hlay
  have hst := (u_facts hfc hkC (u_lays hts f2 f3) hi).1
  have h6 := u_store hfc hkC hkind hlay hi f10 (hf ad).1 (hf ad).2
  refine W.putK hx hb (f := f) ⟨hown, hts _ f6, ⟨_, _, _, hsame _ hi⟩, hst⟩ (v := cv ad v) (by rw [q2]; exact h6) q1 q3 (by rw [hsl]; exact k2_hasslot (q4 j f3)) rfl rfl hd fun H' e1 e2 e3 => ?_
  rw [hsl] at e1 ⊢
  refine kk (oks_gup (oks_pop1 (oks_pop1 hO)) hnf hokc) ad H' _ ls (ms_put hM hG ⟨_, f1, ?_⟩ e2 e3) hl
  refine t_OB.to (V := updV (vp_V (fs.map (cv ad))) j (cv ad v)) ⟨_, e1, q2, q3, t_set q4 hap f3 (cv ad v)⟩ (fun i _ => ?_)
  rw [vp_updV_set (by rw [List.length_map]; exact hj), List.map_set]
theorem ev_putF {index ci j n : Nat} {ty : FieldType} {fs : List AV} {v : AV} (C : CX k own cc nL) (hin : (kmeth k).name = "<init>") (hd : decode cc pc = .ok (.putfield index, 3)) (F : FLk own index ci j 1 ty) (hq : pc + 3 = q) (hf : fitA ty v) (hG : G n = some (.inl (ci, fs))) (hj : j < fs.length) (hG' : gup G n (.inl (ci, fs.set j v)) = G') (kk : EV k q lv st G' ct sl) : EV k pc lv (v :: vR (some n) :: st) G ct sl := by
  subst hq
  subst hG'
  obtain ⟨Cn, T, N, tyf, ref, f1, f2, f3, f4, f5, f6, f7, f8, f9, f10⟩ := F
  obtain ⟨hx, hb, hml, hown, hts, hlk, htr, hK, hH, hV, hA, hn1, hn2⟩ := id C
  intro hO ad H locs ls hM hl
  have hnf : ¬ fgn n := fun z => by have := hO.1.2 n z; rw [hG] at this; cases this
  have hokc : okc G (.inl (ci, fs.set j v)) := fun w hw => by
    rcases List.mem_or_eq_of_mem_set hw with hw | rfl
    · exact hO.1.1 n _ hG w hw
    · exact hO.2.2 _ List.mem_cons_self
  have hsame : ∀ x, (ks k).fieldFound? (T j).1 (T j).2.1 (T j).2.2.1 = some x → (ks k).fieldFound? ref (T j).2.1 (T j).2.2.1 = some x := fun x h => by
    rcases f7 with e | f7
    · rw [e]; exact h
    · exact u_same (hts _ f7) x h
  have hap := va_apart (own := own) hts f2 tyf f4 f5 hK f1
  obtain ⟨r, e1, cell, q1, q2, q3, q4⟩ := hM.1 n _ hG
  have hr : r = (Cn, T, N) := Option.some.inj (e1.symm.trans f1)
  subst hr
  obtain ⟨hS, hfc, kC, hkC, hkind⟩ := hK.1 ci _ f1
  obtain ⟨cf, kf, fi, f, hi, hsl⟩ := hS j f3
  have hlay := hts _ (f2 _ (u_in_lay f3))
  unfold u_lay at hlay
  rw [if_pos (by rw [f8]; decide)] at hlay
  have hst := (u_facts hfc hkC (u_lays hts f2 f3) hi).1
  have hcf : (km k).cls = cf := by
    obtain ⟨_, _, c', _, _, _, -, -, hf', -, -, -, hown2, -⟩ := Cond.laysFinal_spec hlay
    have e1 : c' = cf := by have := hi.symm.trans hf'; simp at this; exact this.1.symm
    rw [f9 rfl] at hown2
    rw [← e1]; exact Option.some.inj (hown.symm.trans hown2)
  have h6 := u_fits hfc hkC hkind (Or.inr hlay) hi f10 (hf ad).1 (hf ad).2
  refine W.putFinK hx hb hown (hts _ f6) (hsame _ hi) hst hcf hin (v := cv ad v) (by rw [q2]; exact h6) q1 q3 (by rw [hsl]; exact k2_hasslot (q4 j f3)) rfl rfl hd fun H' e1 e2 e3 => ?_
  rw [hsl] at e1 ⊢
  refine kk (oks_gup (oks_pop1 (oks_pop1 hO)) hnf hokc) ad H' _ ls (ms_put hM hG ⟨_, f1, ?_⟩ e2 e3) hl
  refine t_OB.to (V := updV (vp_V (fs.map (cv ad))) j (cv ad v)) ⟨_, e1, q2, q3, t_set q4 hap f3 (cv ad v)⟩ (fun i _ => ?_)
  rw [vp_updV_set (by rw [List.length_map]; exact hj), List.map_set]
end HP
end
section
section AR
variable {k : Kx} {own : String} {cc : ByteArray} {nL : Nat} {pc q tgt : Nat} {lv lv' : List (Nat × AV)} {st st' : List AV} {G G' : GH} {ct sl : Nat}
def vset (f : Nat → AV) (i : Nat) (v : AV) : Nat → AV := fun j => if j = i then v else f j
theorem cv_vset (ad : Nat → Nat) (f : Nat → AV) (i : Nat) (v : AV) : (fun j => cv ad (vset f i v j)) = updV (fun j => cv ad (f j)) i (cv ad v) := by
  funext j
  unfold vset updV
  by_cases h : j = i <;> simp [h]
theorem arr_in {i : Int} {n : Nat} {cA : ClassId} {f : Nat → Value} (hr : rg i) (h0 : 0 ≤ i) (h1 : i < n) : ¬ (iI i < 0 ∨ (arrV cA n f).slots.size ≤ (iI i).toNatClampNeg) := by
  rw [arrV_size]
  exact iI_in hr h0 h1
theorem arr_rd {i : Int} {n : Nat} {cA : ClassId} {f : Nat → Value} (hr : rg i) (h0 : 0 ≤ i) (h1 : i < n) : (arrV cA n f).slots[(iI i).toNatClampNeg]? = some (f i.toNat) := by
  rw [iI_nat hr h0, arrV_read _ _ (by omega)]
theorem K_arr (C : CX k own cc nL) {t : Nat} (ht : t < 7) (n : Nat) (f : Nat → Value) : (ks k).isArrayOf (arrV (kdT k t) n f) (arT t) := by
  obtain ⟨hx, hb, hml, hown, hts, hlk, htr, hK, -⟩ := C
  have h : (tyl (kdT k))[t]? = some (kdT k t, arT t) := by
    match t, ht with
    | 0, _ => rfl
    | 1, _ => rfl
    | 2, _ => rfl
    | 3, _ => rfl
    | 4, _ => rfl
    | 5, _ => rfl
    | 6, _ => rfl
  exact (hK.2 t _ h).1 n f
theorem K_ra (C : CX k own cc nL) {t : Nat} (ht : t < 7) : va_RA (ks k) (kdT k t) (arT t) := by
  obtain ⟨hx, hb, hml, hown, hts, hlk, htr, hK, -⟩ := C
  have h : (tyl (kdT k))[t]? = some (kdT k t, arT t) := by
    match t, ht with
    | 0, _ => rfl
    | 1, _ => rfl
    | 2, _ => rfl
    | 3, _ => rfl
    | 4, _ => rfl
    | 5, _ => rfl
    | 6, _ => rfl
  exact (hK.2 t _ h).2
theorem oks_ald {v i : AV} {t n len : Nat} {f : Nat → AV} {j : Int} (hG : G n = some (.inr (t, len, f))) (h0 : 0 ≤ j) (h1 : j < len) (h : OKS G lv (i :: v :: st)) : OKS G lv (f j.toNat :: st) :=
  oks_bin (h.1.1 n _ hG j.toNat ((Int.toNat_lt h0).mpr h1)) h
theorem ev_iald {n len : Nat} {f : Nat → AV} {i : Int} (C : CX k own cc nL) (hd : decode cc pc = .ok (.iaload, 1)) (hq : pc + 1 = q) (hG : G n = some (.inr (0, len, f))) (hr : rg i) (h0 : 0 ≤ i) (h1 : i < len) (kk : EV k q lv (f i.toNat :: st) G ct sl) : EV k pc lv (vI i :: vR (some n) :: st) G ct sl := by
  subst hq
  intro hO ad H locs ls hM hl
  obtain ⟨htl, hc⟩ := hM.1 n _ hG
  exact W.iald (v := cv ad (f i.toNat)) C.1 C.2.1 hc (K_arr C htl len _) (fun z => nomatch z) (arr_in hr h0 h1) (arr_rd hr h0 h1) rfl rfl hd (kk (oks_ald hG h0 h1 hO) ad H locs ls hM hl)
theorem ev_lald {n len : Nat} {f : Nat → AV} {i : Int} (C : CX k own cc nL) (hd : decode cc pc = .ok (.laload, 1)) (hq : pc + 1 = q) (hG : G n = some (.inr (1, len, f))) (hr : rg i) (h0 : 0 ≤ i) (h1 : i < len) (kk : EV k q lv (f i.toNat :: st) G ct sl) : EV k pc lv (vI i :: vR (some n) :: st) G ct sl := by
  subst hq
  intro hO ad H locs ls hM hl
  obtain ⟨htl, hc⟩ := hM.1 n _ hG
  exact W.lald (v := cv ad (f i.toNat)) C.1 C.2.1 hc (K_arr C htl len _) (fun z => nomatch z) (arr_in hr h0 h1) (arr_rd hr h0 h1) rfl rfl hd (kk (oks_ald hG h0 h1 hO) ad H locs ls hM hl)
theorem ev_zald {n len : Nat} {f : Nat → AV} {i : Int} (C : CX k own cc nL) (hd : decode cc pc = .ok (.baload, 1)) (hq : pc + 1 = q) (hG : G n = some (.inr (2, len, f))) (hr : rg i) (h0 : 0 ≤ i) (h1 : i < len) (kk : EV k q lv (f i.toNat :: st) G ct sl) : EV k pc lv (vI i :: vR (some n) :: st) G ct sl := by
  subst hq
  intro hO ad H locs ls hM hl
  obtain ⟨htl, hc⟩ := hM.1 n _ hG
  exact W.zald (v := cv ad (f i.toNat)) C.1 C.2.1 hc (K_arr C htl len _) (fun z => nomatch z) (arr_in hr h0 h1) (arr_rd hr h0 h1) rfl rfl hd (kk (oks_ald hG h0 h1 hO) ad H locs ls hM hl)
theorem ev_cald {n len : Nat} {f : Nat → AV} {i : Int} (C : CX k own cc nL) (hd : decode cc pc = .ok (.caload, 1)) (hq : pc + 1 = q) (hG : G n = some (.inr (3, len, f))) (hr : rg i) (h0 : 0 ≤ i) (h1 : i < len) (kk : EV k q lv (f i.toNat :: st) G ct sl) : EV k pc lv (vI i :: vR (some n) :: st) G ct sl := by
  subst hq
  intro hO ad H locs ls hM hl
  obtain ⟨htl, hc⟩ := hM.1 n _ hG
  exact W.cald (v := cv ad (f i.toNat)) C.1 C.2.1 hc (K_arr C htl len _) (fun z => nomatch z) (arr_in hr h0 h1) (arr_rd hr h0 h1) rfl rfl hd (kk (oks_ald hG h0 h1 hO) ad H locs ls hM hl)
theorem ev_dald {n len : Nat} {f : Nat → AV} {i : Int} (C : CX k own cc nL) (hd : decode cc pc = .ok (.daload, 1)) (hq : pc + 1 = q) (hG : G n = some (.inr (4, len, f))) (hr : rg i) (h0 : 0 ≤ i) (h1 : i < len) (kk : EV k q lv (f i.toNat :: st) G ct sl) : EV k pc lv (vI i :: vR (some n) :: st) G ct sl := by
  subst hq
  intro hO ad H locs ls hM hl
  obtain ⟨htl, hc⟩ := hM.1 n _ hG
  exact W.dald (v := cv ad (f i.toNat)) C.1 C.2.1 hc (K_arr C htl len _) (fun z => nomatch z) (arr_in hr h0 h1) (arr_rd hr h0 h1) rfl rfl hd (kk (oks_ald hG h0 h1 hO) ad H locs ls hM hl)
theorem ev_aald {t n len : Nat} {f : Nat → AV} {i : Int} (C : CX k own cc nL) (hd : decode cc pc = .ok (.aaload, 1)) (hq : pc + 1 = q) (ht : t = 5 ∨ t = 6) (hG : G n = some (.inr (t, len, f))) (hr : rg i) (h0 : 0 ≤ i) (h1 : i < len) (kk : EV k q lv (f i.toNat :: st) G ct sl) : EV k pc lv (vI i :: vR (some n) :: st) G ct sl := by
  subst hq
  intro hO ad H locs ls hM hl
  obtain ⟨htl, hc⟩ := hM.1 n _ hG
  exact W.aald (v := cv ad (f i.toNat)) (ty := arT t) C.1 C.2.1 hc (K_arr C htl len _) (by rcases ht with rfl | rfl <;> rfl) (fun z => nomatch z) (arr_in hr h0 h1) (arr_rd hr h0 h1) rfl rfl hd (kk (oks_ald hG h0 h1 hO) ad H locs ls hM hl)
theorem oks_ast {x i a : AV} {t n len : Nat} {f : Nat → AV} {j : Int} (hG : G n = some (.inr (t, len, f))) (h : OKS G lv (x :: i :: a :: st)) : OKS (gup G n (.inr (t, len, vset f j.toNat x))) lv st := by
  refine oks_gup (oks_pop1 (oks_pop1 (oks_pop1 h))) (fun z => by have := h.1.2 n z; rw [hG] at this; cases this) (fun m hm => ?_)
  show okv G (vset f j.toNat x m)
  unfold vset
  by_cases e : m = j.toNat
  · rw [if_pos e]; exact h.2.2 _ List.mem_cons_self
  · rw [if_neg e]; exact h.1.1 n _ hG m hm
theorem ev_iast {n len : Nat} {f : Nat → AV} {i : Int} {x : Int} (C : CX k own cc nL) (hd : decode cc pc = .ok (.iastore, 1)) (hq : pc + 1 = q) (hG : G n = some (.inr (0, len, f))) (hr : rg i) (h0 : 0 ≤ i) (h1 : i < len) (hG' : gup G n (.inr (0, len, vset f i.toNat (vI x))) = G') (kk : EV k q lv st G' ct sl) : EV k pc lv (vI x :: vI i :: vR (some n) :: st) G ct sl := by
  subst hq
  subst hG'
  intro hO ad H locs ls hM hl
  obtain ⟨htl, hc⟩ := hM.1 n _ hG
  refine W.iast C.1 C.2.1 hc (K_arr C htl len _) (fun z => nomatch z) (arr_in hr h0 h1) rfl rfl hd fun H1 e z oq => ?_
  rw [iI_nat hr h0] at e ⊢
  rw [arrV_store] at e
  exact kk (oks_ast hG hO) ad H1 _ ls (ms_put hM hG ⟨htl, by rw [e]; show some (arrV _ _ _) = some (arrV _ _ _); rw [cv_vset]; rfl⟩ z oq) hl
theorem ev_last {n len : Nat} {f : Nat → AV} {i : Int} {x : Int} (C : CX k own cc nL) (hd : decode cc pc = .ok (.lastore, 1)) (hq : pc + 1 = q) (hG : G n = some (.inr (1, len, f))) (hr : rg i) (h0 : 0 ≤ i) (h1 : i < len) (hG' : gup G n (.inr (1, len, vset f i.toNat (vL x))) = G') (kk : EV k q lv st G' ct sl) : EV k pc lv (vL x :: vI i :: vR (some n) :: st) G ct sl := by
  subst hq
  subst hG'
  intro hO ad H locs ls hM hl
  obtain ⟨htl, hc⟩ := hM.1 n _ hG
  refine W.last C.1 C.2.1 hc (K_arr C htl len _) (fun z => nomatch z) (arr_in hr h0 h1) rfl rfl hd fun H1 e z oq => ?_
  rw [iI_nat hr h0] at e ⊢
  rw [arrV_store] at e
  exact kk (oks_ast hG hO) ad H1 _ ls (ms_put hM hG ⟨htl, by rw [e]; show some (arrV _ _ _) = some (arrV _ _ _); rw [cv_vset]; rfl⟩ z oq) hl
theorem ev_zast {n len : Nat} {f : Nat → AV} {i : Int} {x : Int} (C : CX k own cc nL) (hd : decode cc pc = .ok (.bastore, 1)) (hq : pc + 1 = q) (hx : x = 0 ∨ x = 1) (hG : G n = some (.inr (2, len, f))) (hr : rg i) (h0 : 0 ≤ i) (h1 : i < len) (hG' : gup G n (.inr (2, len, vset f i.toNat (vI x))) = G') (kk : EV k q lv st G' ct sl) : EV k pc lv (vI x :: vI i :: vR (some n) :: st) G ct sl := by
  subst hq
  subst hG'
  intro hO ad H locs ls hM hl
  obtain ⟨htl, hc⟩ := hM.1 n _ hG
  refine W.zast C.1 C.2.1 hc (K_arr C htl len _) (fun z => nomatch z) (arr_in hr h0 h1) rfl rfl hd fun H1 e z oq => ?_
  rw [iI_nat hr h0] at e ⊢
  have hz : narrow .boolean (.int (iI x)) = .int (iI x) := (fit_Z hx (fun _ => 0)).1
  rw [hz] at e
  rw [arrV_store] at e
  exact kk (oks_ast hG hO) ad H1 _ ls (ms_put hM hG ⟨htl, by rw [e]; show some (arrV _ _ _) = some (arrV _ _ _); rw [cv_vset]; rfl⟩ z oq) hl
theorem ev_cast {n len : Nat} {f : Nat → AV} {i : Int} {x : Int} (C : CX k own cc nL) (hd : decode cc pc = .ok (.castore, 1)) (hq : pc + 1 = q) (hx : 0 ≤ x ∧ x < 65536) (hG : G n = some (.inr (3, len, f))) (hr : rg i) (h0 : 0 ≤ i) (h1 : i < len) (hG' : gup G n (.inr (3, len, vset f i.toNat (vI x))) = G') (kk : EV k q lv st G' ct sl) : EV k pc lv (vI x :: vI i :: vR (some n) :: st) G ct sl := by
  subst hq
  subst hG'
  intro hO ad H locs ls hM hl
  obtain ⟨htl, hc⟩ := hM.1 n _ hG
  refine W.cast C.1 C.2.1 hc (K_arr C htl len _) (fun z => nomatch z) (arr_in hr h0 h1) rfl rfl hd fun H1 e z oq => ?_
  rw [iI_nat hr h0] at e ⊢
  rw [nar_C hx] at e
  rw [arrV_store] at e
  exact kk (oks_ast hG hO) ad H1 _ ls (ms_put hM hG ⟨htl, by rw [e]; show some (arrV _ _ _) = some (arrV _ _ _); rw [cv_vset]; rfl⟩ z oq) hl
theorem ev_dast {n len : Nat} {f : Nat → AV} {i : Int} {x : UInt64} (C : CX k own cc nL) (hd : decode cc pc = .ok (.dastore, 1)) (hq : pc + 1 = q) (hG : G n = some (.inr (4, len, f))) (hr : rg i) (h0 : 0 ≤ i) (h1 : i < len) (hG' : gup G n (.inr (4, len, vset f i.toNat (vD x))) = G') (kk : EV k q lv st G' ct sl) : EV k pc lv (vD x :: vI i :: vR (some n) :: st) G ct sl := by
  subst hq
  subst hG'
  intro hO ad H locs ls hM hl
  obtain ⟨htl, hc⟩ := hM.1 n _ hG
  refine W.dast C.1 C.2.1 hc (K_arr C htl len _) (fun z => nomatch z) (arr_in hr h0 h1) rfl rfl hd fun H1 e z oq => ?_
  rw [iI_nat hr h0] at e ⊢
  rw [arrV_store] at e
  exact kk (oks_ast hG hO) ad H1 _ ls (ms_put hM hG ⟨htl, by rw [e]; show some (arrV _ _ _) = some (arrV _ _ _); rw [cv_vset]; rfl⟩ z oq) hl
theorem ev_aastN {t n len : Nat} {f : Nat → AV} {i : Int} (C : CX k own cc nL) (hd : decode cc pc = .ok (.aastore, 1)) (hq : pc + 1 = q) (ht : t = 5 ∨ t = 6) (hG : G n = some (.inr (t, len, f))) (hr : rg i) (h0 : 0 ≤ i) (h1 : i < len) (hG' : gup G n (.inr (t, len, vset f i.toNat (vR none))) = G') (kk : EV k q lv st G' ct sl) : EV k pc lv (vR none :: vI i :: vR (some n) :: st) G ct sl := by
  subst hq
  subst hG'
  intro hO ad H locs ls hM hl
  obtain ⟨htl, hc⟩ := hM.1 n _ hG
  have hC : ∃ Cn, arT t = .object Cn := by rcases ht with rfl | rfl <;> exact ⟨_, rfl⟩
  obtain ⟨Cn, hCn⟩ := hC
  have harr := K_arr C htl len (fun j => cv ad (f j))
  rw [hCn] at harr
  refine va_WaastN (C := Cn) C.1 C.2.1 hc harr (fun z => nomatch z) (arr_in hr h0 h1) rfl rfl hd fun H1 e z oq => ?_
  rw [iI_nat hr h0] at e ⊢
  rw [arrV_store] at e
  exact kk (oks_ast hG hO) ad H1 _ ls (ms_put hM hG ⟨htl, by rw [e]; show some (arrV _ _ _) = some (arrV _ _ _); rw [cv_vset]; rfl⟩ z oq) hl
/-- a reference to an object of class ci into an array whose component class is that class, or Object -/
theorem ev_aast {t n len ci x : Nat} {f : Nat → AV} {fs : List AV} {i : Int} {Cn : String} {T : u_T} {N : Nat} (C : CX k own cc nL) (hd : decode cc pc = .ok (.aastore, 1)) (hq : pc + 1 = q) (ht : t = 5 ∨ t = 6) (hc : vwCl[ci]? = some (Cn, T, N)) (hcast : arT t = .object Cn ∨ ∃ Y, arT t = .object Y ∧ (Cn, Y) ∈ cstl0) (hG : G n = some (.inr (t, len, f))) (hGx : G x = some (.inl (ci, fs))) (hr : rg i) (h0 : 0 ≤ i) (h1 : i < len) (hG' : gup G n (.inr (t, len, vset f i.toNat (vR (some x)))) = G') (kk : EV k q lv st G' ct sl) : EV k pc lv (vR (some x) :: vI i :: vR (some n) :: st) G ct sl := by
  subst hq
  subst hG'
  intro hO ad H locs ls hM hl
  obtain ⟨hx, hb, hml, hown, hts, hlk, htr, hK, hH, hV, -⟩ := id C
  obtain ⟨htl, hc0⟩ := hM.1 n _ hG
  obtain ⟨r', hr', cellV, g1, g2, g3, -⟩ := hM.1 x _ hGx
  have hcls := (hK.1 ci _ hc).2
  have hra := K_ra C htl
  have key : ∃ (Y : String) (kA : Class) (comp : ClassId), arT t = .object Y ∧ (ks k).vm.classes[kdT k t]? = some kA ∧ kA.kind = .array comp (.object Y) ∧ (ks k).vm.findClass Y = some comp ∧ (ks k).vm.assignable cellV.cls comp = true := by
    rcases hcast with hY | ⟨Y, hY, hcs1⟩
    · rw [hY] at hra
      obtain ⟨kA, comp, k1, k2, k3, -⟩ := hra
      have hcomp : comp = (kD k).1 ci := Option.some.inj (k3.symm.trans hcls.1)
      exact ⟨Cn, kA, comp, hY, k1, k2, k3, by rw [hcomp, g2]; exact va_assign hcls⟩
    · rw [hY] at hra
      obtain ⟨kA, comp, k1, k2, k3, -⟩ := hra
      obtain ⟨c0, t0, f1, f2, f3⟩ := Cond.castable_spec (va_Nw.use (A := #[]) rfl (hV.1 _ hcs1))
      have e1 : c0 = (kD k).1 ci := Option.some.inj (f1.symm.trans hcls.1)
      have e2 : t0 = comp := Option.some.inj (f2.symm.trans k3)
      exact ⟨Y, kA, comp, hY, k1, k2, k3, by rw [g2, ← e1, ← e2]; exact f3⟩
  obtain ⟨Y, kA, comp, hY, k1, k2, k3, hass⟩ := key
  obtain ⟨kC, hkC, -⟩ := hcls.2
  obtain ⟨kc9, hkc9, -⟩ := Vm.findClass_spec k3
  refine W.aast hx hb hc0 (fun z h => nomatch h) (fun h => nomatch h) k1 k2 rfl hkc9 ⟨fun z => arr_in (cA := 0) (f := fun _ => .null) hr h0 h1 (Or.inl z), by show _ < (arrV _ _ _).slots.size; rw [arrV_size, iI_nat hr h0]; exact (Int.toNat_lt h0).mpr h1⟩ g1 (fun z h => by rw [g3] at h; cases h) (by rw [g2]; exact hkC) hass rfl rfl hd fun H1 e z oq => ?_
  rw [iI_nat hr h0] at e ⊢
  rw [arrV_store] at e
  exact kk (oks_ast hG hO) ad H1 _ ls (ms_put hM hG ⟨htl, by rw [e]; show some (arrV _ _ _) = some (arrV _ _ _); rw [cv_vset]; rfl⟩ z oq) hl
theorem ev_alen {t n len : Nat} {f : Nat → AV} (C : CX k own cc nL) (hd : decode cc pc = .ok (.arraylength, 1)) (hq : pc + 1 = q) (hG : G n = some (.inr (t, len, f))) (kk : EV k q lv (vI len :: st) G ct sl) : EV k pc lv (vR (some n) :: st) G ct sl := by
  subst hq
  intro hO ad H locs ls hM hl
  obtain ⟨htl, hc⟩ := hM.1 n _ hG
  exact W.alen (n := iI len) C.1 C.2.1 hc (K_arr C htl len _) (by rw [arrV_size]; rfl) rfl rfl hd (kk (oks_push (okv_I _) (oks_pop1 hO)) ad H locs ls hM hl)
/-- the length of the shared empty array -/
theorem ev_alen0 (C : CX k own cc nL) (hd : decode cc pc = .ok (.arraylength, 1)) (hq : pc + 1 = q) (kk : EV k q lv (vI 0 :: st) G ct sl) : EV k pc lv (vR (some 1013) :: st) G ct sl := by
  subst hq
  intro hO ad H locs ls hM hl
  obtain ⟨hx, hb, hml, hown, hts, hlk, htr, hK, hH, hV, hA, hn1, hn2⟩ := id C
  have h13 : ad 1013 = kad k 1013 := hM.2.2.2.1 1013 hn1
  have hT : va_T (.object "java/lang/Object") (kad k 1013) 0 (fun _ => .null) (kA k) (ks k) H := hH.2.2.2.kept hM.2.2.2.2.2.2.1
  obtain ⟨cell, g1, g2, g3, g4, g5, -⟩ := hT
  have e : cv ad (vR (some 1013)) = .ref (kad k 1013) := by show Value.ref (ad 1013) = _; rw [h13]
  show WK k H locs ct sl pc ls (cv ad (vR (some 1013)) :: st.map (cv ad))
  rw [e]
  exact W.alen (n := iI 0) hx hb g1 g2 g5 rfl rfl hd (kk (oks_push (okv_I _) (oks_pop1 hO)) ad H locs ls hM hl)
theorem ev_getS {index : Nat} (C : CX k own cc nL) (hd : decode cc pc = .ok (.getstatic index, 3)) (hq : pc + 3 = q) (hlink : Cond.fieldLink own index "java/util/ArrayList" "DEFAULTCAPACITY_EMPTY_ELEMENTDATA" "[Ljava/lang/Object;" ∈ lw_good) (kk : EV k q lv (vR (some 1013) :: st) G ct sl) : EV k pc lv st G ct sl := by
  subst hq
  intro hO ad H locs ls hM hl
  obtain ⟨hx, hb, hml, hown, hts, hlk, htr, hK, hH, hV, hA, hn1, hn2⟩ := id C
  have h13 : ad 1013 = kad k 1013 := hM.2.2.2.1 1013 hn1
  refine va_gets hx hb hH.2.2.1 hM.2.2.2.2.2 hown (hts _ hlink) (fun x h => h) hd ?_
  have := kk (oks_push (fun n h => by cases h; exact Or.inr (Or.inr rfl)) hO) ad H locs ls hM hl
  rw [← h13]
  exact this
end AR
end
section
/-! CONVERSIONS, MAKING, ENDS, CALLS, THROWS, HANDLERS -/
section MK
variable {k : Kx} {own : String} {cc : ByteArray} {nL : Nat} {pc q tgt : Nat} {lv lv' : List (Nat × AV)} {st st' : List AV} {G G' : GH} {ct sl : Nat}
theorem i2l_iI {x : Int} (hx : rg x) : (iI x).toInt64 = iL x := by
  apply Int64.toInt_inj.mp
  have h1 := hx.1
  have h2 := hx.2
  rw [Int32.toInt_toInt64, iI_toInt hx, iL_toInt (by unfold rgL; omega)]
theorem ev_i2l {x : Int} (C : CX k own cc nL) (hd : decode cc pc = .ok (.i2l, 1)) (hq : pc + 1 = q) (hx : rg x) (kk : EV k q lv (vL x :: st) G ct sl) : EV k pc lv (vI x :: st) G ct sl := by
  subst hq
  exact ev_mk (fun hO => oks_push (okv_L _) (oks_pop1 hO)) kk fun ad H locs ls hl go => lv_i2l C.1 C.2.1 hd (i2l_iI hx) (go ls hl)
theorem i2c_iI (x : Int) : ((iI x).toUInt32 % 65536).toInt32 = iI (x % 65536) := by
  apply Int32.toInt_inj.mp
  have h0 : 0 ≤ x % 65536 := Int.emod_nonneg _ (by decide)
  have h1 : x % 65536 < 65536 := Int.emod_lt_of_pos _ (by decide)
  rw [iI_toInt (x := x % 65536) (by unfold rg; omega)]
  have h2 : ((iI x).toUInt32 % 65536).toNat = ((iI x).toUInt32.toNat % 65536) := by rw [UInt32.toNat_mod]; rfl
  have h3 : ((iI x).toUInt32.toNat : Int) = x % 4294967296 := by
    show (((iI x).toBitVec).toNat : Int) = _
    unfold iI
    rw [Int32.toBitVec_ofInt, BitVec.toNat_ofInt]
    omega
  have h4 : (((iI x).toUInt32 % 65536).toNat : Int) = x % 65536 := by
    rw [h2]
    omega
  have h5 : ((iI x).toUInt32 % 65536).toInt32.toInt = (((iI x).toUInt32 % 65536).toNat : Int) := by
    show (((iI x).toUInt32 % 65536).toBitVec).toInt = _
    rw [BitVec.toInt_eq_toNat_of_lt]
    · rfl
    · show 2 * ((iI x).toUInt32 % 65536).toNat < 2 ^ 32
      omega
  rw [h5, h4]
theorem ev_i2c {x : Int} (C : CX k own cc nL) (hd : decode cc pc = .ok (.i2c, 1)) (hq : pc + 1 = q) (kk : EV k q lv (vI (x % 65536) :: st) G ct sl) : EV k pc lv (vI x :: st) G ct sl := by
  subst hq
  exact ev_mk (fun hO => oks_push (okv_I _) (oks_pop1 hO)) kk fun ad H locs ls hl go => lv_i2c C.1 C.2.1 hd (i2c_iI x) (go ls hl)
def cmpI (x y : Int) : Int := if y < x then 1 else if x = y then 0 else -1
theorem ev_lcmp {x y : Int} (C : CX k own cc nL) (hd : decode cc pc = .ok (.lcmp, 1)) (hq : pc + 1 = q) (hx : rgL x) (hy : rgL y) (kk : EV k q lv (vI (cmpI x y) :: st) G ct sl) : EV k pc lv (vL y :: vL x :: st) G ct sl := by
  subst hq
  refine ev_mk (oks_bin (okv_I _)) kk fun ad H locs ls hl go => W.lcmp C.1 C.2.1 hd ?_
  have e : lg_cmp (iL x) (iL y) = iI (cmpI x y) := by
    unfold lg_cmp cmpI
    have e1 : iL x > iL y ↔ y < x := by rw [gt_iff_lt, Int64.lt_iff_toInt_lt, iL_toInt hx, iL_toInt hy]
    have e2 : iL x = iL y ↔ x = y := by rw [← Int64.toInt_inj, iL_toInt hx, iL_toInt hy]
    by_cases h1 : y < x
    · rw [if_pos (e1.mpr h1), if_pos h1]; decide
    · rw [if_neg (fun z => h1 (e1.mp z)), if_neg h1]
      by_cases h2 : x = y
      · rw [if_pos (e2.mpr h2), if_pos h2]; decide
      · rw [if_neg (fun z => h2 (e2.mp z)), if_neg h2]; decide
  rw [e]
  exact go ls hl
theorem iI_div {x y : Int} (hx : rg x) (hy : rg y) (h0 : 0 ≤ x) (h1 : 0 < y) : iI x / iI y = iI (x / y) := by
  have hd0 : 0 ≤ x / y := Int.ediv_nonneg h0 (by omega)
  have hd1 : x / y ≤ x := Int.ediv_le_self _ h0
  have hx2 := hx.2
  apply Int32.toInt_inj.mp
  rw [iI_toInt (x := x / y) (by unfold rg; omega), Int32.toInt_div, iI_toInt hx, iI_toInt hy, Int.tdiv_eq_ediv_of_nonneg h0]
  exact Int.bmod_eq_of_le (by omega) (by omega)
theorem ev_idiv {x y : Int} (C : CX k own cc nL) (hd : decode cc pc = .ok (.idiv, 1)) (hq : pc + 1 = q) (hx : rg x) (hy : rg y) (h0 : 0 ≤ x) (h1 : 0 < y) (kk : EV k q lv (vI (x / y) :: st) G ct sl) : EV k pc lv (vI y :: vI x :: st) G ct sl := by
  subst hq
  refine ev_mk (oks_bin (okv_I _)) kk fun ad H locs ls hl go => lv_idiv C.1 C.2.1 hd (fun z => by have := (iI_eq0 hy).mp z; omega) ?_
  rw [iI_div hx hy h0 h1]
  exact go ls hl
theorem ev_irem {x y : Int} (C : CX k own cc nL) (hd : decode cc pc = .ok (.irem, 1)) (hq : pc + 1 = q) (hx : rg x) (hy : rg y) (h0 : 0 ≤ x) (h1 : 0 < y) (kk : EV k q lv (vI (x % y) :: st) G ct sl) : EV k pc lv (vI y :: vI x :: st) G ct sl := by
  subst hq
  refine ev_mk (oks_bin (okv_I _)) kk fun ad H locs ls hl go => lv_irem C.1 C.2.1 hd (fun z => by have := (iI_eq0 hy).mp z; omega) ?_
  rw [iI_div hx hy h0 h1, iI_mul, iI_sub]
  have e : x - x / y * y = x % y := by have := Int.mul_ediv_add_emod x y; rw [Int.mul_comm] at this; omega
  rw [e]
  exact go ls hl
-- making
def adn (ad : Nat → Nat) (n a : Nat) : Nat → Nat := fun j => if j = n then a else ad j
theorem cv_adn {ad : Nat → Nat} {n a : Nat} {v : AV} (h : rfo v ≠ some n) : cv (adn ad n a) v = cv ad v := by
  rcases v with x | (_ | r) | x | x | x
  · rfl
  · rfl
  · show Value.ref (adn ad n a r) = Value.ref (ad r)
    unfold adn
    rw [if_neg (fun e => h (by rw [e]; rfl))]
  · rfl
  · rfl
  · rfl
theorem okv_ne {v : AV} {n : Nat} (h : okv G v) (hn : G n = none) (hf : ¬ fgn n) : rfo v ≠ some n := fun e => (h n e).elim (fun z => z hn) hf
theorem cvl_adn {ad : Nat → Nat} {n a : Nat} (h : ∀ q ∈ lv, rfo q.2 ≠ some n) : cvl (adn ad n a) lv = cvl ad lv :=
  List.map_congr_left fun q hq => by rw [cv_adn (h q hq)]
theorem cvs_adn {ad : Nat → Nat} {n a : Nat} (h : ∀ v ∈ st, rfo v ≠ some n) : st.map (cv (adn ad n a)) = st.map (cv ad) :=
  List.map_congr_left fun q hq => cv_adn (h q hq)
theorem arrV_congr {cA : ClassId} {N : Nat} {f g : Nat → Value} (h : ∀ j, j < N → f j = g j) : arrV cA N f = arrV cA N g := by
  unfold arrV
  congr 1
  congr 1
  funext j
  exact h j.val j.isLt
theorem ms_new {ad : Nat → Nat} {H H1 : Heap} {locs : List Loc} {n : Nat} {c : AC} (C : CX k own cc nL) (hO : okG G) (hM : MS k ad G H locs) (hn : G n = none) (hf : ¬ fgn n) (hnw : knw k n) (hc : nrp1 (kD k) (kdT k) (adn ad n H.size) n c H1) (z : H1.size = H.size + 1) (oq : ∀ a, a < H.size → H1[a]? = H[a]?) : MS k (adn ad n H.size) (gup G n c) H1 locs := by
  obtain ⟨h1, h2, h3, h4, h5, h6⟩ := hM
  have hA : ∀ q, (ks k).heap.size ≤ q → kA k q := C.2.2.2.2.2.2.2.2.2.2.1
  have hlt : ∀ m, G m ≠ none → ad m < H.size := fun m hm => by
    obtain ⟨d, hd⟩ := Option.ne_none_iff_exists'.mp hm
    have := h1 m d hd
    cases d with
    | inl o =>
      obtain ⟨r, -, cell, q1, -⟩ := this
      exact (Array.getElem?_eq_some_iff.mp q1).1
    | inr a => exact (Array.getElem?_eq_some_iff.mp this.2).1
  have hne : ∀ m, G m ≠ none → m ≠ n := fun m hm e => hm (by rw [e]; exact hn)
  have had : ∀ m, m ≠ n → adn ad n H.size m = ad m := fun m hm => by unfold adn; rw [if_neg hm]
  have hself : adn ad n H.size n = H.size := by unfold adn; rw [if_pos rfl]
  have hdom : ∀ m, gup G n c m ≠ none → m = n ∨ (m ≠ n ∧ G m ≠ none) := fun m hm => by
    by_cases e : m = n
    · exact Or.inl e
    · exact Or.inr ⟨e, by rwa [gup_ne e] at hm⟩
  refine ⟨fun m d hm => ?_, fun a b ha hb hab => ?_, fun m hm => ?_, fun m hm => ?_, fun m hm => gup_dom (h5 m hm), ⟨Nat.le_trans h6.1 (by omega), fun a g1 g2 => (oq a (Nat.lt_of_lt_of_le g1 h6.1)).trans (h6.2.1 a g1 g2), h6.2.2⟩⟩
  · by_cases e : m = n
    · subst e
      rw [gup_self] at hm
      cases hm
      exact hc
    · rw [gup_ne e] at hm
      have hmn : G m ≠ none := by rw [hm]; exact fun z => nomatch z
      have hq : H1[ad m]? = H[ad m]? := oq _ (hlt m hmn)
      have h7 := nrp1_kept (h1 m d hm) hq
      have hok := hO.1 m d hm
      cases d with
      | inl o =>
        obtain ⟨r, g1, g2⟩ := h7
        refine ⟨r, g1, ?_⟩
        rw [had m e, cvs_adn (fun v hv => okv_ne (hok v hv) hn hf)]
        exact g2
      | inr a =>
        refine ⟨h7.1, ?_⟩
        rw [had m e, h7.2]
        exact congrArg some (arrV_congr fun j hj => (cv_adn (okv_ne (hok j hj) hn hf)).symm)
  · rcases hdom a ha with rfl | ⟨e1, g1⟩ <;> rcases hdom b hb with rfl | ⟨e2, g2⟩
    · rfl
    · rw [hself, had b e2] at hab
      exact absurd (hab ▸ hlt b g2) (Nat.lt_irrefl _)
    · rw [hself, had a e1] at hab
      exact absurd (hab ▸ hlt a g1) (Nat.lt_irrefl _)
    · rw [had a e1, had b e2] at hab
      exact h2 a b g1 g2 hab
  · rcases hdom m hm with rfl | ⟨e1, g1⟩
    · rw [hself]; exact hA _ h6.1
    · rw [had m e1]; exact h3 m g1
  · rw [had m (fun e => hm (e ▸ hnw))]
    exact h4 m hm
theorem oks_new {n : Nat} {c : AC} (h : OKS G lv st) (hf : ¬ fgn n) (hc : okc G c) : OKS (gup G n c) lv (vR (some n) :: st) :=
  oks_push (fun m hm => by cases hm; exact Or.inl (by rw [gup_self]; exact fun z => nomatch z)) (oks_gup h hf hc)
theorem ev_new {index ci N n : Nat} {fs : List AV} (C : CX k own cc nL) (hd : decode cc pc = .ok (.new index, 3)) (F : NWk own index ci N fs) (hq : pc + 3 = q) (hn : G n = none) (hf : ¬ fgn n) (hnw : knw k n) (hct : ct + 1 ≤ kmc k) (hsl : sl + N ≤ kms k) (hG' : gup G n (.inl (ci, fs)) = G') (kk : EV k q lv (vR (some n) :: st) G' (ct + 1) (sl + N)) : EV k pc lv st G ct sl := by
  subst hq
  subst hG'
  obtain ⟨Cn, T, tyf, f1, f2, f3, f4, f5, f6, f7, f8⟩ := F
  obtain ⟨hx, hb, hml, hown, hts, hlk, htr, hK, hH, hV, hA, hn1, hn2⟩ := id C
  intro hO ad H locs ls hM hl
  have hKn := hK.1 ci _ f1
  have hokc : okc G (.inl (ci, fs)) := fun v hv m hm => by rw [f8 v hv] at hm; cases hm
  refine W.newcK hx hb hown (hts _ f4) (hts _ f5) (hts _ f6) rfl hd hct hsl hKn.2.1 rfl fun H1 kC hkC e1 z1 o1 => ?_
  have hself : adn ad n H.size n = H.size := by unfold adn; rw [if_pos rfl]
  have hM' : MS k (adn ad n H.size) (gup G n (.inl (ci, fs))) H1 locs := ms_new C hO.1 hM hn hf hnw ⟨_, f1, by rw [hself]; exact (u_born tyf hts f2 hKn hkC e1 f3).to (f7 _)⟩ z1 o1
  have h := kk (oks_new hO hf hokc) (adn ad n H.size) H1 locs ls hM' (by rw [cvl_adn (fun a ha => okv_ne (hO.2.1 a ha) hn hf)]; exact hl)
  have e : (vR (some n) :: st).map (cv (adn ad n H.size)) = .ref H.size :: st.map (cv ad) := by
    rw [List.map_cons, cvs_adn (fun v hv => okv_ne (hO.2.2 v hv) hn hf)]
    show Value.ref (adn ad n H.size n) :: _ = _
    rw [hself]
  rw [e] at h
  exact h
theorem ev_newa {atype : ArrayType} {t N n : Nat} {dv : AV} {x : Int} (C : CX k own cc nL) (hd : decode cc pc = .ok (.newarray atype, 2)) (hq : pc + 2 = q) (ht : t < 5) (hty : newarray.typeOf atype = arT t) (hcls : Cond.arrayClass (newarray.typeOf atype) ∈ lw_good) (hdv : ∀ ad, cv ad dv = defaultValue (arT t)) (hdr : rfo dv = none) (hxN : x = (N : Int)) (hN : N ≤ 65536) (hn : G n = none) (hf : ¬ fgn n) (hnw : knw k n) (hct : ct + 1 ≤ kmc k) (hsl : sl + N ≤ kms k) (hG' : gup G n (.inr (t, N, fun _ => dv)) = G') (kk : EV k q lv (vR (some n) :: st) G' (ct + 1) (sl + N)) : EV k pc lv (vI x :: st) G ct sl := by
  subst hq
  subst hG'
  subst hxN
  obtain ⟨hx, hb, hml, hown, hts, hlk, htr, hK, hH, hV, hA, hn1, hn2⟩ := id C
  intro hO ad H locs ls hM hl
  have hr : rg (N : Int) := by unfold rg; omega
  have hra := K_ra C (t := t) (by omega)
  have hokc : okc G (.inr (t, N, fun _ => dv)) := fun j hj m hm => by rw [hdr] at hm; cases hm
  refine va_newaK hx hb (hts _ hcls) rfl hd rfl (n := iI N) (N := N) (fun z => by have := (iI_lt0 hr).mp z; omega) (by rw [iI_nat hr (by omega)]; omega) (by rw [hty]; have : componentBytes (arT t) ≤ 8 := (by match t, ht with | 0, _ => decide | 1, _ => decide | 2, _ => decide | 3, _ => decide | 4, _ => decide); exact Nat.le_trans (Nat.mul_le_mul hN this) (by decide)) hct hsl rfl fun H1 cA e1 z1 o1 hAr hNm => ?_
  rw [hty] at e1 hAr hNm
  have hcA : cA = kdT k t := by
    have h9 : (ks k).vm.findClass ("[" ++ (arT t).toString) = some (kdT k t) := by
      match t, ht with
      | 0, _ => exact hra
      | 1, _ => exact hra
      | 2, _ => exact hra
      | 3, _ => exact hra
      | 4, _ => exact hra
    exact Option.some.inj (hNm.symm.trans h9)
  have hself : adn ad n H.size n = H.size := by unfold adn; rw [if_pos rfl]
  have hM' : MS k (adn ad n H.size) (gup G n (.inr (t, N, fun _ => dv))) H1 locs := ms_new C hO.1 hM hn hf hnw ⟨by show t < 7; omega, by rw [hself, e1, hcA]; exact congrArg some (arrV_congr fun j hj => (hdv _).symm)⟩ z1 o1
  have h := kk (oks_new (oks_pop1 hO) hf hokc) (adn ad n H.size) H1 locs ls hM' (by rw [cvl_adn (fun a ha => okv_ne (hO.2.1 a ha) hn hf)]; exact hl)
  have e : (vR (some n) :: st).map (cv (adn ad n H.size)) = .ref H.size :: st.map (cv ad) := by
    rw [List.map_cons, cvs_adn (fun v hv => okv_ne (hO.2.2 v (List.mem_cons_of_mem _ hv)) hn hf)]
    show Value.ref (adn ad n H.size n) :: _ = _
    rw [hself]
  rw [e] at h
  exact h
theorem ev_anewa {index t N n : Nat} {Cn : String} {x : Int} (C : CX k own cc nL) (hd : decode cc pc = .ok (.anewarray index, 3)) (hq : pc + 3 = q) (ht : t = 5 ∨ t = 6) (hty : arT t = .object Cn) (hlink : Cond.classLink own index Cn ∈ lw_good) (hxN : x = (N : Int)) (hN : N ≤ 65536) (hn : G n = none) (hf : ¬ fgn n) (hnw : knw k n) (hct : ct + 1 ≤ kmc k) (hsl : sl + N ≤ kms k) (hG' : gup G n (.inr (t, N, fun _ => vR none)) = G') (kk : EV k q lv (vR (some n) :: st) G' (ct + 1) (sl + N)) : EV k pc lv (vI x :: st) G ct sl := by
  subst hq
  subst hG'
  subst hxN
  obtain ⟨hx, hb, hml, hown, hts, hlk, htr, hK, hH, hV, hA, hn1, hn2⟩ := id C
  intro hO ad H locs ls hM hl
  have hr : rg (N : Int) := by unfold rg; omega
  have hra := K_ra C (t := t) (by omega)
  rw [hty] at hra
  have hao : va_AO Cn (ks k) := by
    rcases ht with rfl | rfl
    · cases hty; exact hV.2.2.1
    · cases hty; exact hV.2.2.2.1
  have hokc : okc G (.inr (t, N, fun _ => vR none)) := fun j hj m hm => nomatch hm
  have hNN : (iI (N : Int)).toNatClampNeg = N := by rw [iI_nat hr (by omega)]; omega
  refine W.anew hx hb hown (hts _ hlink) (va_AO.use hao) rfl hd rfl (n := iI N) (fun z => by have := (iI_lt0 hr).mp z; omega) (by rw [hNN]; omega) hct (by rw [hNN]; exact hsl) fun cA kA comp f1 f2 f3 f4 => ?_
  rw [hNN]
  generalize hH1 : H.push ({ cls := cA, slots := Array.replicate N .null, vm := .none } : Cell) = H1
  have z1 : H1.size = H.size + 1 := by rw [← hH1, Array.size_push]
  have e1 : H1[H.size]? = some (arrV cA N (fun _ => .null)) := by rw [← hH1, Array.getElem?_push_size, ← arrV_new]
  have o1 : ∀ q : Nat, q < H.size → H1[q]? = H[q]? := fun q hq => by rw [← hH1, Array.getElem?_push, if_neg (Nat.ne_of_lt hq)]
  have hcA : cA = kdT k t := by
    obtain ⟨_, _, _, _, _, h9⟩ := hra
    exact Option.some.inj (f1.symm.trans h9)
  have hself : adn ad n H.size n = H.size := by unfold adn; rw [if_pos rfl]
  have hM' : MS k (adn ad n H.size) (gup G n (.inr (t, N, fun _ => vR none))) H1 locs := ms_new C hO.1 hM hn hf hnw ⟨by show t < 7; omega, by rw [hself, e1, hcA]; rfl⟩ z1 o1
  have h := kk (oks_new (oks_pop1 hO) hf hokc) (adn ad n H.size) H1 locs ls hM' (by rw [cvl_adn (fun a ha => okv_ne (hO.2.1 a ha) hn hf)]; exact hl)
  have e : (vR (some n) :: st).map (cv (adn ad n H.size)) = .ref H.size :: st.map (cv ad) := by
    rw [List.map_cons, cvs_adn (fun v hv => okv_ne (hO.2.2 v (List.mem_cons_of_mem _ hv)) hn hf)]
    show Value.ref (adn ad n H.size n) :: _ = _
    rw [hself]
  rw [e] at h
  exact h
theorem ev_chk {index ci : Nat} {r : Option Nat} {nm : String} {T : u_T} {N : Nat} (C : CX k own cc nL) (hd : decode cc pc = .ok (.checkcast index, 3)) (hq : pc + 3 = q) (hc : vwCl[ci]? = some (nm, T, N)) (hlink : Cond.classLink own index nm ∈ lw_good) (hG : ∀ n, r = some n → ∃ fs, G n = some (.inl (ci, fs))) (kk : EV k q lv (vR r :: st) G ct sl) : EV k pc lv (vR r :: st) G ct sl := by
  subst hq
  obtain ⟨hx, hb, hml, hown, hts, hlk, htr, hK, hH, hV, hA, hn1, hn2⟩ := id C
  intro hO ad H locs ls hM hl
  cases r with
  | none => exact lv_castN hx hb hd (kk hO ad H locs ls hM hl)
  | some n =>
    obtain ⟨fs, hGn⟩ := hG n rfl
    obtain ⟨r', hr', cell, g1, g2, g3, -⟩ := hM.1 n _ hGn
    have hcls := (hK.1 ci _ hc).2
    exact va_castS hx hb hown (hts _ hlink) hcls ⟨cell, g1, by rw [g3]; rfl, by rw [g2]; exact hcls.1⟩ hd (kk hO ad H locs ls hM hl)
theorem ev_objInit {index n : Nat} (C : CX k own cc nL) (hd : decode cc pc = .ok (.invokespecial index, 3)) (hq : pc + 3 = q) (h1 : Cond.methodLink own index Lib.objectInit ∈ lw_good) (h2 : Cond.instanceMethod Lib.objectInit ∈ lw_good) (h3 : Cond.code Lib.objectInit ⟨#[0xb1]⟩ 1 none ∈ lw_good) (hst : st = []) (kk : EV k q lv st G ct sl) : EV k pc lv (vR (some n) :: st) G ct sl := by
  subst hq
  subst hst
  obtain ⟨hx, hb, hml, hown, hts, hlk, htr, hK, hH, hV, hA, hn1, hn2⟩ := id C
  intro hO ad H locs ls hM hl
  refine W.objInit hx hb hown (hts _ h1) (hts _ h2) (hts _ h3) rfl hl.1 rfl hd (by show 1 ≤ 20 + 2 * _; omega) ?_ (kk (oks_pop1 hO) ad H locs ls hM hl)
  show 2 * 0 + 0 + 12 ≤ 300 + 60 * klev k
  omega
-- ends
theorem fn_of {ad : Nat → Nat} {H : Heap} {locs : List Loc} {t : State} (hO : okG G) (hM : MS k ad G H locs) (ht : t.heap = H) : FN (kD k) (kdT k) (kad k) (knw k) (kG k) (kA k) G ad (ks k) t :=
  ⟨hO, by rw [ht]; exact hM.1, hM.2.1, hM.2.2.1, hM.2.2.2.1, hM.2.2.2.2.1, hM.2.2.2.2.2.F ht⟩
theorem ev_iret {x : Int} (C : CX k own cc nL) (hr : (kmeth k).sig.returnType = some .int) (hd : decode cc pc = .ok (.ireturn, 1)) (hct : ct ≤ kmc k) (hsl : sl ≤ kms k) (hP : kPo k (some (vI x)) G) : EV k pc lv [vI x] G ct sl := by
  intro hO ad H locs ls hM hl
  have hlk := C.2.2.2.2.2.1
  refine W.widen hct hsl (vx_ret ?_)
  exact W.iret (v := iI x) C.1 C.2.1 hr (fun t ht hW => ⟨some (vI x), G, ad, rfl, hP, fun v hv => by cases hv; exact okv_I _, fn_of hO.1 hM ht⟩) hM.2.2.2.2.2.2.2 hd
theorem ev_zret {x : Int} {ty : FieldType} (C : CX k own cc nL) (hr : (kmeth k).sig.returnType = some ty) (hf : fitA ty (vI x)) (hd : decode cc pc = .ok (.ireturn, 1)) (hct : ct ≤ kmc k) (hsl : sl ≤ kms k) (hP : kPo k (some (vI x)) G) : EV k pc lv [vI x] G ct sl := by
  intro hO ad H locs ls hM hl
  have hlk := C.2.2.2.2.2.1
  refine W.widen hct hsl (vx_ret ?_)
  exact W.zret (v := iI x) C.1 C.2.1 hr (hf ad).1 (fun t ht hW => ⟨some (vI x), G, ad, rfl, hP, fun v hv => by cases hv; exact okv_I _, fn_of hO.1 hM ht⟩) hM.2.2.2.2.2.2.2 hd
theorem ev_lret {x : Int} (C : CX k own cc nL) (hr : (kmeth k).sig.returnType = some .long) (hd : decode cc pc = .ok (.lreturn, 1)) (hct : ct ≤ kmc k) (hsl : sl ≤ kms k) (hP : kPo k (some (vL x)) G) : EV k pc lv [vL x] G ct sl := by
  intro hO ad H locs ls hM hl
  have hlk := C.2.2.2.2.2.1
  refine W.widen hct hsl (vx_ret ?_)
  exact W.lret (v := iL x) C.1 C.2.1 hr (fun t ht hW => ⟨some (vL x), G, ad, rfl, hP, fun v hv => by cases hv; exact okv_L _, fn_of hO.1 hM ht⟩) hM.2.2.2.2.2.2.2 hd
theorem ev_fret {x : UInt32} (C : CX k own cc nL) (hr : (kmeth k).sig.returnType = some .float) (hd : decode cc pc = .ok (.freturn, 1)) (hct : ct ≤ kmc k) (hsl : sl ≤ kms k) (hP : kPo k (some (vF x)) G) : EV k pc lv [vF x] G ct sl := by
  intro hO ad H locs ls hM hl
  have hlk := C.2.2.2.2.2.1
  refine W.widen hct hsl (vx_ret ?_)
  exact W.fret (v := x) C.1 C.2.1 hr (fun t ht hW => ⟨some (vF x), G, ad, rfl, hP, fun v hv => by cases hv; exact okv_F _, fn_of hO.1 hM ht⟩) hM.2.2.2.2.2.2.2 hd
theorem ev_dret {x : UInt64} (C : CX k own cc nL) (hr : (kmeth k).sig.returnType = some .double) (hd : decode cc pc = .ok (.dreturn, 1)) (hct : ct ≤ kmc k) (hsl : sl ≤ kms k) (hP : kPo k (some (vD x)) G) : EV k pc lv [vD x] G ct sl := by
  intro hO ad H locs ls hM hl
  have hlk := C.2.2.2.2.2.1
  refine W.widen hct hsl (vx_ret ?_)
  exact W.dret (v := x) C.1 C.2.1 hr (fun t ht hW => ⟨some (vD x), G, ad, rfl, hP, fun v hv => by cases hv; exact okv_D _, fn_of hO.1 hM ht⟩) hM.2.2.2.2.2.2.2 hd
theorem ev_aret {r : Option Nat} {rt : FieldType} (C : CX k own cc nL) (hr : (kmeth k).sig.returnType = some rt) (hrt : (∃ n, rt = .object n) ∨ ∃ t, rt = .array t) (hd : decode cc pc = .ok (.areturn, 1)) (hct : ct ≤ kmc k) (hsl : sl ≤ kms k) (hP : kPo k (some (vR r)) G) : EV k pc lv [vR r] G ct sl := by
  intro hO ad H locs ls hM hl
  have hlk := C.2.2.2.2.2.1
  refine W.widen hct hsl (vx_ret ?_)
  exact W.aret (v := cv ad (vR r)) C.1 C.2.1 hr hrt (by cases r with | none => exact Or.inl rfl | some a => exact Or.inr ⟨_, rfl⟩) (fun t ht hW => ⟨some (vR r), G, ad, rfl, hP, fun v hv => by cases hv; exact hO.2.2 _ List.mem_cons_self, fn_of hO.1 hM ht⟩) hM.2.2.2.2.2.2.2 hd
theorem ev_vret (C : CX k own cc nL) (hr : (kmeth k).sig.returnType = none) (hd : decode cc pc = .ok (.return_, 1)) (hct : ct ≤ kmc k) (hsl : sl ≤ kms k) (hP : kPo k none G) : EV k pc lv [] G ct sl := by
  intro hO ad H locs ls hM hl
  have hlk := C.2.2.2.2.2.1
  refine W.widen hct hsl (vx_ret ?_)
  exact W.vret C.1 C.2.1 hr (fun t ht hW => ⟨none, G, ad, rfl, hP, (fun v hv => by cases hv), fn_of hO.1 hM ht⟩) hM.2.2.2.2.2.2.2 hd
end MK
end
section
/-! CALLS, THROWS, HANDLERS -/
section CA
variable {k : Kx} {own : String} {cc : ByteArray} {nL : Nat} {pc q tgt : Nat} {lv lv' : List (Nat × AV)} {st st' : List AV} {G G' : GH} {ct sl : Nat}
def nov (nw : Nat → Prop) (v : AV) : Prop := ∀ n, rfo v = some n → ¬ nw n
theorem cv_nov {ad ad' : Nat → Nat} {nw : Nat → Prop} {v : AV} (h : nov nw v) (he : ∀ n, ¬ nw n → ad' n = ad n) : cv ad' v = cv ad v := by
  rcases v with x | (_ | r) | x | x | x
  · rfl
  · rfl
  · exact congrArg Value.ref (he r (h r rfl))
  · rfl
  · rfl
  · rfl
theorem gA_kA {ad : Nat → Nat} {H : Heap} {locs : List Loc} (C : CX k own cc nL) (hM : MS k ad G H locs) : ∀ q, gA ad G H.size q → kA k q := fun q h => by
  rcases h with ⟨n, hn, rfl⟩ | h
  · exact hM.2.2.1 n hn
  · exact C.2.2.2.2.2.2.2.2.2.2.1 q (Nat.le_trans hM.2.2.2.2.2.1 h)
theorem ms_fn {ad ad' : Nat → Nat} {H : Heap} {locs L : List Loc} {nwc : Nat → Prop} {st₀ t T' : State} (C : CX k own cc nL) (hM : MS k ad G H locs) (hn : ∀ n, nwc n → knw k n) (h0 : st₀.heap = H) (e1 : T'.heap = t.heap) (hL : ∀ z ∈ L, gA ad G H.size z.base) (hF : FN (kD k) (kdT k) ad nwc G (gA ad G H.size) G' ad' st₀ t) : MS k ad' G' T'.heap (locs ++ L) := by
  obtain ⟨f1, f2, f3, f4, f5, f6, f7⟩ := hF
  obtain ⟨-, -, h3⟩ := vx_keep h0 e1 hM.2.2.2.2.2 (fun q _ h => gA_kA C hM q h) (gA_kA C hM) hL f7
  exact ⟨by rw [e1]; exact f2, f3, fun n hn => gA_kA C hM _ (f4 n hn), fun n h => (f5 n (fun z => h (hn n z))).trans (hM.2.2.2.1 n h), fun n h => f6 n (hM.2.2.2.2.1 n h), h3⟩
theorem okv_dom {v : AV} (h : okv G v) (hd : ∀ n, G n ≠ none → G' n ≠ none) : okv G' v := fun n hn => (h n hn).imp (hd n) id
theorem ev_fin {ad : Nat → Nat} {H : Heap} {locs : List Loc} {ls : Array Slot} {mc ms : Nat} {nwc : Nat → Prop} {Po : Option AV → GH → Prop} {Px : String → GH → Prop} {aa : Array Value} {st0 : List Value} (C : CX k own cc nL) (hO : OKS G lv st) (hM : MS k ad G H locs) (hl : lv_has ls (kc k).maxLocals (cvl ad lv))
    (hr : vx_Run (kp k) (kl k) (ke k) (kR k) (ks k) (km k) (ka k) (kb k) (kmeth k) (kc k) H locs ct sl mc ms (F0 (km k) pc ls st0) (st.map (cv ad)) (QN (kD k) (kdT k) ad nwc G (gA ad G H.size) Po aa) (XN (kD k) (kdT k) ad nwc G (gA ad G H.size) Px) (gA ad G H.size))
    (hn : ∀ n, nwc n → knw k n) (hv1 : ∀ a ∈ lv, nov nwc a.2) (hv2 : ∀ v ∈ st, nov nwc v)
    (kx : ∀ E G', Px E G' → EX k E pc lv G' (ct + mc) (sl + ms)) (kk : ∀ r G', Po r G' → EV k (pc + 3) lv (r.toList ++ st) G' (ct + mc) (sl + ms)) : WK k H locs ct sl pc ls st0 := by
  intro T hT X
  rcases hr T hT X with ⟨v, st₀, t, T', L, h0, X', hL, e1, e2, ⟨r, G', ad', hv, hP, hro, hF⟩, go⟩ | ⟨qx, st₀, t, T', L, E, ce, h0, X', hL, e1, e2, ⟨G', ad', hP, hF⟩, hce, hcv, hcl, go⟩
  · cases hv
    have hM' := ms_fn C hM hn h0 e1 hL hF
    have hlv : cvl ad' lv = cvl ad lv := List.map_congr_left fun a ha => by rw [cv_nov (hv1 a ha) hF.2.2.2.2.1]
    have hst : ∀ w : List AV, (∀ v ∈ w, nov nwc v) → w.map (cv ad') = w.map (cv ad) := fun w hw => List.map_congr_left fun a ha => cv_nov (hw a ha) hF.2.2.2.2.1
    obtain ⟨t2, a1, b1⟩ := kk r G' hP ⟨hF.1, fun a ha => okv_dom (hO.2.1 a ha) hF.2.2.2.2.2.1, fun v hv => by
      rcases List.mem_append.mp hv with hv | hv
      · exact hro v (by cases r with | none => cases hv | some w => exact (List.mem_singleton.mp hv) ▸ rfl)
      · exact okv_dom (hO.2.2 v hv) hF.2.2.2.2.2.1⟩ ad' T'.heap (locs ++ L) ls hM' (by rw [hlv]; exact hl) T' rfl X'
    refine ⟨t2, go t2 ?_, b1⟩
    have e : (r.toList ++ st).map (cv ad') = (r.map (cv ad')).toList ++ st.map (cv ad) := by rw [List.map_append, hst _ hv2]; cases r <;> rfl
    rw [e] at a1
    exact a1
  · have hM' := ms_fn C hM hn h0 e1 hL hF
    have hlv : cvl ad' lv = cvl ad lv := List.map_congr_left fun a ha => by rw [cv_nov (hv1 a ha) hF.2.2.2.2.1]
    obtain ⟨t2, a1, b1⟩ := kx E G' hP ⟨hF.1, fun a ha => okv_dom (hO.2.1 a ha) hF.2.2.2.2.2.1, fun v hv => nomatch hv⟩ ad' T'.heap (locs ++ L) ls _ qx ce hM' (by rw [hlv]; exact hl) (by rw [e1]; exact hce) hcv hcl T' rfl X'
    exact ⟨t2, go.trans a1, b1⟩
theorem pn_of {ad : Nat → Nat} {H : Heap} {locs : List Loc} {av : List AV} (C : CX k own cc nL) (hO : okG G) (hav : ∀ v ∈ av, okv G v) (hM : MS k ad G H locs) (U : State) (hU : U.heap = H) (hW : (ks k).WarmedH U.vm) : PN (kD k) (kdT k) ad G av H.size (av.map (cv ad)).toArray U := by
  obtain ⟨hx, hb, hml, hown, hts, hlk, htr, hK, hH, hV, hA, hn1, hn2⟩ := id C
  have h13 : ad 1013 = kad k 1013 := hM.2.2.2.1 1013 hn1
  refine ⟨rfl, by rw [hU], hO, hav, by rw [hU]; exact hM.1, hM.2.1, va_K.moved hW.alike hK, ?_, hV.warm hW⟩
  rw [hU]
  exact (((hH.kept hM.2.2.2.2.2.2.1).narrow (gA_kA C hM)).moved hW.alike).ad h13
theorem wsy_good {y : MethodName} {bytes : ByteArray} {maxL : Nat} {ret : Option FieldType} (hc : Cond.code y bytes maxL ret ∈ lw_good) : GoodIn lw_good (wsy y bytes maxL ret) := fun w hw => (List.mem_cons.mp hw).elim (fun e => e ▸ lw_goodIn _ hc) (lw_goodIn w)
theorem cb_of {y : MethodName} {bytes : ByteArray} {maxL lev mc ms index na : Nat} {ret : Option FieldType} (C : CX k own cc nL) (M : MLk own index y na) (hc : Cond.code y bytes maxL ret ∈ lw_good) (hlev : lev < klev k) (hml : maxL ≤ 41) : CallB (kR k) (ks k) (ka k) own index y bytes maxL ret (wsy y bytes maxL ret) (rmk lev mc ms) mc ms na :=
  callB_of na C.2.2.2.2.1 (wsy_good hc) rfl rfl rfl (C.2.2.2.2.1 _ M.2.1) (C.2.2.2.2.1 _ M.1) M.2.2 ⟨by show 20 + 2 * lev + 1 ≤ 20 + 2 * klev k; omega, by show 8 + (maxL + 11) + (300 + 60 * lev) ≤ 300 + 60 * klev k; omega⟩
def wdt (st : List AV) : Nat := (st.map (fun v => if c2 v then 2 else 1)).sum
theorem wdt_ok {ad : Nat → Nat} (h : wdt st ≤ 8) : ((st.map (cv ad)).map fun v => v.category).sum ≤ 8 := by
  unfold wdt at h
  rw [List.map_map]
  have e : (fun v => v.category) ∘ cv ad = fun v => if c2 v then 2 else 1 := by funext v; exact cv_cat ad v
  rw [e]
  exact h
theorem ev_callV {y : MethodName} {bytes : ByteArray} {maxL lev mc ms index na n ci : Nat} {ret : Option FieldType} {nwc : Nat → Prop} {As : List AV} {Po : Option AV → GH → Prop} {Px : String → GH → Prop} {fs : List AV} {T : u_T} {N : Nat} {st0 : List AV} (C : CX k own cc nL) (hd : decode cc pc = .ok (.invokevirtual index, 3)) (hq : pc + 3 = q)
    (Mk : MLk own index y na) (Mv : MLv y) (hcode : Cond.code y bytes maxL ret ∈ lw_good) (M : Con y (wsy y bytes maxL ret) lev mc ms nwc (vR (some n) :: As) G Po Px) (hst : st0 = As.reverse ++ vR (some n) :: st) (hna : As.length = na) (hci : vwCl[ci]? = some (y.cls, T, N)) (hG : G n = some (.inl (ci, fs)))
    (hlev : lev < klev k) (hml : maxL ≤ 41) (hw : wdt st ≤ 8) (hct : ct + mc ≤ kmc k) (hsl : sl + ms ≤ kms k) (hn : ∀ m, nwc m → knw k m) (hv1 : ∀ a ∈ lv, nov nwc a.2) (hv2 : ∀ v ∈ st, nov nwc v)
    (kx : ∀ E G', Px E G' → EX k E pc lv G' (ct + mc) (sl + ms)) (kk : ∀ r G', Po r G' → EV k q lv (r.toList ++ st) G' (ct + mc) (sl + ms)) : EV k pc lv st0 G ct sl := by
  subst hq
  subst hst
  intro hO ad H locs ls hM hl
  have hav : ∀ v ∈ vR (some n) :: As, okv G v := fun v hv => hO.2.2 v (by
    rcases List.mem_cons.mp hv with rfl | hv
    · exact List.mem_append_right _ List.mem_cons_self
    · exact List.mem_append_left _ (List.mem_reverse.mpr hv))
  obtain ⟨r', hr', cell, g1, g2, g3, -⟩ := hM.1 n _ hG
  have hcls := (C.2.2.2.2.2.2.2.1.1 ci _ hci).2
  have hlo : OKS G lv st := ⟨hO.1, hO.2.1, fun v hv => hO.2.2 v (List.mem_append_right _ (List.mem_cons_of_mem _ hv))⟩
  refine ev_fin C hlo hM hl (vx_runV (As := As.map (cv ad)) ⟨C.1, C.2.1, C.2.2.1, C.2.2.2.1, C.2.2.2.2.1⟩ (M (kl k) (kD k) (kdT k) ad H.size C.2.2.2.2.2.2.1) ⟨cb_of C Mk hcode hlev hml, C.2.2.2.2.1 _ Mv.1, C.2.2.2.2.1 _ Mv.2⟩ ⟨PN.blind, ⟨cell, g1, by rw [g3]; rfl, by rw [g2]; exact hcls.1⟩, fun U hU hW => pn_of C hO.1 hav hM U hU hW⟩ rfl (by rw [List.length_map]; exact hna) (hl.1.trans C.2.2.1) (by rw [List.map_append, List.map_reverse]; rfl) (lv_room (wdt_ok hw)) hd ⟨hct, hsl⟩) hn hv1 hv2 kx kk
theorem ev_callS {y : MethodName} {bytes : ByteArray} {maxL lev mc ms index na : Nat} {ret : Option FieldType} {nwc : Nat → Prop} {As : List AV} {Po : Option AV → GH → Prop} {Px : String → GH → Prop} {st0 : List AV} (C : CX k own cc nL) (hd : decode cc pc = .ok (.invokestatic index, 3)) (hq : pc + 3 = q)
    (Mk : MLk own index y na) (Ms : Cond.static y ∈ lw_good) (hcode : Cond.code y bytes maxL ret ∈ lw_good) (M : Con y (wsy y bytes maxL ret) lev mc ms nwc As G Po Px) (hst : st0 = As.reverse ++ st) (hna : As.length = na)
    (hlev : lev < klev k) (hml : maxL ≤ 41) (hw : wdt st ≤ 8) (hct : ct + mc ≤ kmc k) (hsl : sl + ms ≤ kms k) (hn : ∀ m, nwc m → knw k m) (hv1 : ∀ a ∈ lv, nov nwc a.2) (hv2 : ∀ v ∈ st, nov nwc v)
    (kx : ∀ E G', Px E G' → EX k E pc lv G' (ct + mc) (sl + ms)) (kk : ∀ r G', Po r G' → EV k q lv (r.toList ++ st) G' (ct + mc) (sl + ms)) : EV k pc lv st0 G ct sl := by
  subst hq
  subst hst
  intro hO ad H locs ls hM hl
  have hav : ∀ v ∈ As, okv G v := fun v hv => hO.2.2 v (List.mem_append_left _ (List.mem_reverse.mpr hv))
  have hlo : OKS G lv st := ⟨hO.1, hO.2.1, fun v hv => hO.2.2 v (List.mem_append_right _ hv)⟩
  refine ev_fin C hlo hM hl (vx_runS (As := As.map (cv ad)) ⟨C.1, C.2.1, C.2.2.1, C.2.2.2.1, C.2.2.2.2.1⟩ (M (kl k) (kD k) (kdT k) ad H.size C.2.2.2.2.2.2.1) ⟨cb_of C Mk hcode hlev hml, C.2.2.2.2.1 _ Ms⟩ ⟨PN.blind, fun U hU hW => pn_of C hO.1 hav hM U hU hW⟩ rfl (by rw [List.length_map]; exact hna) (hl.1.trans C.2.2.1) (by rw [List.map_append, List.map_reverse]) (lv_room (wdt_ok hw)) hd ⟨hct, hsl⟩) hn hv1 hv2 kx kk
/-- a static call of a method with handlers -/
theorem ev_callH {y : MethodName} {bytes : ByteArray} {maxL lev mc ms index na : Nat} {ret : Option FieldType} {hh : List (Nat × Nat × Nat × Nat)} {nwc : Nat → Prop} {As : List AV} {Po : Option AV → GH → Prop} {Px : String → GH → Prop} {st0 : List AV} (C : CX k own cc nL) (hd : decode cc pc = .ok (.invokestatic index, 3)) (hq : pc + 3 = q)
    (Mk : MLk own index y na) (Ms : Cond.static y ∈ lw_good) (hcode : Cond.codeWith y bytes maxL ret hh ∈ lw_good) (M : Con y (wsh y bytes maxL ret hh) lev mc ms nwc As G Po Px) (hst : st0 = As.reverse ++ st) (hna : As.length = na)
    (hlev : lev < klev k) (hml : maxL ≤ 41) (hw : wdt st ≤ 8) (hct : ct + mc ≤ kmc k) (hsl : sl + ms ≤ kms k) (hn : ∀ m, nwc m → knw k m) (hv1 : ∀ a ∈ lv, nov nwc a.2) (hv2 : ∀ v ∈ st, nov nwc v)
    (kx : ∀ E G', Px E G' → EX k E pc lv G' (ct + mc) (sl + ms)) (kk : ∀ r G', Po r G' → EV k q lv (r.toList ++ st) G' (ct + mc) (sl + ms)) : EV k pc lv st0 G ct sl := by
  subst hq
  subst hst
  intro hO ad H locs ls hM hl
  have hav : ∀ v ∈ As, okv G v := fun v hv => hO.2.2 v (List.mem_append_left _ (List.mem_reverse.mpr hv))
  have hlo : OKS G lv st := ⟨hO.1, hO.2.1, fun v hv => hO.2.2 v (List.mem_append_right _ hv)⟩
  have hgd : GoodIn lw_good (wsh y bytes maxL ret hh) := fun w hw => (List.mem_cons.mp hw).elim (fun e => e ▸ lw_goodIn _ hcode) (lw_goodIn w)
  refine ev_fin C hlo hM hl (vx_runSX (hh := hh) (As := As.map (cv ad)) (n := na) ⟨C.1, C.2.1, C.2.2.1, C.2.2.2.1, C.2.2.2.2.1⟩ (M (kl k) (kD k) (kdT k) ad H.size C.2.2.2.2.2.2.1)
    ⟨⟨rfl, rfl, by show 20 + 2 * lev + 1 ≤ 20 + 2 * klev k; omega, by show 8 + (maxL + 11) + (300 + 60 * lev) ≤ 300 + 60 * klev k; omega, pay_in C.2.2.2.2.1 hgd, List.mem_cons_self⟩, C.2.2.2.2.1 _ hcode, C.2.2.2.2.1 _ Mk.2.1, ⟨Mk.2.2.1, Mk.2.2.2.1⟩, fun sig h => by have h2 := Mk.2.2.2.2; rw [h] at h2; exact (Option.some.inj h2).symm, C.2.2.2.2.1 _ Mk.1, C.2.2.2.2.1 _ Ms⟩
    ⟨PN.blind, fun U hU hW => pn_of C hO.1 hav hM U hU hW⟩ rfl (by rw [List.length_map]; exact hna) (hl.1.trans C.2.2.1) (by rw [List.map_append, List.map_reverse]) (lv_room (wdt_ok hw)) hd ⟨hct, hsl⟩) hn hv1 hv2 kx kk
theorem met_of_vx {l : Launch} {y : MethodName} {ws : List Cond} {rm : Room} {Pc : Array Value → State → Prop} {Qc : Array Value → State → Outcome → State → Prop} {XC : String → State → State → Prop} {mc ms : Nat} {free : Addr → Prop} (hX : ∀ E st t, ¬ XC E st t) (h : vx_Met l y ws rm Pc Qc XC mc ms free) : Met l y ws rm Pc Qc mc ms free := by
  intro p e ha hc hk s m args below hf happ hP hK
  obtain ⟨n, o, h1, h2, h3, h4⟩ := h p e ha hc hk s m args below hf happ hP hK
  rcases h4 with ⟨a, b⟩ | ⟨q, rfl, E, ce, L, hx, -⟩
  · exact ⟨n, o, h1, h2, h3, a, b⟩
  · exact absurd hx (hX _ _ _)
theorem run_of {p : Program} {l : Launch} {e : Env} {R : Room} {s : State} {m : MethodId} {args : Array Value} {below : List Frame} {meth : Method} {c : Code} {H : Heap} {locs : List Loc} {cells slots mc ms : Nat} {g : JFrame} {rest : List Value} {Qa : State → Outcome → State → Prop} {XC : String → State → State → Prop} {free : Addr → Prop} (h : va_Run p l e R s m args below meth c H locs cells slots mc ms g rest Qa free) : vx_Run p l e R s m args below meth c H locs cells slots mc ms g rest Qa XC free :=
  fun T hT X => Or.inl (h T hT X)
/-- a constructor -/
theorem ev_callI {y : MethodName} {bytes : ByteArray} {maxL lev mc ms index na n : Nat} {nwc : Nat → Prop} {As : List AV} {Po : Option AV → GH → Prop} {st0 : List AV} (C : CX k own cc nL) (hd : decode cc pc = .ok (.invokespecial index, 3)) (hq : pc + 3 = q)
    (Mk : MLk own index y na) (Mi : Cond.instanceMethod y ∈ lw_good ∧ y.name = "<init>") (hcode : Cond.code y bytes maxL none ∈ lw_good) (M : Con y (wsy y bytes maxL none) lev mc ms nwc (vR (some n) :: As) G Po (fun _ _ => False)) (hst : st0 = As.reverse ++ vR (some n) :: st) (hna : As.length = na)
    (hlev : lev < klev k) (hml : maxL ≤ 41) (hw : wdt st ≤ 8) (hct : ct + mc ≤ kmc k) (hsl : sl + ms ≤ kms k) (hn : ∀ m, nwc m → knw k m) (hv1 : ∀ a ∈ lv, nov nwc a.2) (hv2 : ∀ v ∈ st, nov nwc v)
    (kk : ∀ r G', Po r G' → EV k q lv (r.toList ++ st) G' (ct + mc) (sl + ms)) : EV k pc lv st0 G ct sl := by
  subst hq
  subst hst
  intro hO ad H locs ls hM hl
  have hav : ∀ v ∈ vR (some n) :: As, okv G v := fun v hv => hO.2.2 v (by
    rcases List.mem_cons.mp hv with rfl | hv
    · exact List.mem_append_right _ List.mem_cons_self
    · exact List.mem_append_left _ (List.mem_reverse.mpr hv))
  have hlo : OKS G lv st := ⟨hO.1, hO.2.1, fun v hv => hO.2.2 v (List.mem_append_right _ (List.mem_cons_of_mem _ hv))⟩
  refine ev_fin (Px := fun _ _ => False) C hlo hM hl (run_of (va_runI (As := As.map (cv ad)) ⟨C.1, C.2.1, C.2.2.1, C.2.2.2.1, C.2.2.2.2.1⟩ (met_of_vx (fun E st t h => by obtain ⟨_, _, h, -⟩ := h; exact h) (M (kl k) (kD k) (kdT k) ad H.size C.2.2.2.2.2.2.1)) ⟨cb_of C Mk hcode hlev hml, Mi.2, C.2.2.2.2.1 _ Mi.1⟩ ⟨PN.blind, fun U hU hW => pn_of C hO.1 hav hM U hU hW⟩ rfl (by rw [List.length_map]; exact hna) (hl.1.trans C.2.2.1) (by rw [List.map_append, List.map_reverse]; rfl) (lv_room (wdt_ok hw)) hd ⟨hct, hsl⟩)) hn hv1 hv2 (fun _ _ h => h.elim) kk
/-- a nest mate's private constructor -/
theorem ev_callIN {y : MethodName} {host : String} {bytes : ByteArray} {maxL lev mc ms index na n : Nat} {nwc : Nat → Prop} {As : List AV} {Po : Option AV → GH → Prop} {st0 : List AV} (C : CX k "Swapyard" cc nL) (hd : decode cc pc = .ok (.invokespecial index, 3)) (hq : pc + 3 = q)
    (Mn : (index, y, host) ∈ nst0) (Mk : Cond.initialized y.cls ∈ lw_good ∧ (y.cls ≠ "java/lang/invoke/MethodHandle" ∧ y.cls ≠ "java/lang/invoke/VarHandle" ∧ (parseMethodDescriptor y.desc).map (fun d => d.parameters.length) = some na)) (Mi : Cond.instanceMethod y ∈ lw_good ∧ y.name = "<init>") (hcode : Cond.code y bytes maxL none ∈ lw_good) (M : Con y (wsy y bytes maxL none) lev mc ms nwc (vR (some n) :: As) G Po (fun _ _ => False)) (hst : st0 = As.reverse ++ vR (some n) :: st) (hna : As.length = na)
    (hlev : lev < klev k) (hml : maxL ≤ 41) (hw : wdt st ≤ 8) (hct : ct + mc ≤ kmc k) (hsl : sl + ms ≤ kms k) (hn : ∀ m, nwc m → knw k m) (hv1 : ∀ a ∈ lv, nov nwc a.2) (hv2 : ∀ v ∈ st, nov nwc v)
    (kk : ∀ r G', Po r G' → EV k q lv (r.toList ++ st) G' (ct + mc) (sl + ms)) : EV k pc lv st0 G ct sl := by
  subst hq
  subst hst
  intro hO ad H locs ls hM hl
  have hav : ∀ v ∈ vR (some n) :: As, okv G v := fun v hv => hO.2.2 v (by
    rcases List.mem_cons.mp hv with rfl | hv
    · exact List.mem_append_right _ List.mem_cons_self
    · exact List.mem_append_left _ (List.mem_reverse.mpr hv))
  have hlo : OKS G lv st := ⟨hO.1, hO.2.1, fun v hv => hO.2.2 v (List.mem_append_right _ (List.mem_cons_of_mem _ hv))⟩
  have hV : VF strl0 nst0 (ks k) := C.2.2.2.2.2.2.2.2.2.1
  refine ev_fin (Px := fun _ _ => False) C hlo hM hl (run_of (va_runIN (host := host) (As := As.map (cv ad)) ⟨C.1, C.2.1, C.2.2.1, C.2.2.2.1, C.2.2.2.2.1⟩ (met_of_vx (fun E st t h => by obtain ⟨_, _, h, -⟩ := h; exact h) (M (kl k) (kD k) (kdT k) ad H.size C.2.2.2.2.2.2.1))
    ⟨va_cnB na C.2.2.2.2.1 (wsy_good hcode) rfl rfl rfl (hV.2.2.2.2.2.2.2.1 _ Mn) (C.2.2.2.2.1 _ Mk.1) Mk.2 ⟨by show 20 + 2 * lev + 1 ≤ 20 + 2 * klev k; omega, by show 8 + (maxL + 11) + (300 + 60 * lev) ≤ 300 + 60 * klev k; omega⟩, Mi.2, C.2.2.2.2.1 _ Mi.1⟩ ⟨PN.blind, fun U hU hW => pn_of C hO.1 hav hM U hU hW⟩ rfl (by rw [List.length_map]; exact hna) (hl.1.trans C.2.2.1) (by rw [List.map_append, List.map_reverse]; rfl) (lv_room (wdt_ok hw)) hd ⟨hct, hsl⟩)) hn hv1 hv2 (fun _ _ h => h.elim) kk
-- throws
theorem rtx_fit : ∀ n ∈ rtx, Bundle.fit n = true := by decide
theorem wdt_cat {ad : Nat → Nat} : ((st.map (cv ad)).map fun v => v.category).sum = wdt st := by
  unfold wdt
  rw [List.map_map]
  have e : (fun v => v.category) ∘ cv ad = fun v => if c2 v then 2 else 1 := by funext v; exact cv_cat ad v
  rw [e]
theorem xn_of {ad : Nat → Nat} {H : Heap} {locs : List Loc} {cls : String} {t : State} (hO : okG G) (hM : MS k ad G H locs) (hP : kPx k cls G) (h1 : H.size ≤ t.heap.size) (h2 : ∀ q : Nat, q < H.size → t.heap[q]? = H[q]?) : XN (kD k) (kdT k) (kad k) (knw k) (kG k) (kA k) (kPx k) cls (ks k) t := by
  refine ⟨G, ad, hP, hO, fun m d hm => ?_, hM.2.1, hM.2.2.1, hM.2.2.2.1, hM.2.2.2.2.1, ⟨Nat.le_trans hM.2.2.2.2.2.1 h1, fun q g1 g2 => (h2 q (Nat.lt_of_lt_of_le g1 hM.2.2.2.2.2.1)).trans (hM.2.2.2.2.2.2.1 q g1 g2)⟩⟩
  have h := hM.1 m d hm
  refine nrp1_kept h (h2 _ ?_)
  cases d with
  | inl o =>
    obtain ⟨r, -, cell, q1, -⟩ := h
    exact (Array.getElem?_eq_some_iff.mp q1).1
  | inr a => exact (Array.getElem?_eq_some_iff.mp h.2).1
theorem ev_throw {ik is ic : Nat} {cls text : String} (C : CX k "Swapyard" cc nL) (htab : ∀ x ∈ (kc k).exceptionTable.toList, False) (M : TLk ik ic cls) (hstr : (is, text) ∈ strl0) (d0 : decode cc pc = .ok (.new ik, 3)) (d3 : decode cc (pc + 3) = .ok (.dup, 1)) (d4 : decode cc (pc + 4) = .ok (.ldc is, 2)) (d6 : decode cc (pc + 6) = .ok (.invokespecial ic, 3)) (d9 : decode cc (pc + 9) = .ok (.athrow, 1))
    (hw : wdt st ≤ 8) (hct : ct + 1 ≤ kmc k) (hsl : sl + 6 ≤ kms k) (hP : kPx k cls G) : EV k pc lv st G ct sl := by
  obtain ⟨hx, hb, hml, hown, hts, hlk, htr, hK, hH, hV, hA, hn1, hn2⟩ := id C
  obtain ⟨m1, m2, m3, m4, m5, m6, m7⟩ := M
  intro hO ad H locs ls hM hl
  obtain ⟨sa, hsa⟩ := hV.2.2.2.2.2.2.1 _ hstr
  exact vx_throwS hx hb htr hown m1 rtx_fit (hts _ m2) (hts _ m3) hsa (vx_hat (fun w hw => hts _ (m5 w hw)) m6 (vx_c (va_Nw.use rfl (hV.1 _ m4)) (fun w hw => by obtain ⟨y, hy, rfl⟩ := List.mem_map.mp hw; exact va_Nw.use rfl (hV.2.2.2.2.2.2.2.2 y hy)))) m7 hH.1 hH.2.1 hM.2.2.2.2.2 hl.1 d0 d3 d4 d6 d9 (fun x hx => (htab x hx).elim)
    (by show 2 + 3 < 20 + 2 * klev k; omega) (by rw [wdt_cat]; show wdt st + (13 * (2 + 1) + 43) ≤ 300 + 60 * klev k; omega) hct hsl hlk (fun t _ h1 h2 => xn_of hO.1 hM hP h1 h2) hM.2.2.2.2.2.2.2 hct hsl
theorem ev_throwW {ik is ic : Nat} {cls text : String} (C : CX k "Swapyard" cc nL) (htab : ∀ x ∈ (kc k).exceptionTable.toList, False) (M : TLk ik ic cls) (hstr : (is, text) ∈ strl0) (d0 : decode cc pc = .ok (.new ik, 3)) (d3 : decode cc (pc + 3) = .ok (.dup, 1)) (d4 : decode cc (pc + 4) = .ok (.ldc_w is, 3)) (d7 : decode cc (pc + 7) = .ok (.invokespecial ic, 3)) (d10 : decode cc (pc + 10) = .ok (.athrow, 1))
    (hw : wdt st ≤ 8) (hct : ct + 1 ≤ kmc k) (hsl : sl + 6 ≤ kms k) (hP : kPx k cls G) : EV k pc lv st G ct sl := by
  obtain ⟨hx, hb, hml, hown, hts, hlk, htr, hK, hH, hV, hA, hn1, hn2⟩ := id C
  obtain ⟨m1, m2, m3, m4, m5, m6, m7⟩ := M
  intro hO ad H locs ls hM hl
  obtain ⟨sa, hsa⟩ := hV.2.2.2.2.2.2.1 _ hstr
  exact vx_throwSW hx hb htr hown m1 rtx_fit (hts _ m2) (hts _ m3) hsa (vx_hat (fun w hw => hts _ (m5 w hw)) m6 (vx_c (va_Nw.use rfl (hV.1 _ m4)) (fun w hw => by obtain ⟨y, hy, rfl⟩ := List.mem_map.mp hw; exact va_Nw.use rfl (hV.2.2.2.2.2.2.2.2 y hy)))) m7 hH.1 hH.2.1 hM.2.2.2.2.2 hl.1 d0 d3 d4 d7 d10 (fun x hx => (htab x hx).elim)
    (by show 2 + 3 < 20 + 2 * klev k; omega) (by rw [wdt_cat]; show wdt st + (13 * (2 + 1) + 43) ≤ 300 + 60 * klev k; omega) hct hsl hlk (fun t _ h1 h2 => xn_of hO.1 hM hP h1 h2) hM.2.2.2.2.2.2.2 hct hsl
/-- an exception passes through a method without handlers -/
theorem ex_out {E : String} (C : CX k own cc nL) (htab : ∀ x ∈ (kc k).exceptionTable.toList, False) (hct : ct ≤ kmc k) (hsl : sl ≤ kms k) (hP : kPx k E G) : EX k E pc lv G ct sl := by
  intro hO ad H locs ls rest q ce hM hl hce hcv hcl
  exact vx_out (fun x hx => (htab x hx).elim) C.2.2.2.2.2.1 hce hcv hcl (fun t ht hW => xn_of hO.1 hM hP (by rw [ht]; exact Nat.le_refl _) (fun q _ => by rw [ht])) hM.2.2.2.2.2.2.2 hct hsl
/-- it is caught: the table's row x, whose class is E's own; the rows ahead are of other classes; the handler stores it away -/
theorem ex_catch {E : String} {hh : List (Nat × Nat × Nat × Nat)} {i : Nat} {pre suf : List (Nat × Nat × Nat × Nat)} {x : Nat × Nat × Nat × Nat} {ins : Instr} {n hp' : Nat} (C : CX k own cc nL) (htab : (kc k).exceptionTable.toList = tableOf hh) (hsplit : hh = pre ++ x :: suf) (hpre : ∀ z ∈ pre, z.2.2.2 ≠ 0 ∧ ∃ nm, Cond.classLink own z.2.2.2 nm ∈ lw_good ∧ nm ∈ exl ∧ E ≠ nm) (hE : E ∈ exl) (hEE : (E, E) ∈ cstl0) (hcov : x.1 ≤ pc ∧ pc < x.2.1) (h0 : x.2.2.2 ≠ 0) (hlink : Cond.classLink own x.2.2.2 E ∈ lw_good)
    (hd : decode cc x.2.2.1 = .ok (ins, n)) (hi : (∃ f : Fin 4, ins = .astore_n f ∧ (f : Nat) = i ∧ n = 1) ∨ (ins = .astore i ∧ n = 2)) (hin : i < nL) (hp : x.2.2.1 + n = hp') (kk : EV k hp' (lvf i false lv) [] G ct sl) : EX k E pc lv G ct sl := by
  subst hp
  obtain ⟨hx, hb, hml, hown, hts, hlk, htr, hK, hH, hV, hA, hn1, hn2⟩ := id C
  intro hO ad H locs ls rest q ce hM hl hce hcv hcl
  refine vx_catch (own := own) (name := E) hown (tableOf pre) ⟨x.1, x.2.1, x.2.2.1, x.2.2.2⟩ (tableOf suf) (by rw [htab, hsplit]; unfold tableOf; rw [List.map_append, List.map_cons]) (fun z hz => ?_) (by unfold covers; simp [hcov.1, hcov.2]) h0 (hts _ hlink) (va_Nw.use rfl (hV.1 _ hEE)) hce hcv hcl ?_
  · obtain ⟨a, ha, rfl⟩ := List.mem_map.mp hz
    obtain ⟨g0, nm, g1, g2, g3⟩ := hpre a ha
    exact Or.inr ⟨g0, nm, hts _ g1, hV.2.1 E hE nm g2 g3⟩
  · have hk : ∀ ls', lv_has ls' (kc k).maxLocals ((i, .ref q) :: (cvl ad lv).filter (fun q => !(q.1 == i) && !(q.1 + 1 == i && q.2.category == 2))) → WK k H locs ct sl (x.2.2.1 + n) ls' ([].map (cv ad)) := fun ls' hl' => kk ⟨hO.1, fun a ha => hO.2.1 a (lvf_mem ha).1, fun v hv => nomatch hv⟩ ad H locs ls' hM (lv_less hl' (fun a ha => by
      obtain ⟨b, hb, rfl⟩ := List.mem_map.mp ha
      obtain ⟨g1, g2, g3, -⟩ := lvf_mem hb
      refine List.mem_cons_of_mem _ (List.mem_filter.mpr ⟨List.mem_map.mpr ⟨b, g1, rfl⟩, ?_⟩)
      simp only [cv_cat]
      cases hc : c2 b.2
      · simp [g2]
      · have h4 : b.1 + 1 ≠ i := fun e => g3 ⟨e, hc⟩
        simp [g2, h4]))
    rcases hi with ⟨f, rfl, hf, rfl⟩ | ⟨rfl, rfl⟩
    · exact lv_astore_n hx hb hd hf hl (by rw [hml]; exact hin) rfl hk
    · exact lv_astore hx hb hd hl (by rw [hml]; exact hin) rfl hk
end CA
end
section
/-! THE STATES: the model's (names 0 to 26) and the class's (names from 1000 on); numbers alone -/
abbrev SS : Type := (Nat → Int) × (Nat → Nat → Int)
def stS (v : SS) (k : Nat) (x : Int) : SS := (fun j => if j = k then x else v.1 j, v.2)
def stA (v : SS) (a i : Nat) (x : Int) : SS := (v.1, fun b j => if b = a then (if j = i then x else v.2 b j) else v.2 b j)
theorem stS_1 (v : SS) (k j : Nat) (x : Int) : (stS v k x).1 j = if j = k then x else v.1 j := rfl
theorem stS_2 (v : SS) (k : Nat) (x : Int) : (stS v k x).2 = v.2 := rfl
theorem stA_1 (v : SS) (a i : Nat) (x : Int) : (stA v a i x).1 = v.1 := rfl
theorem stA_2 (v : SS) (a i : Nat) (x : Int) (b j : Nat) : (stA v a i x).2 b j = if b = a then (if j = i then x else v.2 b j) else v.2 b j := rfl
def pgr (x : Int) : AV := if x < 0 then vR none else vR (some (3000 + x.toNat))
def fldM (v : SS) : List AV := [vI (v.1 0), vR (some 1), vR (some 2), vR (some 3), vR (some 4), vR (some 5), vR (some 6), vR (some 7), vR (some 8), vR (some 9), vR (some 10), vI (v.1 11), vR (some 12), vR (some 13), vI (v.1 14), vI (v.1 15), vI (v.1 16), vR (some 17), vI (v.1 18), vI (v.1 19), vR (some 20), vI (v.1 21), vI (v.1 22), vI (v.1 23), vL (v.1 24), vI (v.1 25), vI (v.1 26)]
def mA (f : Nat → Nat → Int) (n : Nat) : Option AC := match n with
  | 1 => some (.inr (0, 6, fun j => vI (f 1 j)))
  | 2 => some (.inr (3, 6, fun j => vI (f 2 j)))
  | 3 => some (.inr (0, 6, fun j => vI (f 3 j)))
  | 4 => some (.inr (2, 6, fun j => vI (f 4 j)))
  | 5 => some (.inr (0, 6, fun j => vI (f 5 j)))
  | 6 => some (.inr (0, 6, fun j => vI (f 6 j)))
  | 7 => some (.inr (0, 6, fun j => vI (f 7 j)))
  | 8 => some (.inr (1, 6, fun j => vL (f 8 j)))
  | 9 => some (.inr (0, 48, fun j => vI (f 9 j)))
  | 10 => some (.inr (0, 48, fun j => vI (f 10 j)))
  | 12 => some (.inr (0, 16, fun j => vI (f 12 j)))
  | 13 => some (.inr (2, 16, fun j => vI (f 13 j)))
  | 17 => some (.inr (0, 48, fun j => vI (f 17 j)))
  | 20 => some (.inr (0, 4, fun j => vI (f 20 j)))
  | _ => none
def mN (v : SS) (n : Nat) : Option AC := if n = 0 then some (.inl (10, fldM v)) else mA v.2 n
def eS (u : SS) (n : Nat) : Option AC :=
  if n < 2000 then (match n with
    | 1000 => some (.inl (9, [vR (some 1001), vR (some 1004), vR (some 1006), vR (some 1009), vR (some 1011), vI (u.1 0), vI (u.1 1), vI (u.1 2), vI (u.1 3), vI (u.1 4), vL (u.1 5)]))
    | 1001 => some (.inl (4, [vR (some 1002), vI (u.1 6), vR (some 1003)]))
    | 1002 => some (.inr (0, 2048, fun j => vI (u.2 0 j)))
    | 1003 => some (.inr (3, 48, fun j => vI (u.2 1 j)))
    | 1004 => some (.inl (3, [vR (some 1005), vI (u.1 7), vI (u.1 8)]))
    | 1005 => some (.inr (5, 16, fun j => pgr (u.2 2 j)))
    | 1006 => some (.inl (8, [vR (some 1007), vI (u.1 9)]))
    | 1007 => some (.inl (2, [vI (u.1 10), vR (some (if u.1 12 = 0 then 1013 else 1008)), vI (u.1 11)]))
    | 1008 => if u.1 12 = 0 then none else some (.inr (6, (u.1 12).toNat, fun j => pgr (u.2 3 j)))
    | 1009 => some (.inl (6, [vR (some 1010)]))
    | 1010 => some (.inr (0, 4, fun j => vI (u.2 4 j)))
    | 1011 => some (.inl (2, [vI (u.1 13), vR (some (if u.1 15 = 0 then 1013 else 1012)), vI (u.1 14)]))
    | 1012 => if u.1 15 = 0 then none else some (.inr (6, (u.1 15).toNat, fun j => if (j : Int) < u.1 14 then vR (some (2000 + j)) else vR none))
    | _ => none)
  else if n < 2100 then (if ((n - 2000 : Nat) : Int) < u.1 14 then some (.inl (7, [vI (n - 2000 : Nat), vI (u.2 11 (n - 2000)), vI (u.2 12 (n - 2000)), vI (u.2 13 (n - 2000)), vR (some (n + 100)), vI (u.2 15 (n - 2000)), vI (u.2 16 (n - 2000)), vI (u.2 17 (n - 2000)), vI (u.2 18 (n - 2000)), vL (u.2 19 (n - 2000))])) else none)
  else if n < 3000 then (if ((n - 2100 : Nat) : Int) < u.1 14 then some (.inr (5, 8, fun p => vR (some (3000 + (8 * (n - 2100) + p))))) else none)
  else (if ((n - 3000 : Nat) : Int) < 8 * u.1 14 then some (.inl (5, [vI (n - 3000 : Nat), vR (some 1001), vI (u.2 22 (n - 3000)), vI (u.2 23 (n - 3000)), vI (u.2 24 (n - 3000)), vI (u.2 25 (n - 3000))])) else none)
def mk (u v : SS) (g : GH) : GH := fun n => if n < 100 then mN v n else if n < 1000 then g n else eS u n
abbrev Rs : Type := (Option AV × GH) ⊕ (String × GH)
def PoR (r : Rs) : Option AV → GH → Prop := fun a G => r = .inl (a, G)
def PxR (r : Rs) : String → GH → Prop := fun E G => r = .inr (E, G)
def stk (r : Option AV) (st : List AV) : List AV := match r with
  | some x => x :: st
  | none => st
def nn : Nat → Prop := fun _ => False
/-- a contract whose result is one: returned or thrown -/
abbrev Cn (y : MethodName) (ws : List Cond) (lev mc ms : Nat) (nw : Nat → Prop) (av : List AV) (G : GH) (r : Rs) : Prop := Con y ws lev mc ms nw av G (PoR r) (PxR r)
section CR
variable {k : Kx} {own : String} {cc : ByteArray} {nL : Nat} {pc q tgt : Nat} {lv lv' : List (Nat × AV)} {st st' : List AV} {G G' : GH} {ct sl : Nat}
theorem nn_nov (v : AV) : nov nn v := fun _ _ h => h
theorem stk_eq (r : Option AV) (st : List AV) : r.toList ++ st = stk r st := by cases r <;> rfl
/-- calls that name nothing new and return -/
theorem ev_cV {y : MethodName} {bytes : ByteArray} {maxL lev mc ms index na n ci : Nat} {ret : Option FieldType} {As : List AV} {r : Option AV} {G1 : GH} {fs : List AV} {T : u_T} {N : Nat} {st0 : List AV} (C : CX k own cc nL) (hd : decode cc pc = .ok (.invokevirtual index, 3)) (hq : pc + 3 = q)
    (Mk : MLk own index y na) (Mv : MLv y) (hcode : Cond.code y bytes maxL ret ∈ lw_good) (M : Cn y (wsy y bytes maxL ret) lev mc ms nn (vR (some n) :: As) G (.inl (r, G1))) (hst : st0 = As.reverse ++ vR (some n) :: st) (hna : As.length = na) (hci : vwCl[ci]? = some (y.cls, T, N)) (hG : G n = some (.inl (ci, fs)))
    (hlev : lev < klev k) (hml : maxL ≤ 41) (hw : wdt st ≤ 8) (hct : ct + mc ≤ kmc k) (hsl : sl + ms ≤ kms k) (kk : EV k q lv (stk r st) G1 (ct + mc) (sl + ms)) : EV k pc lv st0 G ct sl :=
  ev_callV C hd hq Mk Mv hcode M hst hna hci hG hlev hml hw hct hsl (fun _ h => h.elim) (fun a _ => nn_nov a.2) (fun v _ => nn_nov v) (fun E G' h => nomatch h) (fun r' G' h => by cases h; rw [stk_eq]; exact kk)
theorem ev_cS {y : MethodName} {bytes : ByteArray} {maxL lev mc ms index na : Nat} {ret : Option FieldType} {As : List AV} {r : Option AV} {G1 : GH} {st0 : List AV} (C : CX k own cc nL) (hd : decode cc pc = .ok (.invokestatic index, 3)) (hq : pc + 3 = q)
    (Mk : MLk own index y na) (Ms : Cond.static y ∈ lw_good) (hcode : Cond.code y bytes maxL ret ∈ lw_good) (M : Cn y (wsy y bytes maxL ret) lev mc ms nn As G (.inl (r, G1))) (hst : st0 = As.reverse ++ st) (hna : As.length = na)
    (hlev : lev < klev k) (hml : maxL ≤ 41) (hw : wdt st ≤ 8) (hct : ct + mc ≤ kmc k) (hsl : sl + ms ≤ kms k) (kk : EV k q lv (stk r st) G1 (ct + mc) (sl + ms)) : EV k pc lv st0 G ct sl :=
  ev_callS C hd hq Mk Ms hcode M hst hna hlev hml hw hct hsl (fun _ h => h.elim) (fun a _ => nn_nov a.2) (fun v _ => nn_nov v) (fun E G' h => nomatch h) (fun r' G' h => by cases h; rw [stk_eq]; exact kk)
/-- calls that may throw: the result is r -/
theorem ev_cVx {y : MethodName} {bytes : ByteArray} {maxL lev mc ms index na n ci : Nat} {ret : Option FieldType} {As : List AV} {r : Rs} {fs : List AV} {T : u_T} {N : Nat} {st0 : List AV} (C : CX k own cc nL) (hd : decode cc pc = .ok (.invokevirtual index, 3)) (hq : pc + 3 = q)
    (Mk : MLk own index y na) (Mv : MLv y) (hcode : Cond.code y bytes maxL ret ∈ lw_good) (M : Cn y (wsy y bytes maxL ret) lev mc ms nn (vR (some n) :: As) G r) (hst : st0 = As.reverse ++ vR (some n) :: st) (hna : As.length = na) (hci : vwCl[ci]? = some (y.cls, T, N)) (hG : G n = some (.inl (ci, fs)))
    (hlev : lev < klev k) (hml : maxL ≤ 41) (hw : wdt st ≤ 8) (hct : ct + mc ≤ kmc k) (hsl : sl + ms ≤ kms k) (kx : ∀ E G1, r = .inr (E, G1) → EX k E pc lv G1 (ct + mc) (sl + ms)) (kk : ∀ a G1, r = .inl (a, G1) → EV k q lv (stk a st) G1 (ct + mc) (sl + ms)) : EV k pc lv st0 G ct sl :=
  ev_callV C hd hq Mk Mv hcode M hst hna hci hG hlev hml hw hct hsl (fun _ h => h.elim) (fun a _ => nn_nov a.2) (fun v _ => nn_nov v) kx (fun r' G' h => by rw [stk_eq]; exact kk r' G' h)
theorem ev_cSx {y : MethodName} {bytes : ByteArray} {maxL lev mc ms index na : Nat} {ret : Option FieldType} {As : List AV} {r : Rs} {st0 : List AV} (C : CX k own cc nL) (hd : decode cc pc = .ok (.invokestatic index, 3)) (hq : pc + 3 = q)
    (Mk : MLk own index y na) (Ms : Cond.static y ∈ lw_good) (hcode : Cond.code y bytes maxL ret ∈ lw_good) (M : Cn y (wsy y bytes maxL ret) lev mc ms nn As G r) (hst : st0 = As.reverse ++ st) (hna : As.length = na)
    (hlev : lev < klev k) (hml : maxL ≤ 41) (hw : wdt st ≤ 8) (hct : ct + mc ≤ kmc k) (hsl : sl + ms ≤ kms k) (kx : ∀ E G1, r = .inr (E, G1) → EX k E pc lv G1 (ct + mc) (sl + ms)) (kk : ∀ a G1, r = .inl (a, G1) → EV k q lv (stk a st) G1 (ct + mc) (sl + ms)) : EV k pc lv st0 G ct sl :=
  ev_callS C hd hq Mk Ms hcode M hst hna hlev hml hw hct hsl (fun _ h => h.elim) (fun a _ => nn_nov a.2) (fun v _ => nn_nov v) kx (fun r' G' h => by rw [stk_eq]; exact kk r' G' h)
end CR
section MR
variable {k : Kx} {cc : ByteArray} {nL : Nat} {pc q tgt : Nat} {lv lv' : List (Nat × AV)} {st st' : List AV} {u v : SS} {g : GH} {ct sl : Nat}
theorem go_0 : mk u v g 0 = some (.inl (10, fldM v)) := rfl
theorem ga_1 : mk u v g 1 = some (.inr (0, 6, fun j => vI (v.2 1 j))) := rfl
theorem ga_2 : mk u v g 2 = some (.inr (3, 6, fun j => vI (v.2 2 j))) := rfl
theorem ga_3 : mk u v g 3 = some (.inr (0, 6, fun j => vI (v.2 3 j))) := rfl
theorem ga_4 : mk u v g 4 = some (.inr (2, 6, fun j => vI (v.2 4 j))) := rfl
theorem ga_5 : mk u v g 5 = some (.inr (0, 6, fun j => vI (v.2 5 j))) := rfl
theorem ga_6 : mk u v g 6 = some (.inr (0, 6, fun j => vI (v.2 6 j))) := rfl
theorem ga_7 : mk u v g 7 = some (.inr (0, 6, fun j => vI (v.2 7 j))) := rfl
theorem ga_8 : mk u v g 8 = some (.inr (1, 6, fun j => vL (v.2 8 j))) := rfl
theorem ga_9 : mk u v g 9 = some (.inr (0, 48, fun j => vI (v.2 9 j))) := rfl
theorem ga_10 : mk u v g 10 = some (.inr (0, 48, fun j => vI (v.2 10 j))) := rfl
theorem ga_12 : mk u v g 12 = some (.inr (0, 16, fun j => vI (v.2 12 j))) := rfl
theorem ga_13 : mk u v g 13 = some (.inr (2, 16, fun j => vI (v.2 13 j))) := rfl
theorem ga_17 : mk u v g 17 = some (.inr (0, 48, fun j => vI (v.2 17 j))) := rfl
theorem ga_20 : mk u v g 20 = some (.inr (0, 4, fun j => vI (v.2 20 j))) := rfl
theorem mk_put {n : Nat} {c : AC} {v' : SS} (hn : n < 100) (h1 : mN v' n = some c) (h2 : ∀ m, m ≠ n → mN v' m = mN v m) : gup (mk u v g) n c = mk u v' g := by
  funext m
  by_cases e : m = n
  · subst e
    rw [gup_self]
    unfold mk
    rw [if_pos hn, h1]
  · rw [gup_ne e]
    unfold mk
    by_cases h : m < 100
    · rw [if_pos h, if_pos h, h2 m e]
    · rw [if_neg h, if_neg h]
theorem mk_putS {j : Nat} {x : Int} {c : AC} (h1 : mN (stS v j x) 0 = some c) : gup (mk u v g) 0 c = mk u (stS v j x) g :=
  mk_put (by decide) h1 (fun m hm => by unfold mN; rw [if_neg hm, if_neg hm]; rfl)
theorem mA_ne {a i n : Nat} {x : Int} (h : n ≠ a) : mA (stA v a i x).2 n = mA v.2 n := by
  have e : ∀ j, (stA v a i x).2 n j = v.2 n j := fun j => by rw [stA_2, if_neg h]
  unfold mA
  split <;> first | rfl | simp only [e]
theorem mk_putA {a i : Nat} {x : Int} {c : AC} (ha : a < 100) (h0 : a ≠ 0) (h1 : mA (stA v a i x).2 a = some c) : gup (mk u v g) a c = mk u (stA v a i x) g :=
  mk_put ha (by unfold mN; rw [if_neg h0, h1]) (fun m hm => by
    unfold mN
    by_cases e : m = 0
    · rw [if_pos e, if_pos e]; rfl
    · rw [if_neg e, if_neg e, mA_ne hm])
theorem stA_self {a i : Nat} {x : Int} (w : Int → AV) : (fun j => w ((stA v a i x).2 a j)) = vset (fun j => w (v.2 a j)) i (w x) := by
  funext j
  unfold vset
  rw [stA_2, if_pos rfl]
  by_cases e : j = i <;> simp [e]
theorem mg_0 (C : CX k RX7 cc nL) (hd : decode cc pc = .ok (.getfield 68, 3)) (hq : pc + 3 = q) (kk : EV k q lv (vI (v.1 0) :: st) (mk u v g) ct sl) : EV k pc lv (vR (some 0) :: st) (mk u v g) ct sl := ev_get C hd kf_X7_68 hq go_0 rfl kk
theorem mp_0 {x : Int} (C : CX k RX7 cc nL) (hd : decode cc pc = .ok (.putfield 68, 3)) (hq : pc + 3 = q) (kk : EV k q lv st (mk u (stS v 0 x) g) ct sl) : EV k pc lv (vI x :: vR (some 0) :: st) (mk u v g) ct sl := ev_put C hd kf_X7_68 hq (fit_I _) go_0 (Nat.le_of_ble_eq_true rfl) (mk_putS rfl) kk
theorem mg_1 (C : CX k RX7 cc nL) (hd : decode cc pc = .ok (.getfield 7, 3)) (hq : pc + 3 = q) (kk : EV k q lv (vR (some 1) :: st) (mk u v g) ct sl) : EV k pc lv (vR (some 0) :: st) (mk u v g) ct sl := ev_get C hd kf_X7_7 hq go_0 rfl kk
theorem mg_2 (C : CX k RX7 cc nL) (hd : decode cc pc = .ok (.getfield 13, 3)) (hq : pc + 3 = q) (kk : EV k q lv (vR (some 2) :: st) (mk u v g) ct sl) : EV k pc lv (vR (some 0) :: st) (mk u v g) ct sl := ev_get C hd kf_X7_13 hq go_0 rfl kk
theorem mg_3 (C : CX k RX7 cc nL) (hd : decode cc pc = .ok (.getfield 17, 3)) (hq : pc + 3 = q) (kk : EV k q lv (vR (some 3) :: st) (mk u v g) ct sl) : EV k pc lv (vR (some 0) :: st) (mk u v g) ct sl := ev_get C hd kf_X7_17 hq go_0 rfl kk
theorem mg_4 (C : CX k RX7 cc nL) (hd : decode cc pc = .ok (.getfield 20, 3)) (hq : pc + 3 = q) (kk : EV k q lv (vR (some 4) :: st) (mk u v g) ct sl) : EV k pc lv (vR (some 0) :: st) (mk u v g) ct sl := ev_get C hd kf_X7_20 hq go_0 rfl kk
theorem mg_5 (C : CX k RX7 cc nL) (hd : decode cc pc = .ok (.getfield 24, 3)) (hq : pc + 3 = q) (kk : EV k q lv (vR (some 5) :: st) (mk u v g) ct sl) : EV k pc lv (vR (some 0) :: st) (mk u v g) ct sl := ev_get C hd kf_X7_24 hq go_0 rfl kk
theorem mg_6 (C : CX k RX7 cc nL) (hd : decode cc pc = .ok (.getfield 27, 3)) (hq : pc + 3 = q) (kk : EV k q lv (vR (some 6) :: st) (mk u v g) ct sl) : EV k pc lv (vR (some 0) :: st) (mk u v g) ct sl := ev_get C hd kf_X7_27 hq go_0 rfl kk
theorem mg_7 (C : CX k RX7 cc nL) (hd : decode cc pc = .ok (.getfield 30, 3)) (hq : pc + 3 = q) (kk : EV k q lv (vR (some 7) :: st) (mk u v g) ct sl) : EV k pc lv (vR (some 0) :: st) (mk u v g) ct sl := ev_get C hd kf_X7_30 hq go_0 rfl kk
theorem mg_8 (C : CX k RX7 cc nL) (hd : decode cc pc = .ok (.getfield 33, 3)) (hq : pc + 3 = q) (kk : EV k q lv (vR (some 8) :: st) (mk u v g) ct sl) : EV k pc lv (vR (some 0) :: st) (mk u v g) ct sl := ev_get C hd kf_X7_33 hq go_0 rfl kk
theorem mg_9 (C : CX k RX7 cc nL) (hd : decode cc pc = .ok (.getfield 37, 3)) (hq : pc + 3 = q) (kk : EV k q lv (vR (some 9) :: st) (mk u v g) ct sl) : EV k pc lv (vR (some 0) :: st) (mk u v g) ct sl := ev_get C hd kf_X7_37 hq go_0 rfl kk
theorem mg_10 (C : CX k RX7 cc nL) (hd : decode cc pc = .ok (.getfield 40, 3)) (hq : pc + 3 = q) (kk : EV k q lv (vR (some 10) :: st) (mk u v g) ct sl) : EV k pc lv (vR (some 0) :: st) (mk u v g) ct sl := ev_get C hd kf_X7_40 hq go_0 rfl kk
theorem mg_11 (C : CX k RX7 cc nL) (hd : decode cc pc = .ok (.getfield 43, 3)) (hq : pc + 3 = q) (kk : EV k q lv (vI (v.1 11) :: st) (mk u v g) ct sl) : EV k pc lv (vR (some 0) :: st) (mk u v g) ct sl := ev_get C hd kf_X7_43 hq go_0 rfl kk
theorem mp_11 {x : Int} (C : CX k RX7 cc nL) (hd : decode cc pc = .ok (.putfield 43, 3)) (hq : pc + 3 = q) (kk : EV k q lv st (mk u (stS v 11 x) g) ct sl) : EV k pc lv (vI x :: vR (some 0) :: st) (mk u v g) ct sl := ev_put C hd kf_X7_43 hq (fit_I _) go_0 (Nat.le_of_ble_eq_true rfl) (mk_putS rfl) kk
theorem mg_12 (C : CX k RX7 cc nL) (hd : decode cc pc = .ok (.getfield 47, 3)) (hq : pc + 3 = q) (kk : EV k q lv (vR (some 12) :: st) (mk u v g) ct sl) : EV k pc lv (vR (some 0) :: st) (mk u v g) ct sl := ev_get C hd kf_X7_47 hq go_0 rfl kk
theorem mg_13 (C : CX k RX7 cc nL) (hd : decode cc pc = .ok (.getfield 50, 3)) (hq : pc + 3 = q) (kk : EV k q lv (vR (some 13) :: st) (mk u v g) ct sl) : EV k pc lv (vR (some 0) :: st) (mk u v g) ct sl := ev_get C hd kf_X7_50 hq go_0 rfl kk
theorem mg_14 (C : CX k RX7 cc nL) (hd : decode cc pc = .ok (.getfield 114, 3)) (hq : pc + 3 = q) (kk : EV k q lv (vI (v.1 14) :: st) (mk u v g) ct sl) : EV k pc lv (vR (some 0) :: st) (mk u v g) ct sl := ev_get C hd kf_X7_114 hq go_0 rfl kk
theorem mp_14 {x : Int} (C : CX k RX7 cc nL) (hd : decode cc pc = .ok (.putfield 114, 3)) (hq : pc + 3 = q) (kk : EV k q lv st (mk u (stS v 14 x) g) ct sl) : EV k pc lv (vI x :: vR (some 0) :: st) (mk u v g) ct sl := ev_put C hd kf_X7_114 hq (fit_I _) go_0 (Nat.le_of_ble_eq_true rfl) (mk_putS rfl) kk
theorem mg_15 (C : CX k RX7 cc nL) (hd : decode cc pc = .ok (.getfield 53, 3)) (hq : pc + 3 = q) (kk : EV k q lv (vI (v.1 15) :: st) (mk u v g) ct sl) : EV k pc lv (vR (some 0) :: st) (mk u v g) ct sl := ev_get C hd kf_X7_53 hq go_0 rfl kk
theorem mp_15 {x : Int} (C : CX k RX7 cc nL) (hd : decode cc pc = .ok (.putfield 53, 3)) (hq : pc + 3 = q) (kk : EV k q lv st (mk u (stS v 15 x) g) ct sl) : EV k pc lv (vI x :: vR (some 0) :: st) (mk u v g) ct sl := ev_put C hd kf_X7_53 hq (fit_I _) go_0 (Nat.le_of_ble_eq_true rfl) (mk_putS rfl) kk
theorem mg_16 (C : CX k RX7 cc nL) (hd : decode cc pc = .ok (.getfield 94, 3)) (hq : pc + 3 = q) (kk : EV k q lv (vI (v.1 16) :: st) (mk u v g) ct sl) : EV k pc lv (vR (some 0) :: st) (mk u v g) ct sl := ev_get C hd kf_X7_94 hq go_0 rfl kk
theorem mp_16 {x : Int} (C : CX k RX7 cc nL) (hd : decode cc pc = .ok (.putfield 94, 3)) (hq : pc + 3 = q) (kk : EV k q lv st (mk u (stS v 16 x) g) ct sl) : EV k pc lv (vI x :: vR (some 0) :: st) (mk u v g) ct sl := ev_put C hd kf_X7_94 hq (fit_I _) go_0 (Nat.le_of_ble_eq_true rfl) (mk_putS rfl) kk
theorem mg_17 (C : CX k RX7 cc nL) (hd : decode cc pc = .ok (.getfield 56, 3)) (hq : pc + 3 = q) (kk : EV k q lv (vR (some 17) :: st) (mk u v g) ct sl) : EV k pc lv (vR (some 0) :: st) (mk u v g) ct sl := ev_get C hd kf_X7_56 hq go_0 rfl kk
theorem mg_18 (C : CX k RX7 cc nL) (hd : decode cc pc = .ok (.getfield 59, 3)) (hq : pc + 3 = q) (kk : EV k q lv (vI (v.1 18) :: st) (mk u v g) ct sl) : EV k pc lv (vR (some 0) :: st) (mk u v g) ct sl := ev_get C hd kf_X7_59 hq go_0 rfl kk
theorem mp_18 {x : Int} (C : CX k RX7 cc nL) (hd : decode cc pc = .ok (.putfield 59, 3)) (hq : pc + 3 = q) (kk : EV k q lv st (mk u (stS v 18 x) g) ct sl) : EV k pc lv (vI x :: vR (some 0) :: st) (mk u v g) ct sl := ev_put C hd kf_X7_59 hq (fit_I _) go_0 (Nat.le_of_ble_eq_true rfl) (mk_putS rfl) kk
theorem mg_19 (C : CX k RX7 cc nL) (hd : decode cc pc = .ok (.getfield 133, 3)) (hq : pc + 3 = q) (kk : EV k q lv (vI (v.1 19) :: st) (mk u v g) ct sl) : EV k pc lv (vR (some 0) :: st) (mk u v g) ct sl := ev_get C hd kf_X7_133 hq go_0 rfl kk
theorem mp_19 {x : Int} (C : CX k RX7 cc nL) (hd : decode cc pc = .ok (.putfield 133, 3)) (hq : pc + 3 = q) (kk : EV k q lv st (mk u (stS v 19 x) g) ct sl) : EV k pc lv (vI x :: vR (some 0) :: st) (mk u v g) ct sl := ev_put C hd kf_X7_133 hq (fit_I _) go_0 (Nat.le_of_ble_eq_true rfl) (mk_putS rfl) kk
theorem mg_20 (C : CX k RX7 cc nL) (hd : decode cc pc = .ok (.getfield 62, 3)) (hq : pc + 3 = q) (kk : EV k q lv (vR (some 20) :: st) (mk u v g) ct sl) : EV k pc lv (vR (some 0) :: st) (mk u v g) ct sl := ev_get C hd kf_X7_62 hq go_0 rfl kk
theorem mg_21 (C : CX k RX7 cc nL) (hd : decode cc pc = .ok (.getfield 105, 3)) (hq : pc + 3 = q) (kk : EV k q lv (vI (v.1 21) :: st) (mk u v g) ct sl) : EV k pc lv (vR (some 0) :: st) (mk u v g) ct sl := ev_get C hd kf_X7_105 hq go_0 rfl kk
theorem mp_21 {x : Int} (C : CX k RX7 cc nL) (hd : decode cc pc = .ok (.putfield 105, 3)) (hq : pc + 3 = q) (kk : EV k q lv st (mk u (stS v 21 x) g) ct sl) : EV k pc lv (vI x :: vR (some 0) :: st) (mk u v g) ct sl := ev_put C hd kf_X7_105 hq (fit_I _) go_0 (Nat.le_of_ble_eq_true rfl) (mk_putS rfl) kk
theorem mg_22 (C : CX k RX7 cc nL) (hd : decode cc pc = .ok (.getfield 140, 3)) (hq : pc + 3 = q) (kk : EV k q lv (vI (v.1 22) :: st) (mk u v g) ct sl) : EV k pc lv (vR (some 0) :: st) (mk u v g) ct sl := ev_get C hd kf_X7_140 hq go_0 rfl kk
theorem mp_22 {x : Int} (C : CX k RX7 cc nL) (hd : decode cc pc = .ok (.putfield 140, 3)) (hq : pc + 3 = q) (kk : EV k q lv st (mk u (stS v 22 x) g) ct sl) : EV k pc lv (vI x :: vR (some 0) :: st) (mk u v g) ct sl := ev_put C hd kf_X7_140 hq (fit_I _) go_0 (Nat.le_of_ble_eq_true rfl) (mk_putS rfl) kk
theorem mg_23 (C : CX k RX7 cc nL) (hd : decode cc pc = .ok (.getfield 143, 3)) (hq : pc + 3 = q) (kk : EV k q lv (vI (v.1 23) :: st) (mk u v g) ct sl) : EV k pc lv (vR (some 0) :: st) (mk u v g) ct sl := ev_get C hd kf_X7_143 hq go_0 rfl kk
theorem mp_23 {x : Int} (C : CX k RX7 cc nL) (hd : decode cc pc = .ok (.putfield 143, 3)) (hq : pc + 3 = q) (kk : EV k q lv st (mk u (stS v 23 x) g) ct sl) : EV k pc lv (vI x :: vR (some 0) :: st) (mk u v g) ct sl := ev_put C hd kf_X7_143 hq (fit_I _) go_0 (Nat.le_of_ble_eq_true rfl) (mk_putS rfl) kk
theorem mg_24 (C : CX k RX7 cc nL) (hd : decode cc pc = .ok (.getfield 136, 3)) (hq : pc + 3 = q) (kk : EV k q lv (vL (v.1 24) :: st) (mk u v g) ct sl) : EV k pc lv (vR (some 0) :: st) (mk u v g) ct sl := ev_get C hd kf_X7_136 hq go_0 rfl kk
theorem mp_24 {x : Int} (C : CX k RX7 cc nL) (hd : decode cc pc = .ok (.putfield 136, 3)) (hq : pc + 3 = q) (kk : EV k q lv st (mk u (stS v 24 x) g) ct sl) : EV k pc lv (vL x :: vR (some 0) :: st) (mk u v g) ct sl := ev_put C hd kf_X7_136 hq (fit_L _) go_0 (Nat.le_of_ble_eq_true rfl) (mk_putS rfl) kk
theorem mg_25 (C : CX k RX7 cc nL) (hd : decode cc pc = .ok (.getfield 153, 3)) (hq : pc + 3 = q) (kk : EV k q lv (vI (v.1 25) :: st) (mk u v g) ct sl) : EV k pc lv (vR (some 0) :: st) (mk u v g) ct sl := ev_get C hd kf_X7_153 hq go_0 rfl kk
theorem mp_25 {x : Int} (C : CX k RX7 cc nL) (hd : decode cc pc = .ok (.putfield 153, 3)) (hq : pc + 3 = q) (kk : EV k q lv st (mk u (stS v 25 x) g) ct sl) : EV k pc lv (vI x :: vR (some 0) :: st) (mk u v g) ct sl := ev_put C hd kf_X7_153 hq (fit_I _) go_0 (Nat.le_of_ble_eq_true rfl) (mk_putS rfl) kk
theorem mg_26 (C : CX k RX7 cc nL) (hd : decode cc pc = .ok (.getfield 65, 3)) (hq : pc + 3 = q) (kk : EV k q lv (vI (v.1 26) :: st) (mk u v g) ct sl) : EV k pc lv (vR (some 0) :: st) (mk u v g) ct sl := ev_get C hd kf_X7_65 hq go_0 rfl kk
theorem mp_26 {x : Int} (C : CX k RX7 cc nL) (hd : decode cc pc = .ok (.putfield 65, 3)) (hq : pc + 3 = q) (kk : EV k q lv st (mk u (stS v 26 x) g) ct sl) : EV k pc lv (vI x :: vR (some 0) :: st) (mk u v g) ct sl := ev_put C hd kf_X7_65 hq (fit_I _) go_0 (Nat.le_of_ble_eq_true rfl) (mk_putS rfl) kk
theorem ml_1 {i : Int} (C : CX k RX7 cc nL) (hd : decode cc pc = .ok (.iaload, 1)) (hq : pc + 1 = q) (hi : 0 ≤ i ∧ i < 6) (kk : EV k q lv (vI (v.2 1 i.toNat) :: st) (mk u v g) ct sl) : EV k pc lv (vI i :: vR (some 1) :: st) (mk u v g) ct sl := ev_iald C hd hq ga_1 (by unfold rg; omega) hi.1 (by have := hi.2; omega) kk
theorem ms_1 {i x : Int} (C : CX k RX7 cc nL) (hd : decode cc pc = .ok (.iastore, 1)) (hq : pc + 1 = q) (hi : 0 ≤ i ∧ i < 6) (kk : EV k q lv st (mk u (stA v 1 i.toNat x) g) ct sl) : EV k pc lv (vI x :: vI i :: vR (some 1) :: st) (mk u v g) ct sl := ev_iast C hd hq ga_1 (by unfold rg; omega) hi.1 (by have := hi.2; omega) (mk_putA (by decide) (by decide) (congrArg (fun f => some (Sum.inr (0, 6, f))) (stA_self vI))) kk
theorem ml_2 {i : Int} (C : CX k RX7 cc nL) (hd : decode cc pc = .ok (.caload, 1)) (hq : pc + 1 = q) (hi : 0 ≤ i ∧ i < 6) (kk : EV k q lv (vI (v.2 2 i.toNat) :: st) (mk u v g) ct sl) : EV k pc lv (vI i :: vR (some 2) :: st) (mk u v g) ct sl := ev_cald C hd hq ga_2 (by unfold rg; omega) hi.1 (by have := hi.2; omega) kk
theorem ms_2 {i x : Int} (C : CX k RX7 cc nL) (hd : decode cc pc = .ok (.castore, 1)) (hq : pc + 1 = q) (hx : 0 ≤ x ∧ x < 65536) (hi : 0 ≤ i ∧ i < 6) (kk : EV k q lv st (mk u (stA v 2 i.toNat x) g) ct sl) : EV k pc lv (vI x :: vI i :: vR (some 2) :: st) (mk u v g) ct sl := ev_cast C hd hq hx ga_2 (by unfold rg; omega) hi.1 (by have := hi.2; omega) (mk_putA (by decide) (by decide) (congrArg (fun f => some (Sum.inr (3, 6, f))) (stA_self vI))) kk
theorem ml_3 {i : Int} (C : CX k RX7 cc nL) (hd : decode cc pc = .ok (.iaload, 1)) (hq : pc + 1 = q) (hi : 0 ≤ i ∧ i < 6) (kk : EV k q lv (vI (v.2 3 i.toNat) :: st) (mk u v g) ct sl) : EV k pc lv (vI i :: vR (some 3) :: st) (mk u v g) ct sl := ev_iald C hd hq ga_3 (by unfold rg; omega) hi.1 (by have := hi.2; omega) kk
theorem ms_3 {i x : Int} (C : CX k RX7 cc nL) (hd : decode cc pc = .ok (.iastore, 1)) (hq : pc + 1 = q) (hi : 0 ≤ i ∧ i < 6) (kk : EV k q lv st (mk u (stA v 3 i.toNat x) g) ct sl) : EV k pc lv (vI x :: vI i :: vR (some 3) :: st) (mk u v g) ct sl := ev_iast C hd hq ga_3 (by unfold rg; omega) hi.1 (by have := hi.2; omega) (mk_putA (by decide) (by decide) (congrArg (fun f => some (Sum.inr (0, 6, f))) (stA_self vI))) kk
theorem ml_4 {i : Int} (C : CX k RX7 cc nL) (hd : decode cc pc = .ok (.baload, 1)) (hq : pc + 1 = q) (hi : 0 ≤ i ∧ i < 6) (kk : EV k q lv (vI (v.2 4 i.toNat) :: st) (mk u v g) ct sl) : EV k pc lv (vI i :: vR (some 4) :: st) (mk u v g) ct sl := ev_zald C hd hq ga_4 (by unfold rg; omega) hi.1 (by have := hi.2; omega) kk
theorem ms_4 {i x : Int} (C : CX k RX7 cc nL) (hd : decode cc pc = .ok (.bastore, 1)) (hq : pc + 1 = q) (hx : x = 0 ∨ x = 1) (hi : 0 ≤ i ∧ i < 6) (kk : EV k q lv st (mk u (stA v 4 i.toNat x) g) ct sl) : EV k pc lv (vI x :: vI i :: vR (some 4) :: st) (mk u v g) ct sl := ev_zast C hd hq hx ga_4 (by unfold rg; omega) hi.1 (by have := hi.2; omega) (mk_putA (by decide) (by decide) (congrArg (fun f => some (Sum.inr (2, 6, f))) (stA_self vI))) kk
theorem ml_5 {i : Int} (C : CX k RX7 cc nL) (hd : decode cc pc = .ok (.iaload, 1)) (hq : pc + 1 = q) (hi : 0 ≤ i ∧ i < 6) (kk : EV k q lv (vI (v.2 5 i.toNat) :: st) (mk u v g) ct sl) : EV k pc lv (vI i :: vR (some 5) :: st) (mk u v g) ct sl := ev_iald C hd hq ga_5 (by unfold rg; omega) hi.1 (by have := hi.2; omega) kk
theorem ms_5 {i x : Int} (C : CX k RX7 cc nL) (hd : decode cc pc = .ok (.iastore, 1)) (hq : pc + 1 = q) (hi : 0 ≤ i ∧ i < 6) (kk : EV k q lv st (mk u (stA v 5 i.toNat x) g) ct sl) : EV k pc lv (vI x :: vI i :: vR (some 5) :: st) (mk u v g) ct sl := ev_iast C hd hq ga_5 (by unfold rg; omega) hi.1 (by have := hi.2; omega) (mk_putA (by decide) (by decide) (congrArg (fun f => some (Sum.inr (0, 6, f))) (stA_self vI))) kk
theorem ml_6 {i : Int} (C : CX k RX7 cc nL) (hd : decode cc pc = .ok (.iaload, 1)) (hq : pc + 1 = q) (hi : 0 ≤ i ∧ i < 6) (kk : EV k q lv (vI (v.2 6 i.toNat) :: st) (mk u v g) ct sl) : EV k pc lv (vI i :: vR (some 6) :: st) (mk u v g) ct sl := ev_iald C hd hq ga_6 (by unfold rg; omega) hi.1 (by have := hi.2; omega) kk
theorem ms_6 {i x : Int} (C : CX k RX7 cc nL) (hd : decode cc pc = .ok (.iastore, 1)) (hq : pc + 1 = q) (hi : 0 ≤ i ∧ i < 6) (kk : EV k q lv st (mk u (stA v 6 i.toNat x) g) ct sl) : EV k pc lv (vI x :: vI i :: vR (some 6) :: st) (mk u v g) ct sl := ev_iast C hd hq ga_6 (by unfold rg; omega) hi.1 (by have := hi.2; omega) (mk_putA (by decide) (by decide) (congrArg (fun f => some (Sum.inr (0, 6, f))) (stA_self vI))) kk
theorem ml_7 {i : Int} (C : CX k RX7 cc nL) (hd : decode cc pc = .ok (.iaload, 1)) (hq : pc + 1 = q) (hi : 0 ≤ i ∧ i < 6) (kk : EV k q lv (vI (v.2 7 i.toNat) :: st) (mk u v g) ct sl) : EV k pc lv (vI i :: vR (some 7) :: st) (mk u v g) ct sl := ev_iald C hd hq ga_7 (by unfold rg; omega) hi.1 (by have := hi.2; omega) kk
theorem ms_7 {i x : Int} (C : CX k RX7 cc nL) (hd : decode cc pc = .ok (.iastore, 1)) (hq : pc + 1 = q) (hi : 0 ≤ i ∧ i < 6) (kk : EV k q lv st (mk u (stA v 7 i.toNat x) g) ct sl) : EV k pc lv (vI x :: vI i :: vR (some 7) :: st) (mk u v g) ct sl := ev_iast C hd hq ga_7 (by unfold rg; omega) hi.1 (by have := hi.2; omega) (mk_putA (by decide) (by decide) (congrArg (fun f => some (Sum.inr (0, 6, f))) (stA_self vI))) kk
theorem ml_8 {i : Int} (C : CX k RX7 cc nL) (hd : decode cc pc = .ok (.laload, 1)) (hq : pc + 1 = q) (hi : 0 ≤ i ∧ i < 6) (kk : EV k q lv (vL (v.2 8 i.toNat) :: st) (mk u v g) ct sl) : EV k pc lv (vI i :: vR (some 8) :: st) (mk u v g) ct sl := ev_lald C hd hq ga_8 (by unfold rg; omega) hi.1 (by have := hi.2; omega) kk
theorem ms_8 {i x : Int} (C : CX k RX7 cc nL) (hd : decode cc pc = .ok (.lastore, 1)) (hq : pc + 1 = q) (hi : 0 ≤ i ∧ i < 6) (kk : EV k q lv st (mk u (stA v 8 i.toNat x) g) ct sl) : EV k pc lv (vL x :: vI i :: vR (some 8) :: st) (mk u v g) ct sl := ev_last C hd hq ga_8 (by unfold rg; omega) hi.1 (by have := hi.2; omega) (mk_putA (by decide) (by decide) (congrArg (fun f => some (Sum.inr (1, 6, f))) (stA_self vL))) kk
theorem ml_9 {i : Int} (C : CX k RX7 cc nL) (hd : decode cc pc = .ok (.iaload, 1)) (hq : pc + 1 = q) (hi : 0 ≤ i ∧ i < 48) (kk : EV k q lv (vI (v.2 9 i.toNat) :: st) (mk u v g) ct sl) : EV k pc lv (vI i :: vR (some 9) :: st) (mk u v g) ct sl := ev_iald C hd hq ga_9 (by unfold rg; omega) hi.1 (by have := hi.2; omega) kk
theorem ms_9 {i x : Int} (C : CX k RX7 cc nL) (hd : decode cc pc = .ok (.iastore, 1)) (hq : pc + 1 = q) (hi : 0 ≤ i ∧ i < 48) (kk : EV k q lv st (mk u (stA v 9 i.toNat x) g) ct sl) : EV k pc lv (vI x :: vI i :: vR (some 9) :: st) (mk u v g) ct sl := ev_iast C hd hq ga_9 (by unfold rg; omega) hi.1 (by have := hi.2; omega) (mk_putA (by decide) (by decide) (congrArg (fun f => some (Sum.inr (0, 48, f))) (stA_self vI))) kk
theorem ml_10 {i : Int} (C : CX k RX7 cc nL) (hd : decode cc pc = .ok (.iaload, 1)) (hq : pc + 1 = q) (hi : 0 ≤ i ∧ i < 48) (kk : EV k q lv (vI (v.2 10 i.toNat) :: st) (mk u v g) ct sl) : EV k pc lv (vI i :: vR (some 10) :: st) (mk u v g) ct sl := ev_iald C hd hq ga_10 (by unfold rg; omega) hi.1 (by have := hi.2; omega) kk
theorem ms_10 {i x : Int} (C : CX k RX7 cc nL) (hd : decode cc pc = .ok (.iastore, 1)) (hq : pc + 1 = q) (hi : 0 ≤ i ∧ i < 48) (kk : EV k q lv st (mk u (stA v 10 i.toNat x) g) ct sl) : EV k pc lv (vI x :: vI i :: vR (some 10) :: st) (mk u v g) ct sl := ev_iast C hd hq ga_10 (by unfold rg; omega) hi.1 (by have := hi.2; omega) (mk_putA (by decide) (by decide) (congrArg (fun f => some (Sum.inr (0, 48, f))) (stA_self vI))) kk
theorem ml_12 {i : Int} (C : CX k RX7 cc nL) (hd : decode cc pc = .ok (.iaload, 1)) (hq : pc + 1 = q) (hi : 0 ≤ i ∧ i < 16) (kk : EV k q lv (vI (v.2 12 i.toNat) :: st) (mk u v g) ct sl) : EV k pc lv (vI i :: vR (some 12) :: st) (mk u v g) ct sl := ev_iald C hd hq ga_12 (by unfold rg; omega) hi.1 (by have := hi.2; omega) kk
theorem ms_12 {i x : Int} (C : CX k RX7 cc nL) (hd : decode cc pc = .ok (.iastore, 1)) (hq : pc + 1 = q) (hi : 0 ≤ i ∧ i < 16) (kk : EV k q lv st (mk u (stA v 12 i.toNat x) g) ct sl) : EV k pc lv (vI x :: vI i :: vR (some 12) :: st) (mk u v g) ct sl := ev_iast C hd hq ga_12 (by unfold rg; omega) hi.1 (by have := hi.2; omega) (mk_putA (by decide) (by decide) (congrArg (fun f => some (Sum.inr (0, 16, f))) (stA_self vI))) kk
theorem ml_13 {i : Int} (C : CX k RX7 cc nL) (hd : decode cc pc = .ok (.baload, 1)) (hq : pc + 1 = q) (hi : 0 ≤ i ∧ i < 16) (kk : EV k q lv (vI (v.2 13 i.toNat) :: st) (mk u v g) ct sl) : EV k pc lv (vI i :: vR (some 13) :: st) (mk u v g) ct sl := ev_zald C hd hq ga_13 (by unfold rg; omega) hi.1 (by have := hi.2; omega) kk
theorem ms_13 {i x : Int} (C : CX k RX7 cc nL) (hd : decode cc pc = .ok (.bastore, 1)) (hq : pc + 1 = q) (hx : x = 0 ∨ x = 1) (hi : 0 ≤ i ∧ i < 16) (kk : EV k q lv st (mk u (stA v 13 i.toNat x) g) ct sl) : EV k pc lv (vI x :: vI i :: vR (some 13) :: st) (mk u v g) ct sl := ev_zast C hd hq hx ga_13 (by unfold rg; omega) hi.1 (by have := hi.2; omega) (mk_putA (by decide) (by decide) (congrArg (fun f => some (Sum.inr (2, 16, f))) (stA_self vI))) kk
theorem ml_17 {i : Int} (C : CX k RX7 cc nL) (hd : decode cc pc = .ok (.iaload, 1)) (hq : pc + 1 = q) (hi : 0 ≤ i ∧ i < 48) (kk : EV k q lv (vI (v.2 17 i.toNat) :: st) (mk u v g) ct sl) : EV k pc lv (vI i :: vR (some 17) :: st) (mk u v g) ct sl := ev_iald C hd hq ga_17 (by unfold rg; omega) hi.1 (by have := hi.2; omega) kk
theorem ms_17 {i x : Int} (C : CX k RX7 cc nL) (hd : decode cc pc = .ok (.iastore, 1)) (hq : pc + 1 = q) (hi : 0 ≤ i ∧ i < 48) (kk : EV k q lv st (mk u (stA v 17 i.toNat x) g) ct sl) : EV k pc lv (vI x :: vI i :: vR (some 17) :: st) (mk u v g) ct sl := ev_iast C hd hq ga_17 (by unfold rg; omega) hi.1 (by have := hi.2; omega) (mk_putA (by decide) (by decide) (congrArg (fun f => some (Sum.inr (0, 48, f))) (stA_self vI))) kk
theorem ml_20 {i : Int} (C : CX k RX7 cc nL) (hd : decode cc pc = .ok (.iaload, 1)) (hq : pc + 1 = q) (hi : 0 ≤ i ∧ i < 4) (kk : EV k q lv (vI (v.2 20 i.toNat) :: st) (mk u v g) ct sl) : EV k pc lv (vI i :: vR (some 20) :: st) (mk u v g) ct sl := ev_iald C hd hq ga_20 (by unfold rg; omega) hi.1 (by have := hi.2; omega) kk
theorem ms_20 {i x : Int} (C : CX k RX7 cc nL) (hd : decode cc pc = .ok (.iastore, 1)) (hq : pc + 1 = q) (hi : 0 ≤ i ∧ i < 4) (kk : EV k q lv st (mk u (stA v 20 i.toNat x) g) ct sl) : EV k pc lv (vI x :: vI i :: vR (some 20) :: st) (mk u v g) ct sl := ev_iast C hd hq ga_20 (by unfold rg; omega) hi.1 (by have := hi.2; omega) (mk_putA (by decide) (by decide) (congrArg (fun f => some (Sum.inr (0, 4, f))) (stA_self vI))) kk
end MR
def bI (b : Bool) : Int := if b then 1 else 0
theorem bI_01 (b : Bool) : bI b = 0 ∨ bI b = 1 := by cases b <;> decide
theorem bI_rg (b : Bool) : rg (bI b) := by unfold rg; have := bI_01 b; omega
theorem bI_t : bI true = 1 := rfl
theorem bI_f : bI false = 0 := rfl
section BB
variable {k : Kx} {own : String} {cc : ByteArray} {nL : Nat} {pc q tgt : Nat} {lv lv' : List (Nat × AV)} {st st' : List AV} {G G' : GH} {ct sl : Nat}
theorem ev_ifB_eq {off : Int} {b : Bool} (C : CX k own cc nL) (hd : decode cc pc = .ok (.ifCond .eq off, 3)) (ht : (pc : Int) + off = (tgt : Int)) (hq : pc + 3 = q) (kt : b = false → EV k tgt lv st G ct sl) (kf : b = true → EV k q lv st G ct sl) : EV k pc lv (vI (bI b) :: st) G ct sl :=
  ev_if_eq C hd ht hq (bI_rg b) (fun h => kt (by cases b; rfl; cases h)) (fun h => kf (by cases b; exact absurd rfl h; rfl))
theorem ev_ifB_ne {off : Int} {b : Bool} (C : CX k own cc nL) (hd : decode cc pc = .ok (.ifCond .ne off, 3)) (ht : (pc : Int) + off = (tgt : Int)) (hq : pc + 3 = q) (kt : b = true → EV k tgt lv st G ct sl) (kf : b = false → EV k q lv st G ct sl) : EV k pc lv (vI (bI b) :: st) G ct sl :=
  ev_if_ne C hd ht hq (bI_rg b) (fun h => kt (by cases b; exact absurd rfl h; rfl)) (fun h => kf (by cases b; rfl; cases h))
theorem po_1 {x y : AV} (hPo : kPo k = PoR (.inl (some x, G))) (hx : x = y) (hG : G = G') : kPo k (some y) G' := by rw [hPo, ← hx, ← hG]; rfl
theorem po_0 (hPo : kPo k = PoR (.inl (none, G))) (hG : G = G') : kPo k none G' := by rw [hPo, ← hG]; rfl
theorem px_1 {E E' : String} (hPx : kPx k = PxR (.inr (E, G))) (hE : E = E') (hG : G = G') : kPx k E' G' := by rw [hPx, ← hE, ← hG]; rfl
end BB
theorem con_j {y : MethodName} {cc : ByteArray} {nL : Nat} {ret : Option FieldType} {lev mc ms : Nat} {av : List AV} {G : GH} {r : Rs} {lv : List (Nat × AV)} (hy : plainName y.cls = true) (hlen : ∀ ad, (lg_sl (av.map (cv ad))).length ≤ nL) (hlv : ∀ ad, lv_args 0 (av.map (cv ad)) = cvl ad lv) (hlo : lv.map Prod.snd = av)
    (body : ∀ k : Kx, CX k y.cls cc nL → (kmeth k).sig.returnType = ret → klev k = lev → kmc k = mc → kms k = ms → kPo k = PoR r → kPx k = PxR r → (∀ x ∈ (kc k).exceptionTable.toList, False) → EV k 0 lv [] G 0 0) : Cn y (wsy y cc nL ret) lev mc ms nn av G r :=
  con_i hy ⟨fun h => h, fun h => h⟩ hlen hlv (fun q hq => by rw [← hlo]; exact List.mem_map_of_mem hq) (fun k C hr _ _ h1 h2 h3 _ h4 h5 h6 => body k C hr h1 h2 h3 h4 h5 h6)
end
section
/-! THE MODEL'S METHODS: plain ones -/
def inB (v lo hi : Int) : Bool := decide (lo ≤ v) && decide (v ≤ hi)
def pBc (v : SS) (i j : Int) : Int := bAnd (bShr (v.2 7 i.toNat) j) 1
set_option maxHeartbeats 4000000 in
set_option maxRecDepth 100000 in
theorem c_X7_thrown {u v : SS} {g : GH} : Cn yX7_thrown (wsy yX7_thrown cX7_thrown 1 (some .int)) 0 0 0 nn [vR (some 0)] (mk u v g) (.inl (some (vI (v.1 26)), mk u v g)) := by
  refine con_j (lv := [(0, vR (some 0))]) (by decide) (fun ad => Nat.le_of_ble_eq_true rfl) (fun ad => rfl) rfl ?_
  intro k C hr hlv hmc hms hPo hPx htab
  refine ev_s C dX7_thrown_0 (q := 1) rfl rfl ?_
  refine mg_26 C dX7_thrown_1 (q := 4) rfl ?_
  exact ev_iret C hr dX7_thrown_4 (Nat.zero_le _) (Nat.zero_le _) (po_1 hPo (by first | rfl | simp [*]) rfl)
set_option maxHeartbeats 4000000 in
set_option maxRecDepth 100000 in
theorem c_X7_fails {u v : SS} {g : GH} {x : Int} (hx : rg x) : Cn yX7_fails (wsy yX7_fails cX7_fails 2 (some .boolean)) 0 0 0 nn [vR (some 0), vI x] (mk u v g) (.inl (some (vI (bI (decide (0 < x)))), mk u (stS v 26 x) g)) := by
  refine con_j (lv := [(0, vR (some 0)), (1, vI x)]) (by decide) (fun ad => Nat.le_of_ble_eq_true rfl) (fun ad => rfl) rfl ?_
  intro k C hr hlv hmc hms hPo hPx htab
  refine ev_s C dX7_fails_0 (q := 1) rfl rfl ?_
  refine ev_s C dX7_fails_1 (q := 2) rfl rfl ?_
  refine mp_26 C dX7_fails_2 (q := 5) rfl ?_
  refine ev_s C dX7_fails_5 (q := 6) rfl rfl ?_
  refine ev_if_le C dX7_fails_6 (tgt := 13) (q := 9) (by decide) rfl (by first | decide | (unfold rg; omega) | assumption) (fun h0 => ?_) (fun h0 => ?_)
  · refine ev_s C dX7_fails_13 (q := 14) rfl rfl ?_
    exact ev_zret C hr (fit_Z (by first | decide | exact bI_01 _ | assumption)) dX7_fails_14 (Nat.zero_le _) (Nat.zero_le _) (po_1 hPo (by simp [bI] <;> omega) rfl)
  · refine ev_s C dX7_fails_9 (q := 10) rfl rfl ?_
    refine ev_goto C dX7_fails_10 (tgt := 14) (by decide) ?_
    exact ev_zret C hr (fit_Z (by first | decide | exact bI_01 _ | assumption)) dX7_fails_14 (Nat.zero_le _) (Nat.zero_le _) (po_1 hPo (by simp [bI] <;> omega) rfl)
set_option maxHeartbeats 4000000 in
set_option maxRecDepth 100000 in
theorem c_X7_tells {u v : SS} {g : GH} {x : Int} : Cn yX7_tells (wsy yX7_tells cX7_tells 2 (some .int)) 0 0 0 nn [vR (some 0), vI x] (mk u v g) (.inl (some (vI x), mk u (stS v 26 0) g)) := by
  refine con_j (lv := [(0, vR (some 0)), (1, vI x)]) (by decide) (fun ad => Nat.le_of_ble_eq_true rfl) (fun ad => rfl) rfl ?_
  intro k C hr hlv hmc hms hPo hPx htab
  refine ev_s C dX7_tells_0 (q := 1) rfl rfl ?_
  refine ev_s C dX7_tells_1 (q := 2) rfl rfl ?_
  refine mp_26 C dX7_tells_2 (q := 5) rfl ?_
  refine ev_s C dX7_tells_5 (q := 6) rfl rfl ?_
  exact ev_iret C hr dX7_tells_6 (Nat.zero_le _) (Nat.zero_le _) (po_1 hPo (by first | rfl | simp [*]) rfl)
set_option maxHeartbeats 4000000 in
set_option maxRecDepth 100000 in
theorem c_X7_in {G : GH} {v lo hi : Int} (h1 : rg v) (h2 : rg lo) (h3 : rg hi) : Cn yX7_in (wsy yX7_in cX7_in 3 (some .boolean)) 0 0 0 nn [vI v, vI lo, vI hi] G (.inl (some (vI (bI (inB v lo hi))), G)) := by
  refine con_j (lv := [(0, vI v), (1, vI lo), (2, vI hi)]) (by decide) (fun ad => Nat.le_of_ble_eq_true rfl) (fun ad => rfl) rfl ?_
  intro k C hr hlv hmc hms hPo hPx htab
  refine ev_s C dX7_in_0 (q := 1) rfl rfl ?_
  refine ev_s C dX7_in_1 (q := 2) rfl rfl ?_
  refine ev_icmp_lt C dX7_in_2 (tgt := 14) (q := 5) (by decide) rfl (by first | decide | (unfold rg; omega) | assumption) (by first | decide | (unfold rg; omega) | assumption) (fun h0 => ?_) (fun h0 => ?_)
  · refine ev_s C dX7_in_14 (q := 15) rfl rfl ?_
    exact ev_zret C hr (fit_Z (by first | decide | exact bI_01 _ | assumption)) dX7_in_15 (Nat.zero_le _) (Nat.zero_le _) (po_1 hPo (by simp [inB, bI] <;> omega) rfl)
  · refine ev_s C dX7_in_5 (q := 6) rfl rfl ?_
    refine ev_s C dX7_in_6 (q := 7) rfl rfl ?_
    refine ev_icmp_gt C dX7_in_7 (tgt := 14) (q := 10) (by decide) rfl (by first | decide | (unfold rg; omega) | assumption) (by first | decide | (unfold rg; omega) | assumption) (fun h1 => ?_) (fun h1 => ?_)
    · refine ev_s C dX7_in_14 (q := 15) rfl rfl ?_
      exact ev_zret C hr (fit_Z (by first | decide | exact bI_01 _ | assumption)) dX7_in_15 (Nat.zero_le _) (Nat.zero_le _) (po_1 hPo (by simp [inB, bI] <;> omega) rfl)
    · refine ev_s C dX7_in_10 (q := 11) rfl rfl ?_
      refine ev_goto C dX7_in_11 (tgt := 15) (by decide) ?_
      exact ev_zret C hr (fit_Z (by first | decide | exact bI_01 _ | assumption)) dX7_in_15 (Nat.zero_le _) (Nat.zero_le _) (po_1 hPo (by simp [inB, bI] <;> omega) rfl)
end
