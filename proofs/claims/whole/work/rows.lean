section
-- ===== PART A: goes FIRST, ahead of the names: the tables' words, and 'selects' of the private methods out of them =====
/-- a private method of a class that the tables say can be made, by its rows of tables_1 -/
def lw_okq (q : MethodName × Nat) : Prop := (q.1.cls ≠ "java/lang/invoke/MethodHandle" ∧ q.1.cls ≠ "java/lang/invoke/VarHandle") ∧ Cond.instantiable q.1.cls q.2 ∈ tables_1 ∧ Cond.privateMethod q.1 ∈ tables_1 ∧ Cond.instanceMethod q.1 ∈ tables_1
theorem lw_p0 : lw_okq (⟨"PlugTree", "dismissLeaving", "()Z"⟩, 14) := ⟨⟨by decide +kernel, by decide +kernel⟩, List.mem_of_getElem? (i := 23) (by decide +kernel), List.mem_of_getElem? (i := 176) (by decide +kernel), List.mem_of_getElem? (i := 177) (by decide +kernel)⟩
theorem lw_p1 : lw_okq (⟨"PlugTree", "examine", "(LPlugTree$Card;)V"⟩, 14) := ⟨⟨by decide +kernel, by decide +kernel⟩, List.mem_of_getElem? (i := 23) (by decide +kernel), List.mem_of_getElem? (i := 184) (by decide +kernel), List.mem_of_getElem? (i := 185) (by decide +kernel)⟩
theorem lw_p2 : lw_okq (⟨"PlugTree", "exceedsPower", "(LPlugTree$Card;)Z"⟩, 14) := ⟨⟨by decide +kernel, by decide +kernel⟩, List.mem_of_getElem? (i := 23) (by decide +kernel), List.mem_of_getElem? (i := 208) (by decide +kernel), List.mem_of_getElem? (i := 209) (by decide +kernel)⟩
theorem lw_p3 : lw_okq (⟨"PlugTree", "powerUsed", "(LPlugTree$Bridge;)I"⟩, 14) := ⟨⟨by decide +kernel, by decide +kernel⟩, List.mem_of_getElem? (i := 23) (by decide +kernel), List.mem_of_getElem? (i := 212) (by decide +kernel), List.mem_of_getElem? (i := 213) (by decide +kernel)⟩
theorem lw_p4 : lw_okq (⟨"PlugTree", "refuse", "(LPlugTree$Card;I)V"⟩, 14) := ⟨⟨by decide +kernel, by decide +kernel⟩, List.mem_of_getElem? (i := 23) (by decide +kernel), List.mem_of_getElem? (i := 221) (by decide +kernel), List.mem_of_getElem? (i := 222) (by decide +kernel)⟩
theorem lw_p5 : lw_okq (⟨"PlugTree", "fits", "(LPlugTree$Card;II)Z"⟩, 14) := ⟨⟨by decide +kernel, by decide +kernel⟩, List.mem_of_getElem? (i := 23) (by decide +kernel), List.mem_of_getElem? (i := 225) (by decide +kernel), List.mem_of_getElem? (i := 226) (by decide +kernel)⟩
theorem lw_p6 : lw_okq (⟨"PlugTree", "grows", "(LPlugTree$Card;)Z"⟩, 14) := ⟨⟨by decide +kernel, by decide +kernel⟩, List.mem_of_getElem? (i := 23) (by decide +kernel), List.mem_of_getElem? (i := 241) (by decide +kernel), List.mem_of_getElem? (i := 242) (by decide +kernel)⟩
theorem lw_p7 : lw_okq (⟨"PlugTree", "growsFrom", "(LPlugTree$Card;III)Z"⟩, 14) := ⟨⟨by decide +kernel, by decide +kernel⟩, List.mem_of_getElem? (i := 23) (by decide +kernel), List.mem_of_getElem? (i := 246) (by decide +kernel), List.mem_of_getElem? (i := 247) (by decide +kernel)⟩
theorem lw_p8 : lw_okq (⟨"PlugTree", "settleIn", "(LPlugTree$Card;)V"⟩, 14) := ⟨⟨by decide +kernel, by decide +kernel⟩, List.mem_of_getElem? (i := 23) (by decide +kernel), List.mem_of_getElem? (i := 254) (by decide +kernel), List.mem_of_getElem? (i := 255) (by decide +kernel)⟩
theorem lw_p9 : lw_okq (⟨"PlugTree", "canAllPause", "()Z"⟩, 14) := ⟨⟨by decide +kernel, by decide +kernel⟩, List.mem_of_getElem? (i := 23) (by decide +kernel), List.mem_of_getElem? (i := 259) (by decide +kernel), List.mem_of_getElem? (i := 260) (by decide +kernel)⟩
theorem lw_p10 : lw_okq (⟨"PlugTree", "measureBlocks", "()I"⟩, 14) := ⟨⟨by decide +kernel, by decide +kernel⟩, List.mem_of_getElem? (i := 23) (by decide +kernel), List.mem_of_getElem? (i := 263) (by decide +kernel), List.mem_of_getElem? (i := 264) (by decide +kernel)⟩
theorem lw_p11 : lw_okq (⟨"PlugTree", "turnAll", "(II)V"⟩, 14) := ⟨⟨by decide +kernel, by decide +kernel⟩, List.mem_of_getElem? (i := 23) (by decide +kernel), List.mem_of_getElem? (i := 279) (by decide +kernel), List.mem_of_getElem? (i := 280) (by decide +kernel)⟩
theorem lw_p12 : lw_okq (⟨"PlugTree", "isSomeRequestStarted", "()Z"⟩, 14) := ⟨⟨by decide +kernel, by decide +kernel⟩, List.mem_of_getElem? (i := 23) (by decide +kernel), List.mem_of_getElem? (i := 283) (by decide +kernel), List.mem_of_getElem? (i := 284) (by decide +kernel)⟩
theorem lw_p13 : lw_okq (⟨"PlugTree", "moveAll", "(LPlugTree$Card;)V"⟩, 14) := ⟨⟨by decide +kernel, by decide +kernel⟩, List.mem_of_getElem? (i := 23) (by decide +kernel), List.mem_of_getElem? (i := 287) (by decide +kernel), List.mem_of_getElem? (i := 288) (by decide +kernel)⟩
theorem lw_p14 : lw_okq (⟨"PlugTree", "layOut", "(LPlugTree$Bridge;)V"⟩, 14) := ⟨⟨by decide +kernel, by decide +kernel⟩, List.mem_of_getElem? (i := 23) (by decide +kernel), List.mem_of_getElem? (i := 291) (by decide +kernel), List.mem_of_getElem? (i := 292) (by decide +kernel)⟩
theorem lw_p15 : lw_okq (⟨"PlugTree", "layRanges", "(LPlugTree$Card;II)I"⟩, 14) := ⟨⟨by decide +kernel, by decide +kernel⟩, List.mem_of_getElem? (i := 23) (by decide +kernel), List.mem_of_getElem? (i := 295) (by decide +kernel), List.mem_of_getElem? (i := 296) (by decide +kernel)⟩
def lw_privs_1 : List (MethodName × Nat) := [(⟨"PlugTree", "dismissLeaving", "()Z"⟩, 14), (⟨"PlugTree", "examine", "(LPlugTree$Card;)V"⟩, 14), (⟨"PlugTree", "exceedsPower", "(LPlugTree$Card;)Z"⟩, 14), (⟨"PlugTree", "powerUsed", "(LPlugTree$Bridge;)I"⟩, 14), (⟨"PlugTree", "refuse", "(LPlugTree$Card;I)V"⟩, 14), (⟨"PlugTree", "fits", "(LPlugTree$Card;II)Z"⟩, 14), (⟨"PlugTree", "grows", "(LPlugTree$Card;)Z"⟩, 14), (⟨"PlugTree", "growsFrom", "(LPlugTree$Card;III)Z"⟩, 14), (⟨"PlugTree", "settleIn", "(LPlugTree$Card;)V"⟩, 14), (⟨"PlugTree", "canAllPause", "()Z"⟩, 14), (⟨"PlugTree", "measureBlocks", "()I"⟩, 14), (⟨"PlugTree", "turnAll", "(II)V"⟩, 14), (⟨"PlugTree", "isSomeRequestStarted", "()Z"⟩, 14), (⟨"PlugTree", "moveAll", "(LPlugTree$Card;)V"⟩, 14), (⟨"PlugTree", "layOut", "(LPlugTree$Bridge;)V"⟩, 14), (⟨"PlugTree", "layRanges", "(LPlugTree$Card;II)I"⟩, 14)]
theorem lw_r1 : ∀ q ∈ lw_privs_1, lw_okq q := List.forall_mem_cons.mpr ⟨lw_p0, List.forall_mem_cons.mpr ⟨lw_p1, List.forall_mem_cons.mpr ⟨lw_p2, List.forall_mem_cons.mpr ⟨lw_p3, List.forall_mem_cons.mpr ⟨lw_p4, List.forall_mem_cons.mpr ⟨lw_p5, List.forall_mem_cons.mpr ⟨lw_p6, List.forall_mem_cons.mpr ⟨lw_p7, List.forall_mem_cons.mpr ⟨lw_p8, List.forall_mem_cons.mpr ⟨lw_p9, List.forall_mem_cons.mpr ⟨lw_p10, List.forall_mem_cons.mpr ⟨lw_p11, List.forall_mem_cons.mpr ⟨lw_p12, List.forall_mem_cons.mpr ⟨lw_p13, List.forall_mem_cons.mpr ⟨lw_p14, List.forall_mem_cons.mpr ⟨lw_p15, fun _ h => absurd h List.not_mem_nil⟩⟩⟩⟩⟩⟩⟩⟩⟩⟩⟩⟩⟩⟩⟩⟩
theorem lw_p16 : lw_okq (⟨"PlugTree", "bridgeNumbered", "(I)LPlugTree$Bridge;"⟩, 14) := ⟨⟨by decide +kernel, by decide +kernel⟩, List.mem_of_getElem? (i := 23) (by decide +kernel), List.mem_of_getElem? (i := 328) (by decide +kernel), List.mem_of_getElem? (i := 329) (by decide +kernel)⟩
theorem lw_p17 : lw_okq (⟨"java/lang/Throwable", "fillInStackTrace", "(I)Ljava/lang/Throwable;"⟩, 6) := ⟨⟨by decide +kernel, by decide +kernel⟩, List.mem_of_getElem? (i := 372) (by decide +kernel), List.mem_of_getElem? (i := 370) (by decide +kernel), List.mem_of_getElem? (i := 371) (by decide +kernel)⟩
theorem lw_p18 : lw_okq (⟨"PlugTree", "cardNumbered", "(I)LPlugTree$Card;"⟩, 14) := ⟨⟨by decide +kernel, by decide +kernel⟩, List.mem_of_getElem? (i := 23) (by decide +kernel), List.mem_of_getElem? (i := 521) (by decide +kernel), List.mem_of_getElem? (i := 522) (by decide +kernel)⟩
theorem lw_p19 : lw_okq (⟨"java/util/ArrayList", "add", "(Ljava/lang/Object;[Ljava/lang/Object;I)V"⟩, 3) := ⟨⟨by decide +kernel, by decide +kernel⟩, List.mem_of_getElem? (i := 37) (by decide +kernel), List.mem_of_getElem? (i := 573) (by decide +kernel), List.mem_of_getElem? (i := 574) (by decide +kernel)⟩
theorem lw_p20 : lw_okq (⟨"java/util/ArrayList", "grow", "()[Ljava/lang/Object;"⟩, 3) := ⟨⟨by decide +kernel, by decide +kernel⟩, List.mem_of_getElem? (i := 37) (by decide +kernel), List.mem_of_getElem? (i := 577) (by decide +kernel), List.mem_of_getElem? (i := 578) (by decide +kernel)⟩
theorem lw_p21 : lw_okq (⟨"java/util/ArrayList", "grow", "(I)[Ljava/lang/Object;"⟩, 3) := ⟨⟨by decide +kernel, by decide +kernel⟩, List.mem_of_getElem? (i := 37) (by decide +kernel), List.mem_of_getElem? (i := 581) (by decide +kernel), List.mem_of_getElem? (i := 582) (by decide +kernel)⟩
theorem lw_p22 : lw_okq (⟨"PlugTreeModel", "isBridge", "(I)Z"⟩, 31) := ⟨⟨by decide +kernel, by decide +kernel⟩, List.mem_of_getElem? (i := 695) (by decide +kernel), List.mem_of_getElem? (i := 805) (by decide +kernel), List.mem_of_getElem? (i := 806) (by decide +kernel)⟩
theorem lw_p23 : lw_okq (⟨"PlugTreeModel", "depthOf", "(I)I"⟩, 31) := ⟨⟨by decide +kernel, by decide +kernel⟩, List.mem_of_getElem? (i := 695) (by decide +kernel), List.mem_of_getElem? (i := 812) (by decide +kernel), List.mem_of_getElem? (i := 813) (by decide +kernel)⟩
theorem lw_p24 : lw_okq (⟨"PlugTreeModel", "goOn", "()Z"⟩, 31) := ⟨⟨by decide +kernel, by decide +kernel⟩, List.mem_of_getElem? (i := 695) (by decide +kernel), List.mem_of_getElem? (i := 828) (by decide +kernel), List.mem_of_getElem? (i := 829) (by decide +kernel)⟩
theorem lw_p25 : lw_okq (⟨"PlugTreeModel", "remove", "(II)V"⟩, 31) := ⟨⟨by decide +kernel, by decide +kernel⟩, List.mem_of_getElem? (i := 695) (by decide +kernel), List.mem_of_getElem? (i := 832) (by decide +kernel), List.mem_of_getElem? (i := 833) (by decide +kernel)⟩
theorem lw_p26 : lw_okq (⟨"PlugTreeModel", "check", "()V"⟩, 31) := ⟨⟨by decide +kernel, by decide +kernel⟩, List.mem_of_getElem? (i := 695) (by decide +kernel), List.mem_of_getElem? (i := 836) (by decide +kernel), List.mem_of_getElem? (i := 837) (by decide +kernel)⟩
theorem lw_p27 : lw_okq (⟨"PlugTreeModel", "powerOf", "(I)I"⟩, 31) := ⟨⟨by decide +kernel, by decide +kernel⟩, List.mem_of_getElem? (i := 695) (by decide +kernel), List.mem_of_getElem? (i := 840) (by decide +kernel), List.mem_of_getElem? (i := 841) (by decide +kernel)⟩
theorem lw_p28 : lw_okq (⟨"PlugTreeModel", "isThere", "(I)Z"⟩, 31) := ⟨⟨by decide +kernel, by decide +kernel⟩, List.mem_of_getElem? (i := 695) (by decide +kernel), List.mem_of_getElem? (i := 844) (by decide +kernel), List.mem_of_getElem? (i := 845) (by decide +kernel)⟩
theorem lw_p29 : lw_okq (⟨"PlugTreeModel", "hangsUnder", "(II)Z"⟩, 31) := ⟨⟨by decide +kernel, by decide +kernel⟩, List.mem_of_getElem? (i := 695) (by decide +kernel), List.mem_of_getElem? (i := 848) (by decide +kernel), List.mem_of_getElem? (i := 849) (by decide +kernel)⟩
theorem lw_p30 : lw_okq (⟨"PlugTreeModel", "refuse", "(I)V"⟩, 31) := ⟨⟨by decide +kernel, by decide +kernel⟩, List.mem_of_getElem? (i := 695) (by decide +kernel), List.mem_of_getElem? (i := 852) (by decide +kernel), List.mem_of_getElem? (i := 853) (by decide +kernel)⟩
theorem lw_p31 : lw_okq (⟨"PlugTreeModel", "fits", "(II)Z"⟩, 31) := ⟨⟨by decide +kernel, by decide +kernel⟩, List.mem_of_getElem? (i := 695) (by decide +kernel), List.mem_of_getElem? (i := 856) (by decide +kernel), List.mem_of_getElem? (i := 857) (by decide +kernel)⟩
def lw_privs_2 : List (MethodName × Nat) := [(⟨"PlugTree", "bridgeNumbered", "(I)LPlugTree$Bridge;"⟩, 14), (⟨"java/lang/Throwable", "fillInStackTrace", "(I)Ljava/lang/Throwable;"⟩, 6), (⟨"PlugTree", "cardNumbered", "(I)LPlugTree$Card;"⟩, 14), (⟨"java/util/ArrayList", "add", "(Ljava/lang/Object;[Ljava/lang/Object;I)V"⟩, 3), (⟨"java/util/ArrayList", "grow", "()[Ljava/lang/Object;"⟩, 3), (⟨"java/util/ArrayList", "grow", "(I)[Ljava/lang/Object;"⟩, 3), (⟨"PlugTreeModel", "isBridge", "(I)Z"⟩, 31), (⟨"PlugTreeModel", "depthOf", "(I)I"⟩, 31), (⟨"PlugTreeModel", "goOn", "()Z"⟩, 31), (⟨"PlugTreeModel", "remove", "(II)V"⟩, 31), (⟨"PlugTreeModel", "check", "()V"⟩, 31), (⟨"PlugTreeModel", "powerOf", "(I)I"⟩, 31), (⟨"PlugTreeModel", "isThere", "(I)Z"⟩, 31), (⟨"PlugTreeModel", "hangsUnder", "(II)Z"⟩, 31), (⟨"PlugTreeModel", "refuse", "(I)V"⟩, 31), (⟨"PlugTreeModel", "fits", "(II)Z"⟩, 31)]
theorem lw_r2 : ∀ q ∈ lw_privs_2, lw_okq q := List.forall_mem_cons.mpr ⟨lw_p16, List.forall_mem_cons.mpr ⟨lw_p17, List.forall_mem_cons.mpr ⟨lw_p18, List.forall_mem_cons.mpr ⟨lw_p19, List.forall_mem_cons.mpr ⟨lw_p20, List.forall_mem_cons.mpr ⟨lw_p21, List.forall_mem_cons.mpr ⟨lw_p22, List.forall_mem_cons.mpr ⟨lw_p23, List.forall_mem_cons.mpr ⟨lw_p24, List.forall_mem_cons.mpr ⟨lw_p25, List.forall_mem_cons.mpr ⟨lw_p26, List.forall_mem_cons.mpr ⟨lw_p27, List.forall_mem_cons.mpr ⟨lw_p28, List.forall_mem_cons.mpr ⟨lw_p29, List.forall_mem_cons.mpr ⟨lw_p30, List.forall_mem_cons.mpr ⟨lw_p31, fun _ h => absurd h List.not_mem_nil⟩⟩⟩⟩⟩⟩⟩⟩⟩⟩⟩⟩⟩⟩⟩⟩
theorem lw_p32 : lw_okq (⟨"PlugTreeModel", "lookAt", "(IIII[Z)V"⟩, 31) := ⟨⟨by decide +kernel, by decide +kernel⟩, List.mem_of_getElem? (i := 695) (by decide +kernel), List.mem_of_getElem? (i := 860) (by decide +kernel), List.mem_of_getElem? (i := 861) (by decide +kernel)⟩
theorem lw_p33 : lw_okq (⟨"PlugTreeModel", "sizeOf", "(II)I"⟩, 31) := ⟨⟨by decide +kernel, by decide +kernel⟩, List.mem_of_getElem? (i := 695) (by decide +kernel), List.mem_of_getElem? (i := 867) (by decide +kernel), List.mem_of_getElem? (i := 868) (by decide +kernel)⟩
theorem lw_p34 : lw_okq (⟨"PlugTreeModel", "placeFor", "(III)I"⟩, 31) := ⟨⟨by decide +kernel, by decide +kernel⟩, List.mem_of_getElem? (i := 695) (by decide +kernel), List.mem_of_getElem? (i := 871) (by decide +kernel), List.mem_of_getElem? (i := 872) (by decide +kernel)⟩
theorem lw_p35 : lw_okq (⟨"PlugTreeModel", "grows", "()Z"⟩, 31) := ⟨⟨by decide +kernel, by decide +kernel⟩, List.mem_of_getElem? (i := 695) (by decide +kernel), List.mem_of_getElem? (i := 875) (by decide +kernel), List.mem_of_getElem? (i := 876) (by decide +kernel)⟩
theorem lw_p36 : lw_okq (⟨"PlugTreeModel", "growsFrom", "(II)Z"⟩, 31) := ⟨⟨by decide +kernel, by decide +kernel⟩, List.mem_of_getElem? (i := 695) (by decide +kernel), List.mem_of_getElem? (i := 879) (by decide +kernel), List.mem_of_getElem? (i := 880) (by decide +kernel)⟩
theorem lw_p37 : lw_okq (⟨"PlugTreeModel", "isFree", "(III)Z"⟩, 31) := ⟨⟨by decide +kernel, by decide +kernel⟩, List.mem_of_getElem? (i := 695) (by decide +kernel), List.mem_of_getElem? (i := 883) (by decide +kernel), List.mem_of_getElem? (i := 884) (by decide +kernel)⟩
theorem lw_p38 : lw_okq (⟨"PlugTreeModel", "measure", "()V"⟩, 31) := ⟨⟨by decide +kernel, by decide +kernel⟩, List.mem_of_getElem? (i := 695) (by decide +kernel), List.mem_of_getElem? (i := 887) (by decide +kernel), List.mem_of_getElem? (i := 888) (by decide +kernel)⟩
theorem lw_p39 : lw_okq (⟨"PlugTreeModel", "laidBy", "(I)I"⟩, 31) := ⟨⟨by decide +kernel, by decide +kernel⟩, List.mem_of_getElem? (i := 695) (by decide +kernel), List.mem_of_getElem? (i := 891) (by decide +kernel), List.mem_of_getElem? (i := 892) (by decide +kernel)⟩
theorem lw_p40 : lw_okq (⟨"PlugTreeModel", "change", "(II)V"⟩, 31) := ⟨⟨by decide +kernel, by decide +kernel⟩, List.mem_of_getElem? (i := 695) (by decide +kernel), List.mem_of_getElem? (i := 895) (by decide +kernel), List.mem_of_getElem? (i := 896) (by decide +kernel)⟩
theorem lw_p41 : lw_okq (⟨"PlugTreeModel", "moveAll", "()V"⟩, 31) := ⟨⟨by decide +kernel, by decide +kernel⟩, List.mem_of_getElem? (i := 695) (by decide +kernel), List.mem_of_getElem? (i := 899) (by decide +kernel), List.mem_of_getElem? (i := 900) (by decide +kernel)⟩
theorem lw_p42 : lw_okq (⟨"PlugTreeModel", "plan", "()V"⟩, 31) := ⟨⟨by decide +kernel, by decide +kernel⟩, List.mem_of_getElem? (i := 695) (by decide +kernel), List.mem_of_getElem? (i := 903) (by decide +kernel), List.mem_of_getElem? (i := 904) (by decide +kernel)⟩
theorem lw_p43 : lw_okq (⟨"PlugTreeModel", "isCard", "(I)Z"⟩, 31) := ⟨⟨by decide +kernel, by decide +kernel⟩, List.mem_of_getElem? (i := 695) (by decide +kernel), List.mem_of_getElem? (i := 915) (by decide +kernel), List.mem_of_getElem? (i := 916) (by decide +kernel)⟩
theorem lw_p44 : lw_okq (⟨"PlugTreeModel", "lose", "(II)I"⟩, 31) := ⟨⟨by decide +kernel, by decide +kernel⟩, List.mem_of_getElem? (i := 695) (by decide +kernel), List.mem_of_getElem? (i := 919) (by decide +kernel), List.mem_of_getElem? (i := 920) (by decide +kernel)⟩
theorem lw_p45 : lw_okq (⟨"PlugTreeModel", "firstOf", "(I)I"⟩, 31) := ⟨⟨by decide +kernel, by decide +kernel⟩, List.mem_of_getElem? (i := 695) (by decide +kernel), List.mem_of_getElem? (i := 929) (by decide +kernel), List.mem_of_getElem? (i := 930) (by decide +kernel)⟩
theorem lw_p46 : lw_okq (⟨"PlugTreeModel", "waiting", "(I)I"⟩, 31) := ⟨⟨by decide +kernel, by decide +kernel⟩, List.mem_of_getElem? (i := 695) (by decide +kernel), List.mem_of_getElem? (i := 937) (by decide +kernel), List.mem_of_getElem? (i := 938) (by decide +kernel)⟩
def lw_privs_3 : List (MethodName × Nat) := [(⟨"PlugTreeModel", "lookAt", "(IIII[Z)V"⟩, 31), (⟨"PlugTreeModel", "sizeOf", "(II)I"⟩, 31), (⟨"PlugTreeModel", "placeFor", "(III)I"⟩, 31), (⟨"PlugTreeModel", "grows", "()Z"⟩, 31), (⟨"PlugTreeModel", "growsFrom", "(II)Z"⟩, 31), (⟨"PlugTreeModel", "isFree", "(III)Z"⟩, 31), (⟨"PlugTreeModel", "measure", "()V"⟩, 31), (⟨"PlugTreeModel", "laidBy", "(I)I"⟩, 31), (⟨"PlugTreeModel", "change", "(II)V"⟩, 31), (⟨"PlugTreeModel", "moveAll", "()V"⟩, 31), (⟨"PlugTreeModel", "plan", "()V"⟩, 31), (⟨"PlugTreeModel", "isCard", "(I)Z"⟩, 31), (⟨"PlugTreeModel", "lose", "(II)I"⟩, 31), (⟨"PlugTreeModel", "firstOf", "(I)I"⟩, 31), (⟨"PlugTreeModel", "waiting", "(I)I"⟩, 31)]
theorem lw_r3 : ∀ q ∈ lw_privs_3, lw_okq q := List.forall_mem_cons.mpr ⟨lw_p32, List.forall_mem_cons.mpr ⟨lw_p33, List.forall_mem_cons.mpr ⟨lw_p34, List.forall_mem_cons.mpr ⟨lw_p35, List.forall_mem_cons.mpr ⟨lw_p36, List.forall_mem_cons.mpr ⟨lw_p37, List.forall_mem_cons.mpr ⟨lw_p38, List.forall_mem_cons.mpr ⟨lw_p39, List.forall_mem_cons.mpr ⟨lw_p40, List.forall_mem_cons.mpr ⟨lw_p41, List.forall_mem_cons.mpr ⟨lw_p42, List.forall_mem_cons.mpr ⟨lw_p43, List.forall_mem_cons.mpr ⟨lw_p44, List.forall_mem_cons.mpr ⟨lw_p45, List.forall_mem_cons.mpr ⟨lw_p46, fun _ h => absurd h List.not_mem_nil⟩⟩⟩⟩⟩⟩⟩⟩⟩⟩⟩⟩⟩⟩⟩
def lw_privs : List (MethodName × Nat) := lw_privs_1 ++ (lw_privs_2 ++ (lw_privs_3))
def lw_tbl : List Cond := k2_sels lw_privs ++ tables_1
theorem lw_privs_ok : ∀ q ∈ lw_privs, lw_okq q := by
  show ∀ q ∈ lw_privs_1 ++ (lw_privs_2 ++ (lw_privs_3)), lw_okq q
  exact List.forall_mem_append.mpr ⟨lw_r1, List.forall_mem_append.mpr ⟨lw_r2, lw_r3⟩⟩
end
section
/-! THE SMALL MACHINE: what a method does, as a function on small states: a heap of cells (all that were made since the law began, in the order of their making), local variables, a stack. Its steps stand for the machine's own by the theorems of the next parts; behind those nothing of the machine is seen. -/
/-- a cell: an array (its kind's number, length, contents) or an object (its class's number, fields) -/
abbrev mv_C : Type := (Nat × Nat × (Nat → Value)) ⊕ (Nat × (Nat → Value))
abbrev mv_H : Type := List mv_C
/-- local variables: what is known of each place -/
abbrev mv_L : Type := List (Option Value)
/-- a frame: pc, local variables, stack -/
abbrev mv_F : Type := Nat × mv_L × List Value
/-- a class: name, fields (declarer, name, descriptor, final), how many are told, slots of an object, types of the told fields -/
abbrev mv_K : Type := String × u_T × Nat × Nat × List FieldType
/-- a method: name, code, maxLocals, what it returns, handlers as the class file has them, the same with classes' numbers, arguments, the class's number, rows by pc (length, the instruction, the instruction with our numbers, where its words stand) -/
abbrev mv_J : Type := MethodName × ByteArray × Nat × Option FieldType × List (Nat × Nat × Nat × Nat) × List (Nat × Nat × Nat × Nat) × Nat × Nat × List (Option (Nat × Instr × Instr × List Nat))
abbrev mj_y (q : mv_J) : MethodName := q.1
abbrev mj_b (q : mv_J) : ByteArray := q.2.1
abbrev mj_n (q : mv_J) : Nat := q.2.2.1
abbrev mj_r (q : mv_J) : Option FieldType := q.2.2.2.1
abbrev mj_hh (q : mv_J) : List (Nat × Nat × Nat × Nat) := q.2.2.2.2.1
abbrev mj_hr (q : mv_J) : List (Nat × Nat × Nat × Nat) := q.2.2.2.2.2.1
abbrev mj_a (q : mv_J) : Nat := q.2.2.2.2.2.2.1
abbrev mj_k (q : mv_J) : Nat := q.2.2.2.2.2.2.2.1
abbrev mj_c (q : mv_J) : List (Option (Nat × Instr × Instr × List Nat)) := q.2.2.2.2.2.2.2.2
/-- the places: where our cells begin, the script's cell, its length, its ints, the empty array of the lists, the array class's own object -/
abbrev mv_E : Type := Nat × Nat × Nat × (Nat → Int32) × Nat × Nat
/-- the tables: classes, kinds of arrays, which classes' objects go into which arrays, methods -/
abbrev mv_T : Type := List mv_K × List FieldType × List (Nat × Nat) × List mv_J
def mv_lk (b : Nat) (h : mv_H) (a : Nat) : Option mv_C := if b ≤ a then h[a - b]? else none
def mv_up (b : Nat) (h : mv_H) (a : Nat) (x : mv_C) : mv_H := h.set (a - b) x
def mv_cz (cl : List mv_K) (x : mv_C) : Nat := match x with
  | .inl y => y.2.1
  | .inr y => match cl[y.1]? with
    | some r => r.2.2.2.1
    | none => 0
def mv_sz (cl : List mv_K) : mv_H → Nat
  | [] => 0
  | x :: h => mv_cz cl x + mv_sz cl h
/-! local variables -/
def mv_get (L : mv_L) (i : Nat) : Option Value := match L[i]? with
  | some (some v) => some v
  | _ => none
def mv_kill (L : mv_L) (i : Nat) : mv_L := match i with
  | 0 => L
  | k + 1 => match L[k]? with
    | some (some (.long _)) => L.set k none
    | some (some (.double _)) => L.set k none
    | _ => L
def mv_set1 (L : mv_L) (i : Nat) (v : Value) : Option mv_L := if i < L.length then some ((mv_kill L i).set i (some v)) else none
def mv_set2 (L : mv_L) (i : Nat) (v : Value) : Option mv_L := if i + 1 < L.length then some (((mv_kill L i).set i (some v)).set (i + 1) none) else none
def mv_ent (as : List Value) : mv_L := match as with
  | [] => []
  | v :: r => if v.category = 2 then some v :: none :: mv_ent r else some v :: mv_ent r
/-- the local variables with which a method begins -/
def mv_in (n : Nat) (as : List Value) : mv_L := mv_ent as ++ List.replicate (n - (mv_ent as).length) none
/-! instructions that see no heap; a jump's operand is the place where it goes -/
def mv_ref (v : Value) : Bool := match v with
  | .null => true
  | .ref _ => true
  | _ => false
def mv_ld (L : mv_L) (i nx : Nat) (S : List Value) (ok : Value → Bool) : Option mv_F := match mv_get L i with
  | some v => if ok v = true then some (nx, L, v :: S) else none
  | none => none
def mv_isI (v : Value) : Bool := match v with
  | .int _ => true
  | _ => false
def mv_isL (v : Value) : Bool := match v with
  | .long _ => true
  | _ => false
def mv_st (L : mv_L) (i nx : Nat) (S : List Value) (ok : Value → Bool) : Option mv_F := match S with
  | v :: r => if ok v = true then (match mv_set1 L i v with
    | some L' => some (nx, L', r)
    | none => none) else none
  | _ => none
def mv_stL (L : mv_L) (i nx : Nat) (S : List Value) : Option mv_F := match S with
  | .long x :: r => (match mv_set2 L i (.long x) with
    | some L' => some (nx, L', r)
    | none => none)
  | _ => none
def mv_i2 (S : List Value) (f : Int32 → Int32 → Int32) : Option (List Value) := match S with
  | .int y :: .int x :: r => some (.int (f x y) :: r)
  | _ => none
def mv_nx (nx : Nat) (L : mv_L) (S : Option (List Value)) : Option mv_F := match S with
  | some S' => some (nx, L, S')
  | none => none
def mv_c1 (c : ClassFile.Cond) (x : Int32) : Bool := match c with
  | .eq => decide (x = 0)
  | .ne => decide (¬ x = 0)
  | .lt => decide (x < 0)
  | .ge => decide (0 ≤ x)
  | .gt => decide (0 < x)
  | .le => decide (x ≤ 0)
def mv_c2 (c : ClassFile.Cond) (x y : Int32) : Bool := match c with
  | .eq => decide (x = y)
  | .ne => decide (¬ x = y)
  | .lt => decide (x < y)
  | .ge => decide (y ≤ x)
  | .gt => decide (y < x)
  | .le => decide (x ≤ y)
def mv_same (v w : Value) : Option Bool := match v, w with
  | .null, .null => some true
  | .ref _, .null => some false
  | .null, .ref _ => some false
  | .ref a, .ref b => some (decide (a = b))
  | _, _ => none
def mv_ac (c : ClassFile.ACond) (q : Bool) : Bool := match c with
  | .eq => q
  | .ne => !q
def mv_go (q : Bool) (t : Int) (nx : Nat) (L : mv_L) (S : List Value) : mv_F := if q = true then (t.toNat, L, S) else (nx, L, S)
def mv_sw (x : Int) (dflt lo hi : Int) (ts : List Int) : Int := if x < lo ∨ hi < x then dflt else ts.getD (x - lo).toNat dflt
def mv_pure (i : Instr) (nx : Nat) (L : mv_L) (S : List Value) : Option mv_F := match i with
  | .aconst_null => some (nx, L, .null :: S)
  | .iconst n => some (nx, L, .int (Int32.ofInt n) :: S)
  | .bipush n => some (nx, L, .int (Int8.ofInt n).toInt32 :: S)
  | .sipush n => some (nx, L, .int (Int16.ofInt n).toInt32 :: S)
  | .lconst n => some (nx, L, .long (Int64.ofNat (n : Nat)) :: S)
  | .aload k => mv_ld L k nx S mv_ref
  | .aload_n k => mv_ld L k nx S mv_ref
  | .iload k => mv_ld L k nx S mv_isI
  | .iload_n k => mv_ld L k nx S mv_isI
  | .lload k => mv_ld L k nx S mv_isL
  | .lload_n k => mv_ld L k nx S mv_isL
  | .astore k => mv_st L k nx S mv_ref
  | .astore_n k => mv_st L k nx S mv_ref
  | .istore k => mv_st L k nx S mv_isI
  | .istore_n k => mv_st L k nx S mv_isI
  | .lstore k => mv_stL L k nx S
  | .lstore_n k => mv_stL L k nx S
  | .iinc k n => (match mv_get L k with
    | some (.int x) => (match mv_set1 L k (.int (x + Int32.ofInt n)) with
      | some L' => some (nx, L', S)
      | none => none)
    | _ => none)
  | .dup => (match S with
    | v :: r => if v.category = 1 then some (nx, L, v :: v :: r) else none
    | _ => none)
  | .pop => (match S with
    | v :: r => if v.category = 1 then some (nx, L, r) else none
    | _ => none)
  | .dup_x1 => (match S with
    | v :: w :: r => if v.category = 1 ∧ w.category = 1 then some (nx, L, v :: w :: v :: r) else none
    | _ => none)
  | .dup_x2 => (match S with
    | v :: w :: u :: r => if v.category = 1 ∧ w.category = 1 ∧ u.category = 1 then some (nx, L, v :: w :: u :: v :: r) else none
    | _ => none)
  | .dup2 => (match S with
    | v :: w :: r => if v.category = 1 ∧ w.category = 1 then some (nx, L, v :: w :: v :: w :: r) else none
    | _ => none)
  | .iadd => mv_nx nx L (mv_i2 S fun x y => x + y)
  | .isub => mv_nx nx L (mv_i2 S fun x y => x - y)
  | .imul => mv_nx nx L (mv_i2 S fun x y => x * y)
  | .iand => mv_nx nx L (mv_i2 S fun x y => x &&& y)
  | .ior => mv_nx nx L (mv_i2 S fun x y => x ||| y)
  | .ishl => mv_nx nx L (mv_i2 S fun x y => x <<< (y &&& 31))
  | .ishr => mv_nx nx L (mv_i2 S fun x y => x >>> (y &&& 31))
  | .idiv => (match S with
    | .int y :: .int x :: r => if y = 0 then none else some (nx, L, .int (x / y) :: r)
    | _ => none)
  | .irem => (match S with
    | .int y :: .int x :: r => if y = 0 then none else some (nx, L, .int (x - x / y * y) :: r)
    | _ => none)
  | .ineg => (match S with
    | .int x :: r => some (nx, L, .int (-x) :: r)
    | _ => none)
  | .i2l => (match S with
    | .int x :: r => some (nx, L, .long x.toInt64 :: r)
    | _ => none)
  | .lcmp => (match S with
    | .long y :: .long x :: r => some (nx, L, .int (lg_cmp x y) :: r)
    | _ => none)
  | .goto t => some (t.toNat, L, S)
  | .ifCond c t => (match S with
    | .int x :: r => some (mv_go (mv_c1 c x) t nx L r)
    | _ => none)
  | .if_icmp c t => (match S with
    | .int y :: .int x :: r => some (mv_go (mv_c2 c x y) t nx L r)
    | _ => none)
  | .if_acmp c t => (match S with
    | w :: v :: r => (match mv_same v w with
      | some q => some (mv_go (mv_ac c q) t nx L r)
      | none => none)
    | _ => none)
  | .ifnull t => (match S with
    | .null :: r => some (t.toNat, L, r)
    | .ref _ :: r => some (nx, L, r)
    | _ => none)
  | .ifnonnull t => (match S with
    | .ref _ :: r => some (t.toNat, L, r)
    | .null :: r => some (nx, L, r)
    | _ => none)
  | .tableswitch d lo hi ts => (match S with
    | .int x :: r => some ((mv_sw x.toInt d lo hi ts.toList).toNat, L, r)
    | _ => none)
  | _ => none
end
section
/-! the small machine's instructions that see no heap stand for the machine's -/
def mv_lrel (ls : Array Slot) (n : Nat) (L : mv_L) : Prop := ls.size = n ∧ L.length = n ∧ lv_wf ls ∧ ∀ (i : Nat) (v : Value), L[i]? = some (some v) → ls[i]? = some (.val v)
def mv_ls (L : mv_L) : List (Nat × Value) := (List.range L.length).filterMap fun i => match L[i]? with
  | some (some v) => some (i, v)
  | _ => none
theorem mv_ls_mem {L : mv_L} {i : Nat} {v : Value} (h : L[i]? = some (some v)) : (i, v) ∈ mv_ls L := by
  have hi : i < L.length := (List.getElem?_eq_some_iff.mp h).1
  exact List.mem_filterMap.mpr ⟨i, List.mem_range.mpr hi, by simp only [h]⟩
theorem mv_ls_of {L : mv_L} {q : Nat × Value} (h : q ∈ mv_ls L) : L[q.1]? = some (some q.2) := by
  obtain ⟨i, -, hi⟩ := List.mem_filterMap.mp h
  cases hx : L[i]? with
  | none => rw [hx] at hi; cases hi
  | some o =>
    rw [hx] at hi
    cases o with
    | none => cases hi
    | some v => cases hi; exact hx
theorem mv_lrel.has {ls : Array Slot} {n : Nat} {L : mv_L} (h : mv_lrel ls n L) : lv_has ls n (mv_ls L) := ⟨h.1, h.2.2.1, fun q hq => h.2.2.2 q.1 q.2 (mv_ls_of hq)⟩
theorem mv_get_at {L : mv_L} {i : Nat} {v : Value} (h : mv_get L i = some v) : L[i]? = some (some v) := by
  unfold mv_get at h
  split at h
  next x hx => rw [hx]; cases h; rfl
  next => cases h
theorem mv_kill_len (L : mv_L) (i : Nat) : (mv_kill L i).length = L.length := by
  unfold mv_kill
  split
  · rfl
  · split <;> simp
theorem mv_kill_at {L : mv_L} {i j : Nat} {w : Value} (hj : j ≠ i) (h : (mv_kill L i)[j]? = some (some w)) : L[j]? = some (some w) ∧ ¬ (j + 1 = i ∧ w.category = 2) := by
  unfold mv_kill at h
  split at h
  · exact ⟨h, by omega⟩
  · next k =>
    split at h
    · next x hx =>
      by_cases hk : k = j
      · subst hk
        rw [List.getElem?_set_self (List.getElem?_eq_some_iff.mp hx).1] at h
        cases h
      · rw [List.getElem?_set_ne hk] at h
        exact ⟨h, by omega⟩
    · next x hx =>
      by_cases hk : k = j
      · subst hk
        rw [List.getElem?_set_self (List.getElem?_eq_some_iff.mp hx).1] at h
        cases h
      · rw [List.getElem?_set_ne hk] at h
        exact ⟨h, by omega⟩
    · next n1 n2 =>
      refine ⟨h, fun q => ?_⟩
      obtain ⟨q1, q2⟩ := q
      have hk : j = k := by omega
      subst hk
      cases w with
      | long x => exact n1 x h
      | double x => exact n2 x h
      | _ => simp [Value.category] at q2
theorem mv_store1 {ls : Array Slot} {n : Nat} {L L' : mv_L} {i : Nat} {v : Value} (h : mv_lrel ls n L) (hc : v.category = 1) (hs : mv_set1 L i v = some L') : ∃ ls', storeLocals ls i v = some ls' ∧ mv_lrel ls' n L' := by
  unfold mv_set1 at hs
  split at hs
  · next hi =>
    have hi' : i < n := by rw [← h.2.1]; exact hi
    obtain ⟨ls', e', h'⟩ := lv_store1 h.has hi' hc
    refine ⟨ls', e', h'.1, ?_, h'.2.1, fun j w hj => ?_⟩
    · cases hs
      rw [List.length_set, mv_kill_len]; exact h.2.1
    · cases hs
      by_cases hij : i = j
      · subst hij
        rw [List.getElem?_set_self (by rw [mv_kill_len]; exact hi)] at hj
        cases hj
        exact h'.2.2 (i, v) List.mem_cons_self
      · rw [List.getElem?_set_ne hij] at hj
        obtain ⟨hj1, hj2⟩ := mv_kill_at (Ne.symm hij) hj
        refine h'.2.2 (j, w) (List.mem_cons_of_mem _ (List.mem_filter.mpr ⟨mv_ls_mem hj1, ?_⟩))
        have e1 : (j == i) = false := by simpa using Ne.symm hij
        by_cases e2 : j + 1 = i
        · have e3 : ¬ w.category = 2 := fun q => hj2 ⟨e2, q⟩
          simp [e1, e3]
        · simp [e1, e2]
  · cases hs
theorem mv_store2 {ls : Array Slot} {n : Nat} {L L' : mv_L} {i : Nat} {v : Value} (h : mv_lrel ls n L) (hc : v.category = 2) (hs : mv_set2 L i v = some L') : ∃ ls', storeLocals ls i v = some ls' ∧ mv_lrel ls' n L' := by
  unfold mv_set2 at hs
  split at hs
  · next hi =>
    have hi' : i + 1 < n := by rw [← h.2.1]; exact hi
    obtain ⟨ls', e', h'⟩ := lv_store2 h.has hi' hc
    refine ⟨ls', e', h'.1, ?_, h'.2.1, fun j w hj => ?_⟩
    · cases hs
      rw [List.length_set, List.length_set, mv_kill_len]; exact h.2.1
    · cases hs
      by_cases hij2 : i + 1 = j
      · subst hij2
        rw [List.getElem?_set_self (by rw [List.length_set, mv_kill_len]; exact hi)] at hj
        cases hj
      · rw [List.getElem?_set_ne hij2] at hj
        by_cases hij : i = j
        · subst hij
          rw [List.getElem?_set_self (by rw [mv_kill_len]; omega)] at hj
          cases hj
          exact h'.2.2 (i, v) List.mem_cons_self
        · rw [List.getElem?_set_ne hij] at hj
          obtain ⟨hj1, hj2⟩ := mv_kill_at (Ne.symm hij) hj
          refine h'.2.2 (j, w) (List.mem_cons_of_mem _ (List.mem_filter.mpr ⟨mv_ls_mem hj1, ?_⟩))
          have e1 : (j == i) = false := by simpa using Ne.symm hij
          have e0 : (j == i + 1) = false := by simpa using Ne.symm hij2
          by_cases e2 : j + 1 = i
          · have e3 : ¬ w.category = 2 := fun q => hj2 ⟨e2, q⟩
            simp [e0, e1, e3]
          · simp [e0, e1, e2]
  · cases hs
theorem mv_ref_cat {v : Value} (h : mv_ref v = true) : v.category = 1 ∧ v.isRef = true ∧ ∃ r, v = va_rf r := by
  cases v with
  | null => exact ⟨rfl, rfl, none, rfl⟩
  | ref a => exact ⟨rfl, rfl, some a, rfl⟩
  | _ => cases h
/-- the instruction with its jumps' places in the code -/
def mv_abs (pc : Nat) (i : Instr) : Instr := match i with
  | .goto o => .goto ((pc : Int) + o)
  | .ifCond c o => .ifCond c ((pc : Int) + o)
  | .if_icmp c o => .if_icmp c ((pc : Int) + o)
  | .if_acmp c o => .if_acmp c ((pc : Int) + o)
  | .ifnull o => .ifnull ((pc : Int) + o)
  | .ifnonnull o => .ifnonnull ((pc : Int) + o)
  | .tableswitch d lo hi os => .tableswitch ((pc : Int) + d) lo hi (os.map fun o => (pc : Int) + o)
  | i => i
def mv_nn (i : Instr) : Bool := match i with
  | .goto t => decide (0 ≤ t)
  | .ifCond _ t => decide (0 ≤ t)
  | .if_icmp _ t => decide (0 ≤ t)
  | .if_acmp _ t => decide (0 ≤ t)
  | .ifnull t => decide (0 ≤ t)
  | .ifnonnull t => decide (0 ≤ t)
  | .tableswitch d lo hi ts => decide (0 ≤ d) && ts.toList.all (fun t => decide (0 ≤ t)) && decide (lo ≤ hi) && decide ((ts.size : Int) = hi - lo + 1)
  | _ => true
/-- an instruction's length -/
def mv_ln (i : Instr) : Nat := match i with
  | .aload _ => 2
  | .astore _ => 2
  | .iload _ => 2
  | .istore _ => 2
  | .lload _ => 2
  | .lstore _ => 2
  | .bipush _ => 2
  | .sipush _ => 3
  | .iinc _ _ => 3
  | .goto _ => 3
  | .ifCond _ _ => 3
  | .if_icmp _ _ => 3
  | .if_acmp _ _ => 3
  | .ifnull _ => 3
  | .ifnonnull _ => 3
  | .tableswitch _ _ _ _ => 0
  | _ => 1
section MVP
variable {p : Program} {l : Launch} {e : Env} {R : Room} {s : State} {m : MethodId} {args : Array Value} {below : List Frame} {meth : Method} {c : Code} {H : Heap} {locs : List Loc} {cells slots : Nat} {Q : State → Prop}
variable {cc : ByteArray} {pc : Nat} {ls : Array Slot} {rest : List Value} {n : Nat} {L L' : mv_L} {S : List Value}
theorem mw_aload_n (hexec : p.tables.exec = Jvm.exec) (hb : c.code = cc) {k : Fin 4} {v : Value} (hdg : decode cc pc = .ok (.aload_n k, 1)) (hl : ls[(k : Nat)]? = some (.val v)) (hv : v.isRef = true)
    (k : W p l e R s m args below meth c H locs cells slots Q (F0 m (pc + 1) ls (v :: rest))) : W p l e R s m args below meth c H locs cells slots Q (F0 m pc ls (rest)) := by
  intro T hT X
  obtain ⟨t, a, b⟩ := k T hT X
  refine ⟨t, ?_, b⟩
  jvm_step X.here [X.here.top, hexec, hb, hdg, hl, hv]
  exact a
theorem mw_aload (hexec : p.tables.exec = Jvm.exec) (hb : c.code = cc) {k : Nat} {v : Value} (hdg : decode cc pc = .ok (.aload k, 2)) (hl : ls[k]? = some (.val v)) (hv : v.isRef = true)
    (k : W p l e R s m args below meth c H locs cells slots Q (F0 m (pc + 2) ls (v :: rest))) : W p l e R s m args below meth c H locs cells slots Q (F0 m pc ls (rest)) := by
  intro T hT X
  obtain ⟨t, a, b⟩ := k T hT X
  refine ⟨t, ?_, b⟩
  jvm_step X.here [X.here.top, hexec, hb, hdg, hl, hv]
  exact a
theorem mw_istore_n (hexec : p.tables.exec = Jvm.exec) (hb : c.code = cc) {k : Fin 4} {x : Int32} {ls' : Array Slot} (hdg : decode cc pc = .ok (.istore_n k, 1)) (e' : storeLocals ls (k : Nat) (.int x) = some ls')
    (kk : W p l e R s m args below meth c H locs cells slots Q (F0 m (pc + 1) ls' rest)) : W p l e R s m args below meth c H locs cells slots Q (F0 m pc ls (.int x :: rest)) := by
  intro T hT X
  obtain ⟨t, a, b⟩ := kk T hT X
  refine ⟨t, ?_, b⟩
  jvm_step X.here [X.here.top, ↓top_set X.here.top, hexec, hb, hdg, e']
  exact a
theorem mw_istore (hexec : p.tables.exec = Jvm.exec) (hb : c.code = cc) {k : Nat} {x : Int32} {ls' : Array Slot} (hdg : decode cc pc = .ok (.istore k, 2)) (e' : storeLocals ls k (.int x) = some ls')
    (kk : W p l e R s m args below meth c H locs cells slots Q (F0 m (pc + 2) ls' rest)) : W p l e R s m args below meth c H locs cells slots Q (F0 m pc ls (.int x :: rest)) := by
  intro T hT X
  obtain ⟨t, a, b⟩ := kk T hT X
  refine ⟨t, ?_, b⟩
  jvm_step X.here [X.here.top, ↓top_set X.here.top, hexec, hb, hdg, e']
  exact a
theorem mw_lstore_n (hexec : p.tables.exec = Jvm.exec) (hb : c.code = cc) {k : Fin 4} {x : Int64} {ls' : Array Slot} (hdg : decode cc pc = .ok (.lstore_n k, 1)) (e' : storeLocals ls (k : Nat) (.long x) = some ls')
    (kk : W p l e R s m args below meth c H locs cells slots Q (F0 m (pc + 1) ls' rest)) : W p l e R s m args below meth c H locs cells slots Q (F0 m pc ls (.long x :: rest)) := by
  intro T hT X
  obtain ⟨t, a, b⟩ := kk T hT X
  refine ⟨t, ?_, b⟩
  jvm_step X.here [X.here.top, ↓top_set X.here.top, hexec, hb, hdg, e']
  exact a
theorem mw_lstore (hexec : p.tables.exec = Jvm.exec) (hb : c.code = cc) {k : Nat} {x : Int64} {ls' : Array Slot} (hdg : decode cc pc = .ok (.lstore k, 2)) (e' : storeLocals ls k (.long x) = some ls')
    (kk : W p l e R s m args below meth c H locs cells slots Q (F0 m (pc + 2) ls' rest)) : W p l e R s m args below meth c H locs cells slots Q (F0 m pc ls (.long x :: rest)) := by
  intro T hT X
  obtain ⟨t, a, b⟩ := kk T hT X
  refine ⟨t, ?_, b⟩
  jvm_step X.here [X.here.top, ↓top_set X.here.top, hexec, hb, hdg, e']
  exact a
theorem mw_astore_n (hexec : p.tables.exec = Jvm.exec) (hb : c.code = cc) {k : Fin 4} {r : Option Nat} {ls' : Array Slot} (hdg : decode cc pc = .ok (.astore_n k, 1)) (e' : storeLocals ls (k : Nat) (va_rf r) = some ls')
    (kk : W p l e R s m args below meth c H locs cells slots Q (F0 m (pc + 1) ls' rest)) : W p l e R s m args below meth c H locs cells slots Q (F0 m pc ls (va_rf r :: rest)) := by
  intro T hT X
  obtain ⟨t, a, b⟩ := kk T hT X
  refine ⟨t, ?_, b⟩
  cases r with
  | none =>
    have e2 : storeLocals ls (k : Nat) .null = some ls' := e'
    show Steps p.tables e below (T.setTop (F0 m pc ls (.null :: rest))) t
    jvm_step X.here [X.here.top, ↓top_set X.here.top, hexec, hb, hdg, e2, Value.isRef]
    exact a
  | some x =>
    have e2 : storeLocals ls (k : Nat) (.ref x) = some ls' := e'
    show Steps p.tables e below (T.setTop (F0 m pc ls (.ref x :: rest))) t
    jvm_step X.here [X.here.top, ↓top_set X.here.top, hexec, hb, hdg, e2, Value.isRef]
    exact a
theorem mw_astore (hexec : p.tables.exec = Jvm.exec) (hb : c.code = cc) {k : Nat} {r : Option Nat} {ls' : Array Slot} (hdg : decode cc pc = .ok (.astore k, 2)) (e' : storeLocals ls k (va_rf r) = some ls')
    (kk : W p l e R s m args below meth c H locs cells slots Q (F0 m (pc + 2) ls' rest)) : W p l e R s m args below meth c H locs cells slots Q (F0 m pc ls (va_rf r :: rest)) := by
  intro T hT X
  obtain ⟨t, a, b⟩ := kk T hT X
  refine ⟨t, ?_, b⟩
  cases r with
  | none =>
    have e2 : storeLocals ls k .null = some ls' := e'
    show Steps p.tables e below (T.setTop (F0 m pc ls (.null :: rest))) t
    jvm_step X.here [X.here.top, ↓top_set X.here.top, hexec, hb, hdg, e2, Value.isRef]
    exact a
  | some x =>
    have e2 : storeLocals ls k (.ref x) = some ls' := e'
    show Steps p.tables e below (T.setTop (F0 m pc ls (.ref x :: rest))) t
    jvm_step X.here [X.here.top, ↓top_set X.here.top, hexec, hb, hdg, e2, Value.isRef]
    exact a
theorem mw_iinc (hexec : p.tables.exec = Jvm.exec) (hb : c.code = cc) {i : Nat} {n : Int} {x : Int32} {ls' : Array Slot} (hdg : decode cc pc = .ok (.iinc i n, 3)) (hg : ls[i]? = some (.val (.int x))) (e' : storeLocals ls i (.int (x + Int32.ofInt n)) = some ls')
    (kk : W p l e R s m args below meth c H locs cells slots Q (F0 m (pc + 3) ls' rest)) : W p l e R s m args below meth c H locs cells slots Q (F0 m pc ls rest) := by
  intro T hT X
  obtain ⟨t, a, b⟩ := kk T hT X
  refine ⟨t, ?_, b⟩
  jvm_step X.here [X.here.top, ↓top_set X.here.top, hexec, hb, hdg, hg, e']
  exact a
end MVP
end
section
section MVD
variable {p : Program} {l : Launch} {e : Env} {R : Room} {s : State} {m : MethodId} {args : Array Value} {below : List Frame} {meth : Method} {c : Code} {H : Heap} {locs : List Loc} {cells slots : Nat} {Q : State → Prop}
variable {cc : ByteArray} {pc : Nat} {ls : Array Slot} {n : Nat} {L : mv_L} {S : List Value}
def mv_lok (i : Instr) (len : Nat) : Bool := match i with
  | .tableswitch _ _ _ _ => true
  | i => len == mv_ln i
theorem mv_ld_of {i nx : Nat} {ok : Value → Bool} {f : mv_F} (h : mv_ld L i nx S ok = some f) : ∃ v, L[i]? = some (some v) ∧ ok v = true ∧ f = (nx, L, v :: S) := by
  unfold mv_ld at h
  split at h
  · next v hv =>
    split at h
    · next hk => cases h; exact ⟨v, mv_get_at hv, hk, rfl⟩
    · cases h
  · cases h
theorem mv_st_of {i nx : Nat} {ok : Value → Bool} {f : mv_F} (h : mv_st L i nx S ok = some f) : ∃ v r L', S = v :: r ∧ ok v = true ∧ mv_set1 L i v = some L' ∧ f = (nx, L', r) := by
  unfold mv_st at h
  split at h
  · next v r =>
    split at h
    · next hk =>
      split at h
      · next L' hL => cases h; exact ⟨v, r, L', rfl, hk, hL, rfl⟩
      · cases h
    · cases h
  · cases h
theorem mv_stL_of {i nx : Nat} {f : mv_F} (h : mv_stL L i nx S = some f) : ∃ x r L', S = .long x :: r ∧ mv_set2 L i (.long x) = some L' ∧ f = (nx, L', r) := by
  unfold mv_stL at h
  split at h
  · next x r =>
    split at h
    · next L' hL => cases h; exact ⟨x, r, L', rfl, hL, rfl⟩
    · cases h
  · cases h
theorem mv_i2_of {nx : Nat} {g : Int32 → Int32 → Int32} {f : mv_F} (h : mv_nx nx L (mv_i2 S g) = some f) : ∃ x y r, S = .int y :: .int x :: r ∧ f = (nx, L, .int (g x y) :: r) := by
  unfold mv_i2 at h
  split at h
  · next y x r => cases h; exact ⟨x, y, r, rfl, rfl⟩
  · cases h
theorem mv_isI_of {v : Value} (h : mv_isI v = true) : ∃ x, v = .int x := by
  cases v with
  | int x => exact ⟨x, rfl⟩
  | _ => cases h
theorem mv_isL_of {v : Value} (h : mv_isL v = true) : ∃ x, v = .long x := by
  cases v with
  | long x => exact ⟨x, rfl⟩
  | _ => cases h
theorem mv_go_t {q : Bool} {t : Int} {nx : Nat} {L : mv_L} {S : List Value} (h : q = true) : mv_go q t nx L S = (t.toNat, L, S) := if_pos h
theorem mv_go_f {q : Bool} {t : Int} {nx : Nat} {L : mv_L} {S : List Value} (h : q = false) : mv_go q t nx L S = (nx, L, S) := if_neg (by rw [h]; decide)
theorem mv_tn {t : Int} (h : decide (0 ≤ t) = true) : t = (t.toNat : Int) := (Int.toNat_of_nonneg (of_decide_eq_true h)).symm

theorem mw_if_eq (hx : p.tables.exec = Jvm.exec) (hb : c.code = cc) {x : Int32} {off : Int} (hd : decode cc pc = .ok (.ifCond .eq off, 3)) (hn : decide (0 ≤ (pc : Int) + off) = true)
    (k : W p l e R s m args below meth c H locs cells slots Q (F0 m (mv_go (mv_c1 .eq x) ((pc : Int) + off) (pc + 3) L S).1 ls (mv_go (mv_c1 .eq x) ((pc : Int) + off) (pc + 3) L S).2.2)) : W p l e R s m args below meth c H locs cells slots Q (F0 m pc ls (.int x :: S)) := by
  refine lv_if_eq hx hb hd (mv_tn hn) (fun h => ?_) (fun h => ?_)
  · rw [mv_go_t (show mv_c1 .eq x = true from decide_eq_true h)] at k; exact k
  · rw [mv_go_f (show mv_c1 .eq x = false from decide_eq_false h)] at k; exact k
theorem mw_ic_eq (hx : p.tables.exec = Jvm.exec) (hb : c.code = cc) {x y : Int32} {off : Int} (hd : decode cc pc = .ok (.if_icmp .eq off, 3)) (hn : decide (0 ≤ (pc : Int) + off) = true)
    (k : W p l e R s m args below meth c H locs cells slots Q (F0 m (mv_go (mv_c2 .eq x y) ((pc : Int) + off) (pc + 3) L S).1 ls (mv_go (mv_c2 .eq x y) ((pc : Int) + off) (pc + 3) L S).2.2)) : W p l e R s m args below meth c H locs cells slots Q (F0 m pc ls (.int y :: .int x :: S)) := by
  refine lv_icmp_eq hx hb hd (mv_tn hn) (fun h => ?_) (fun h => ?_)
  · rw [mv_go_t (show mv_c2 .eq x y = true from decide_eq_true h)] at k; exact k
  · rw [mv_go_f (show mv_c2 .eq x y = false from decide_eq_false h)] at k; exact k
theorem mw_if_ne (hx : p.tables.exec = Jvm.exec) (hb : c.code = cc) {x : Int32} {off : Int} (hd : decode cc pc = .ok (.ifCond .ne off, 3)) (hn : decide (0 ≤ (pc : Int) + off) = true)
    (k : W p l e R s m args below meth c H locs cells slots Q (F0 m (mv_go (mv_c1 .ne x) ((pc : Int) + off) (pc + 3) L S).1 ls (mv_go (mv_c1 .ne x) ((pc : Int) + off) (pc + 3) L S).2.2)) : W p l e R s m args below meth c H locs cells slots Q (F0 m pc ls (.int x :: S)) := by
  refine lv_if_ne hx hb hd (mv_tn hn) (fun h => ?_) (fun h => ?_)
  · rw [mv_go_t (show mv_c1 .ne x = true from decide_eq_true h)] at k; exact k
  · rw [mv_go_f (show mv_c1 .ne x = false from decide_eq_false (fun q => q h))] at k; exact k
theorem mw_ic_ne (hx : p.tables.exec = Jvm.exec) (hb : c.code = cc) {x y : Int32} {off : Int} (hd : decode cc pc = .ok (.if_icmp .ne off, 3)) (hn : decide (0 ≤ (pc : Int) + off) = true)
    (k : W p l e R s m args below meth c H locs cells slots Q (F0 m (mv_go (mv_c2 .ne x y) ((pc : Int) + off) (pc + 3) L S).1 ls (mv_go (mv_c2 .ne x y) ((pc : Int) + off) (pc + 3) L S).2.2)) : W p l e R s m args below meth c H locs cells slots Q (F0 m pc ls (.int y :: .int x :: S)) := by
  refine lv_icmp_ne hx hb hd (mv_tn hn) (fun h => ?_) (fun h => ?_)
  · rw [mv_go_t (show mv_c2 .ne x y = true from decide_eq_true h)] at k; exact k
  · rw [mv_go_f (show mv_c2 .ne x y = false from decide_eq_false (fun q => q h))] at k; exact k
theorem mw_if_lt (hx : p.tables.exec = Jvm.exec) (hb : c.code = cc) {x : Int32} {off : Int} (hd : decode cc pc = .ok (.ifCond .lt off, 3)) (hn : decide (0 ≤ (pc : Int) + off) = true)
    (k : W p l e R s m args below meth c H locs cells slots Q (F0 m (mv_go (mv_c1 .lt x) ((pc : Int) + off) (pc + 3) L S).1 ls (mv_go (mv_c1 .lt x) ((pc : Int) + off) (pc + 3) L S).2.2)) : W p l e R s m args below meth c H locs cells slots Q (F0 m pc ls (.int x :: S)) := by
  refine lv_if_lt hx hb hd (mv_tn hn) (fun h => ?_) (fun h => ?_)
  · rw [mv_go_t (show mv_c1 .lt x = true from decide_eq_true h)] at k; exact k
  · rw [mv_go_f (show mv_c1 .lt x = false from decide_eq_false h)] at k; exact k
theorem mw_ic_lt (hx : p.tables.exec = Jvm.exec) (hb : c.code = cc) {x y : Int32} {off : Int} (hd : decode cc pc = .ok (.if_icmp .lt off, 3)) (hn : decide (0 ≤ (pc : Int) + off) = true)
    (k : W p l e R s m args below meth c H locs cells slots Q (F0 m (mv_go (mv_c2 .lt x y) ((pc : Int) + off) (pc + 3) L S).1 ls (mv_go (mv_c2 .lt x y) ((pc : Int) + off) (pc + 3) L S).2.2)) : W p l e R s m args below meth c H locs cells slots Q (F0 m pc ls (.int y :: .int x :: S)) := by
  refine lv_icmp_lt hx hb hd (mv_tn hn) (fun h => ?_) (fun h => ?_)
  · rw [mv_go_t (show mv_c2 .lt x y = true from decide_eq_true h)] at k; exact k
  · rw [mv_go_f (show mv_c2 .lt x y = false from decide_eq_false h)] at k; exact k
theorem mw_if_ge (hx : p.tables.exec = Jvm.exec) (hb : c.code = cc) {x : Int32} {off : Int} (hd : decode cc pc = .ok (.ifCond .ge off, 3)) (hn : decide (0 ≤ (pc : Int) + off) = true)
    (k : W p l e R s m args below meth c H locs cells slots Q (F0 m (mv_go (mv_c1 .ge x) ((pc : Int) + off) (pc + 3) L S).1 ls (mv_go (mv_c1 .ge x) ((pc : Int) + off) (pc + 3) L S).2.2)) : W p l e R s m args below meth c H locs cells slots Q (F0 m pc ls (.int x :: S)) := by
  refine lv_if_ge hx hb hd (mv_tn hn) (fun h => ?_) (fun h => ?_)
  · rw [mv_go_t (show mv_c1 .ge x = true from decide_eq_true h)] at k; exact k
  · rw [mv_go_f (show mv_c1 .ge x = false from decide_eq_false h)] at k; exact k
theorem mw_ic_ge (hx : p.tables.exec = Jvm.exec) (hb : c.code = cc) {x y : Int32} {off : Int} (hd : decode cc pc = .ok (.if_icmp .ge off, 3)) (hn : decide (0 ≤ (pc : Int) + off) = true)
    (k : W p l e R s m args below meth c H locs cells slots Q (F0 m (mv_go (mv_c2 .ge x y) ((pc : Int) + off) (pc + 3) L S).1 ls (mv_go (mv_c2 .ge x y) ((pc : Int) + off) (pc + 3) L S).2.2)) : W p l e R s m args below meth c H locs cells slots Q (F0 m pc ls (.int y :: .int x :: S)) := by
  refine lv_icmp_ge hx hb hd (mv_tn hn) (fun h => ?_) (fun h => ?_)
  · rw [mv_go_t (show mv_c2 .ge x y = true from decide_eq_true h)] at k; exact k
  · rw [mv_go_f (show mv_c2 .ge x y = false from decide_eq_false h)] at k; exact k
theorem mw_if_gt (hx : p.tables.exec = Jvm.exec) (hb : c.code = cc) {x : Int32} {off : Int} (hd : decode cc pc = .ok (.ifCond .gt off, 3)) (hn : decide (0 ≤ (pc : Int) + off) = true)
    (k : W p l e R s m args below meth c H locs cells slots Q (F0 m (mv_go (mv_c1 .gt x) ((pc : Int) + off) (pc + 3) L S).1 ls (mv_go (mv_c1 .gt x) ((pc : Int) + off) (pc + 3) L S).2.2)) : W p l e R s m args below meth c H locs cells slots Q (F0 m pc ls (.int x :: S)) := by
  refine lv_if_gt hx hb hd (mv_tn hn) (fun h => ?_) (fun h => ?_)
  · rw [mv_go_t (show mv_c1 .gt x = true from decide_eq_true h)] at k; exact k
  · rw [mv_go_f (show mv_c1 .gt x = false from decide_eq_false h)] at k; exact k
theorem mw_ic_gt (hx : p.tables.exec = Jvm.exec) (hb : c.code = cc) {x y : Int32} {off : Int} (hd : decode cc pc = .ok (.if_icmp .gt off, 3)) (hn : decide (0 ≤ (pc : Int) + off) = true)
    (k : W p l e R s m args below meth c H locs cells slots Q (F0 m (mv_go (mv_c2 .gt x y) ((pc : Int) + off) (pc + 3) L S).1 ls (mv_go (mv_c2 .gt x y) ((pc : Int) + off) (pc + 3) L S).2.2)) : W p l e R s m args below meth c H locs cells slots Q (F0 m pc ls (.int y :: .int x :: S)) := by
  refine lv_icmp_gt hx hb hd (mv_tn hn) (fun h => ?_) (fun h => ?_)
  · rw [mv_go_t (show mv_c2 .gt x y = true from decide_eq_true h)] at k; exact k
  · rw [mv_go_f (show mv_c2 .gt x y = false from decide_eq_false h)] at k; exact k
theorem mw_if_le (hx : p.tables.exec = Jvm.exec) (hb : c.code = cc) {x : Int32} {off : Int} (hd : decode cc pc = .ok (.ifCond .le off, 3)) (hn : decide (0 ≤ (pc : Int) + off) = true)
    (k : W p l e R s m args below meth c H locs cells slots Q (F0 m (mv_go (mv_c1 .le x) ((pc : Int) + off) (pc + 3) L S).1 ls (mv_go (mv_c1 .le x) ((pc : Int) + off) (pc + 3) L S).2.2)) : W p l e R s m args below meth c H locs cells slots Q (F0 m pc ls (.int x :: S)) := by
  refine lv_if_le hx hb hd (mv_tn hn) (fun h => ?_) (fun h => ?_)
  · rw [mv_go_t (show mv_c1 .le x = true from decide_eq_true h)] at k; exact k
  · rw [mv_go_f (show mv_c1 .le x = false from decide_eq_false h)] at k; exact k
theorem mw_ic_le (hx : p.tables.exec = Jvm.exec) (hb : c.code = cc) {x y : Int32} {off : Int} (hd : decode cc pc = .ok (.if_icmp .le off, 3)) (hn : decide (0 ≤ (pc : Int) + off) = true)
    (k : W p l e R s m args below meth c H locs cells slots Q (F0 m (mv_go (mv_c2 .le x y) ((pc : Int) + off) (pc + 3) L S).1 ls (mv_go (mv_c2 .le x y) ((pc : Int) + off) (pc + 3) L S).2.2)) : W p l e R s m args below meth c H locs cells slots Q (F0 m pc ls (.int y :: .int x :: S)) := by
  refine lv_icmp_le hx hb hd (mv_tn hn) (fun h => ?_) (fun h => ?_)
  · rw [mv_go_t (show mv_c2 .le x y = true from decide_eq_true h)] at k; exact k
  · rw [mv_go_f (show mv_c2 .le x y = false from decide_eq_false h)] at k; exact k
theorem mv_go_L {q : Bool} {t : Int} {nx : Nat} {L : mv_L} {S : List Value} : (mv_go q t nx L S).2.1 = L := by
  unfold mv_go; split <;> rfl
theorem mv_same_rf {v w : Value} {q : Bool} (h : mv_same v w = some q) : ∃ rx ry, v = va_rf rx ∧ w = va_rf ry ∧ (q = true ↔ rx = ry) := by
  cases v with
  | null =>
    cases w with
    | null => cases h; exact ⟨none, none, rfl, rfl, by simp⟩
    | ref b => cases h; exact ⟨none, some b, rfl, rfl, by simp⟩
    | _ => cases h
  | ref a =>
    cases w with
    | null => cases h; exact ⟨some a, none, rfl, rfl, by simp⟩
    | ref b => cases h; exact ⟨some a, some b, rfl, rfl, by simp⟩
    | _ => cases h
  | _ => cases w <;> cases h
theorem mw_ac_eq (hx : p.tables.exec = Jvm.exec) (hb : c.code = cc) {v w : Value} {q : Bool} {off : Int} (hd : decode cc pc = .ok (.if_acmp .eq off, 3)) (hn : decide (0 ≤ (pc : Int) + off) = true) (hq : mv_same v w = some q)
    (k : W p l e R s m args below meth c H locs cells slots Q (F0 m (mv_go q ((pc : Int) + off) (pc + 3) L S).1 ls (mv_go q ((pc : Int) + off) (pc + 3) L S).2.2)) : W p l e R s m args below meth c H locs cells slots Q (F0 m pc ls (w :: v :: S)) := by
  obtain ⟨rx, ry, rfl, rfl, hi⟩ := mv_same_rf hq
  refine lv_acmp_eq hx hb hd (mv_tn hn) (fun h => ?_) (fun h => ?_)
  · rw [mv_go_t (hi.mpr h)] at k; exact k
  · rw [mv_go_f (by cases q with | false => rfl | true => exact absurd (hi.mp rfl) h)] at k; exact k
theorem mw_ac_ne (hx : p.tables.exec = Jvm.exec) (hb : c.code = cc) {v w : Value} {q : Bool} {off : Int} (hd : decode cc pc = .ok (.if_acmp .ne off, 3)) (hn : decide (0 ≤ (pc : Int) + off) = true) (hq : mv_same v w = some q)
    (k : W p l e R s m args below meth c H locs cells slots Q (F0 m (mv_go (!q) ((pc : Int) + off) (pc + 3) L S).1 ls (mv_go (!q) ((pc : Int) + off) (pc + 3) L S).2.2)) : W p l e R s m args below meth c H locs cells slots Q (F0 m pc ls (w :: v :: S)) := by
  obtain ⟨rx, ry, rfl, rfl, hi⟩ := mv_same_rf hq
  refine lv_acmp_ne hx hb hd (mv_tn hn) (fun h => ?_) (fun h => ?_)
  · rw [mv_go_t (by cases q with | false => rfl | true => exact absurd (hi.mp rfl) h)] at k; exact k
  · rw [mv_go_f (by rw [hi.mpr h]; rfl)] at k; exact k
theorem mw_table (hx : p.tables.exec = Jvm.exec) (hb : c.code = cc) {d lo hi : Int} {os : Array Int} {len : Nat} {x : Int32} (hd : decode cc pc = .ok (.tableswitch d lo hi os, len)) (hn : mv_nn (mv_abs pc (.tableswitch d lo hi os)) = true)
    (k : W p l e R s m args below meth c H locs cells slots Q (F0 m (mv_sw x.toInt ((pc : Int) + d) lo hi (os.map fun o => (pc : Int) + o).toList).toNat ls S)) : W p l e R s m args below meth c H locs cells slots Q (F0 m pc ls (.int x :: S)) := by
  simp only [mv_abs, mv_nn, Bool.and_eq_true, Array.toList_map, List.all_eq_true, List.mem_map, forall_exists_index, and_imp, Array.size_map, decide_eq_true_eq] at hn
  obtain ⟨⟨⟨h0, h1⟩, h2⟩, h3⟩ := hn
  by_cases hc : x.toInt < lo ∨ hi < x.toInt
  · refine lv_tableOut hx hb hd hc (mv_tn (decide_eq_true h0)) ?_
    rw [mv_sw, if_pos hc] at k
    exact k
  · have c1 : ¬ x.toInt < lo := fun q => hc (Or.inl q)
    have c2 : ¬ hi < x.toInt := fun q => hc (Or.inr q)
    have hlt : (x.toInt - lo).toNat < os.size := by omega
    have ho : os[(x.toInt - lo).toNat]? = some os[(x.toInt - lo).toNat] := Array.getElem?_eq_getElem hlt
    have hpos : (0 : Int) ≤ (pc : Int) + os[(x.toInt - lo).toNat] := h1 _ _ (Array.getElem_mem_toList hlt) rfl
    refine lv_tableIn hx hb hd c1 c2 ho (mv_tn (decide_eq_true hpos)) ?_
    rw [mv_sw, if_neg hc] at k
    have e9 : (os.map fun o => (pc : Int) + o).toList.getD (x.toInt - lo).toNat ((pc : Int) + d) = (pc : Int) + os[(x.toInt - lo).toNat] := by
      rw [List.getD_eq_getElem?_getD, Array.toList_map, List.getElem?_map, Array.getElem?_toList, ho]
      rfl
    rw [e9] at k
    exact k
set_option maxHeartbeats 4000000 in
theorem mv_pure_w (hx : p.tables.exec = Jvm.exec) (hb : c.code = cc) {real : Instr} {len : Nat} (hd : decode cc pc = .ok (real, len)) (hlen : mv_lok real len = true) (hnn : mv_nn (mv_abs pc real) = true) {f : mv_F} (hp : mv_pure (mv_abs pc real) (pc + len) L S = some f) (hl : mv_lrel ls n L)
    (k : ∀ ls' : Array Slot, mv_lrel ls' n f.2.1 → W p l e R s m args below meth c H locs cells slots Q (F0 m f.1 ls' f.2.2)) : W p l e R s m args below meth c H locs cells slots Q (F0 m pc ls S) := by
  cases real with
  | aconst_null =>
    obtain rfl : len = 1 := by simpa [mv_lok, mv_ln] using hlen
    cases hp
    exact lv_null hx hb hd (k ls hl)
  | iconst v =>
    obtain rfl : len = 1 := by simpa [mv_lok, mv_ln] using hlen
    cases hp
    exact lv_iconst hx hb hd rfl (k ls hl)
  | bipush v =>
    obtain rfl : len = 2 := by simpa [mv_lok, mv_ln] using hlen
    cases hp
    exact lv_bipush hx hb hd rfl (k ls hl)
  | sipush v =>
    obtain rfl : len = 3 := by simpa [mv_lok, mv_ln] using hlen
    cases hp
    exact lv_sipush hx hb hd rfl (k ls hl)
  | lconst v =>
    obtain rfl : len = 1 := by simpa [mv_lok, mv_ln] using hlen
    cases hp
    exact lv_lconst hx hb hd rfl (k ls hl)
  | aload i =>
    obtain rfl : len = 2 := by simpa [mv_lok, mv_ln] using hlen
    obtain ⟨v, h1, h2, rfl⟩ := mv_ld_of hp
    exact mw_aload hx hb hd (hl.2.2.2 _ _ h1) (mv_ref_cat h2).2.1 (k ls hl)
  | aload_n i =>
    obtain rfl : len = 1 := by simpa [mv_lok, mv_ln] using hlen
    obtain ⟨v, h1, h2, rfl⟩ := mv_ld_of hp
    exact mw_aload_n hx hb hd (hl.2.2.2 _ _ h1) (mv_ref_cat h2).2.1 (k ls hl)
  | iload i =>
    obtain rfl : len = 2 := by simpa [mv_lok, mv_ln] using hlen
    obtain ⟨v, h1, h2, rfl⟩ := mv_ld_of hp
    obtain ⟨x, rfl⟩ := mv_isI_of h2
    exact lv_iload hx hb hd (hl.2.2.2 _ _ h1) (k ls hl)
  | iload_n i =>
    obtain rfl : len = 1 := by simpa [mv_lok, mv_ln] using hlen
    obtain ⟨v, h1, h2, rfl⟩ := mv_ld_of hp
    obtain ⟨x, rfl⟩ := mv_isI_of h2
    exact lv_iload_n hx hb hd rfl (hl.2.2.2 _ _ h1) (k ls hl)
  | lload i =>
    obtain rfl : len = 2 := by simpa [mv_lok, mv_ln] using hlen
    obtain ⟨v, h1, h2, rfl⟩ := mv_ld_of hp
    obtain ⟨x, rfl⟩ := mv_isL_of h2
    exact lv_lload hx hb hd (hl.2.2.2 _ _ h1) (k ls hl)
  | lload_n i =>
    obtain rfl : len = 1 := by simpa [mv_lok, mv_ln] using hlen
    obtain ⟨v, h1, h2, rfl⟩ := mv_ld_of hp
    obtain ⟨x, rfl⟩ := mv_isL_of h2
    exact lv_lload_n hx hb hd rfl (hl.2.2.2 _ _ h1) (k ls hl)
  | astore i =>
    obtain rfl : len = 2 := by simpa [mv_lok, mv_ln] using hlen
    obtain ⟨v, r, L2, rfl, h2, h3, rfl⟩ := mv_st_of hp
    obtain ⟨h4, -, r9, rfl⟩ := mv_ref_cat h2
    obtain ⟨ls2, e2, h5⟩ := mv_store1 hl h4 h3
    exact mw_astore hx hb hd e2 (k ls2 h5)
  | astore_n i =>
    obtain rfl : len = 1 := by simpa [mv_lok, mv_ln] using hlen
    obtain ⟨v, r, L2, rfl, h2, h3, rfl⟩ := mv_st_of hp
    obtain ⟨h4, -, r9, rfl⟩ := mv_ref_cat h2
    obtain ⟨ls2, e2, h5⟩ := mv_store1 hl h4 h3
    exact mw_astore_n hx hb hd e2 (k ls2 h5)
  | istore i =>
    obtain rfl : len = 2 := by simpa [mv_lok, mv_ln] using hlen
    obtain ⟨v, r, L2, rfl, h2, h3, rfl⟩ := mv_st_of hp
    obtain ⟨x, rfl⟩ := mv_isI_of h2
    obtain ⟨ls2, e2, h5⟩ := mv_store1 hl rfl h3
    exact mw_istore hx hb hd e2 (k ls2 h5)
  | istore_n i =>
    obtain rfl : len = 1 := by simpa [mv_lok, mv_ln] using hlen
    obtain ⟨v, r, L2, rfl, h2, h3, rfl⟩ := mv_st_of hp
    obtain ⟨x, rfl⟩ := mv_isI_of h2
    obtain ⟨ls2, e2, h5⟩ := mv_store1 hl rfl h3
    exact mw_istore_n hx hb hd e2 (k ls2 h5)
  | lstore i =>
    obtain rfl : len = 2 := by simpa [mv_lok, mv_ln] using hlen
    obtain ⟨x, r, L2, rfl, h3, rfl⟩ := mv_stL_of hp
    obtain ⟨ls2, e2, h5⟩ := mv_store2 hl rfl h3
    exact mw_lstore hx hb hd e2 (k ls2 h5)
  | lstore_n i =>
    obtain rfl : len = 1 := by simpa [mv_lok, mv_ln] using hlen
    obtain ⟨x, r, L2, rfl, h3, rfl⟩ := mv_stL_of hp
    obtain ⟨ls2, e2, h5⟩ := mv_store2 hl rfl h3
    exact mw_lstore_n hx hb hd e2 (k ls2 h5)
  | iinc i v =>
    obtain rfl : len = 3 := by simpa [mv_lok, mv_ln] using hlen
    simp only [mv_abs, mv_pure] at hp
    split at hp
    · next x hx1 =>
      split at hp
      · next L2 h3 =>
        cases hp
        obtain ⟨ls2, e2, h5⟩ := mv_store1 hl rfl h3
        exact mw_iinc hx hb hd (hl.2.2.2 _ _ (mv_get_at hx1)) e2 (k ls2 h5)
      · cases hp
    · cases hp
  | dup =>
    obtain rfl : len = 1 := by simpa [mv_lok, mv_ln] using hlen
    simp only [mv_abs, mv_pure] at hp
    split at hp
    · next v r =>
      split at hp
      · next h1 => cases hp; exact lv_dup hx hb hd h1 (k ls hl)
      · cases hp
    · cases hp
  | pop =>
    obtain rfl : len = 1 := by simpa [mv_lok, mv_ln] using hlen
    simp only [mv_abs, mv_pure] at hp
    split at hp
    · next v r =>
      split at hp
      · next h1 => cases hp; exact lv_pop hx hb hd h1 (k ls hl)
      · cases hp
    · cases hp
  | dup_x1 =>
    obtain rfl : len = 1 := by simpa [mv_lok, mv_ln] using hlen
    simp only [mv_abs, mv_pure] at hp
    split at hp
    · next v w r =>
      split at hp
      · next h1 => cases hp; exact lv_dup_x1 hx hb hd h1.1 h1.2 (k ls hl)
      · cases hp
    · cases hp
  | dup_x2 =>
    obtain rfl : len = 1 := by simpa [mv_lok, mv_ln] using hlen
    simp only [mv_abs, mv_pure] at hp
    split at hp
    · next v w u r =>
      split at hp
      · next h1 => cases hp; exact lv_dup_x2 hx hb hd h1.1 h1.2.1 h1.2.2 (k ls hl)
      · cases hp
    · cases hp
  | dup2 =>
    obtain rfl : len = 1 := by simpa [mv_lok, mv_ln] using hlen
    simp only [mv_abs, mv_pure] at hp
    split at hp
    · next v w r =>
      split at hp
      · next h1 => cases hp; exact lv_dup2_11 hx hb hd h1.1 h1.2 (k ls hl)
      · cases hp
    · cases hp
  | iadd =>
    obtain rfl : len = 1 := by simpa [mv_lok, mv_ln] using hlen
    obtain ⟨x, y, r, rfl, rfl⟩ := mv_i2_of hp
    exact lv_iadd hx hb hd (k ls hl)
  | isub =>
    obtain rfl : len = 1 := by simpa [mv_lok, mv_ln] using hlen
    obtain ⟨x, y, r, rfl, rfl⟩ := mv_i2_of hp
    exact lv_isub hx hb hd (k ls hl)
  | imul =>
    obtain rfl : len = 1 := by simpa [mv_lok, mv_ln] using hlen
    obtain ⟨x, y, r, rfl, rfl⟩ := mv_i2_of hp
    exact lv_imul hx hb hd (k ls hl)
  | iand =>
    obtain rfl : len = 1 := by simpa [mv_lok, mv_ln] using hlen
    obtain ⟨x, y, r, rfl, rfl⟩ := mv_i2_of hp
    exact lv_iand hx hb hd (k ls hl)
  | ior =>
    obtain rfl : len = 1 := by simpa [mv_lok, mv_ln] using hlen
    obtain ⟨x, y, r, rfl, rfl⟩ := mv_i2_of hp
    exact lv_ior hx hb hd (k ls hl)
  | ishl =>
    obtain rfl : len = 1 := by simpa [mv_lok, mv_ln] using hlen
    obtain ⟨x, y, r, rfl, rfl⟩ := mv_i2_of hp
    exact lv_ishl hx hb hd (k ls hl)
  | ishr =>
    obtain rfl : len = 1 := by simpa [mv_lok, mv_ln] using hlen
    obtain ⟨x, y, r, rfl, rfl⟩ := mv_i2_of hp
    exact lv_ishr hx hb hd (k ls hl)
  | idiv =>
    obtain rfl : len = 1 := by simpa [mv_lok, mv_ln] using hlen
    simp only [mv_abs, mv_pure] at hp
    split at hp
    · next y x r =>
      split at hp
      · cases hp
      · next h1 => cases hp; exact lv_idiv hx hb hd h1 (k ls hl)
    · cases hp
  | irem =>
    obtain rfl : len = 1 := by simpa [mv_lok, mv_ln] using hlen
    simp only [mv_abs, mv_pure] at hp
    split at hp
    · next y x r =>
      split at hp
      · cases hp
      · next h1 => cases hp; exact lv_irem hx hb hd h1 (k ls hl)
    · cases hp
  | ineg =>
    obtain rfl : len = 1 := by simpa [mv_lok, mv_ln] using hlen
    simp only [mv_abs, mv_pure] at hp
    split at hp
    · next x r => cases hp; exact lv_ineg hx hb hd (k ls hl)
    · cases hp
  | i2l =>
    obtain rfl : len = 1 := by simpa [mv_lok, mv_ln] using hlen
    simp only [mv_abs, mv_pure] at hp
    split at hp
    · next x r => cases hp; exact lv_i2l hx hb hd rfl (k ls hl)
    · cases hp
  | lcmp =>
    obtain rfl : len = 1 := by simpa [mv_lok, mv_ln] using hlen
    simp only [mv_abs, mv_pure] at hp
    split at hp
    · next y x r => cases hp; exact W.lcmp hx hb hd (k ls hl)
    · cases hp
  | goto o =>
    obtain rfl : len = 3 := by simpa [mv_lok, mv_ln] using hlen
    cases hp
    exact lv_goto hx hb hd (mv_tn hnn) (k ls hl)
  | ifCond cnd o =>
    obtain rfl : len = 3 := by simpa [mv_lok, mv_ln] using hlen
    simp only [mv_abs, mv_pure] at hp
    split at hp
    · next x r =>
      cases hp
      have k2 := k ls (by rw [mv_go_L]; exact hl)
      cases cnd with
      | eq => exact mw_if_eq (L := L) hx hb hd hnn k2
      | ne => exact mw_if_ne (L := L) hx hb hd hnn k2
      | lt => exact mw_if_lt (L := L) hx hb hd hnn k2
      | ge => exact mw_if_ge (L := L) hx hb hd hnn k2
      | gt => exact mw_if_gt (L := L) hx hb hd hnn k2
      | le => exact mw_if_le (L := L) hx hb hd hnn k2
    · cases hp
  | if_icmp cnd o =>
    obtain rfl : len = 3 := by simpa [mv_lok, mv_ln] using hlen
    simp only [mv_abs, mv_pure] at hp
    split at hp
    · next y x r =>
      cases hp
      have k2 := k ls (by rw [mv_go_L]; exact hl)
      cases cnd with
      | eq => exact mw_ic_eq (L := L) hx hb hd hnn k2
      | ne => exact mw_ic_ne (L := L) hx hb hd hnn k2
      | lt => exact mw_ic_lt (L := L) hx hb hd hnn k2
      | ge => exact mw_ic_ge (L := L) hx hb hd hnn k2
      | gt => exact mw_ic_gt (L := L) hx hb hd hnn k2
      | le => exact mw_ic_le (L := L) hx hb hd hnn k2
    · cases hp
  | if_acmp cnd o =>
    obtain rfl : len = 3 := by simpa [mv_lok, mv_ln] using hlen
    simp only [mv_abs, mv_pure] at hp
    split at hp
    · next w v r =>
      split at hp
      · next q hq =>
        cases hp
        have k2 := k ls (by rw [mv_go_L]; exact hl)
        cases cnd with
        | eq => exact mw_ac_eq (L := L) hx hb hd hnn hq k2
        | ne => exact mw_ac_ne (L := L) hx hb hd hnn hq k2
      · cases hp
    · cases hp
  | ifnull o =>
    obtain rfl : len = 3 := by simpa [mv_lok, mv_ln] using hlen
    simp only [mv_abs, mv_pure] at hp
    split at hp
    · next r => cases hp; exact lv_ifnullN hx hb hd (mv_tn hnn) (k ls hl)
    · next a r => cases hp; exact lv_ifnull hx hb hd (k ls hl)
    · cases hp
  | ifnonnull o =>
    obtain rfl : len = 3 := by simpa [mv_lok, mv_ln] using hlen
    simp only [mv_abs, mv_pure] at hp
    split at hp
    · next a r => cases hp; exact lv_ifnonnull hx hb hd (mv_tn hnn) (k ls hl)
    · next r => cases hp; exact lv_ifnonnullN hx hb hd (k ls hl)
    · cases hp
  | tableswitch d lo hi os =>
    simp only [mv_abs, mv_pure] at hp
    split at hp
    · next x r => cases hp; exact mw_table hx hb hd hnn (k ls hl)
    · cases hp
  | _ => exact absurd hp (by simp [mv_abs, mv_pure])
end MVD
end
section
/-! the heap -/
abbrev mv_G : Type := (Nat → ClassId) × (Nat → Nat → Nat) × (Nat → ClassId)
def mv_cell (cl : List mv_K) (g : mv_G) (a : Nat) (x : mv_C) (H : Heap) : Prop := match x with
  | .inl y => H[a]? = some (arrV (g.2.2 y.1) y.2.1 y.2.2)
  | .inr y => ∃ r : mv_K, cl[y.1]? = some r ∧ t_OB a (g.1 y.1) r.2.2.1 (g.2.1 y.1) H y.2
def mv_rel (cl : List mv_K) (g : mv_G) (b : Nat) (h : mv_H) (H : Heap) : Prop := H.size = b + h.length ∧ ∀ (i : Nat) (x : mv_C), h[i]? = some x → mv_cell cl g (b + i) x H
def mv_kn (cl : List mv_K) (tys : List FieldType) (g : mv_G) (U : State) : Prop := (∀ (ci : Nat) (r : mv_K), cl[ci]? = some r → u_Kn U r.1 r.2.1 r.2.2.1 (g.1 ci) (g.2.1 ci)) ∧ ∀ (t : Nat) (ty : FieldType), tys[t]? = some ty → ArrOfT U (g.2.2 t) ty ∧ va_RA U (g.2.2 t) ty
def mv_fr (b : Nat) (H0 H : Heap) (locs : List Loc) : Prop := (∀ q : Nat, q < b → H[q]? = H0[q]?) ∧ ∀ q ∈ locs, b ≤ q.base
theorem mv_kn.moved {cl : List mv_K} {tys : List FieldType} {g : mv_G} {u U : State} (hvm : u.vm.Alike U.vm) (h : mv_kn cl tys g u) : mv_kn cl tys g U := ⟨fun ci r hr => u_Kn_moved hvm (h.1 ci r hr), fun t ty ht => ⟨arrOfT_moved hvm (h.2 t ty ht).1, (h.2 t ty ht).2.moved hvm⟩⟩
theorem mv_cell.kept {cl : List mv_K} {g : mv_G} {a : Nat} {x : mv_C} {H H1 : Heap} (h : mv_cell cl g a x H) (hq : H1[a]? = H[a]?) : mv_cell cl g a x H1 := by
  cases x with
  | inl y => exact hq.trans h
  | inr y =>
    obtain ⟨r, h1, h2⟩ := h
    exact ⟨r, h1, h2.kept hq⟩
theorem mv_cell.lt {cl : List mv_K} {g : mv_G} {a : Nat} {x : mv_C} {H : Heap} (h : mv_cell cl g a x H) : a < H.size := by
  cases x with
  | inl y => exact (Array.getElem?_eq_some_iff.mp h).1
  | inr y =>
    obtain ⟨r, h1, cell, h2, -⟩ := h
    exact (Array.getElem?_eq_some_iff.mp h2).1
theorem mv_lk_of {b : Nat} {h : mv_H} {a : Nat} {x : mv_C} (hl : mv_lk b h a = some x) : b ≤ a ∧ h[a - b]? = some x := by
  unfold mv_lk at hl
  split at hl
  · next hb => exact ⟨hb, hl⟩
  · cases hl
theorem mv_rel.at {cl : List mv_K} {g : mv_G} {b : Nat} {h : mv_H} {H : Heap} {a : Nat} {x : mv_C} (hR : mv_rel cl g b h H) (hl : mv_lk b h a = some x) : mv_cell cl g a x H := by
  obtain ⟨h1, h2⟩ := mv_lk_of hl
  have h3 := hR.2 _ _ h2
  rwa [Nat.add_sub_cancel' h1] at h3
theorem mv_rel.put {cl : List mv_K} {g : mv_G} {b : Nat} {h : mv_H} {H H1 : Heap} {a : Nat} {x y : mv_C} (hR : mv_rel cl g b h H) (hl : mv_lk b h a = some x) (hy : mv_cell cl g a y H1) (hz : H1.size = H.size) (oq : ∀ q : Nat, q ≠ a → H1[q]? = H[q]?) : mv_rel cl g b (mv_up b h a y) H1 := by
  obtain ⟨h1, h2⟩ := mv_lk_of hl
  have hlt : a - b < h.length := (List.getElem?_eq_some_iff.mp h2).1
  refine ⟨by rw [hz, hR.1, mv_up, List.length_set], fun i z hi => ?_⟩
  by_cases hia : a - b = i
  · subst hia
    rw [mv_up, List.getElem?_set_self hlt] at hi
    cases hi
    rwa [Nat.add_sub_cancel' h1]
  · rw [mv_up, List.getElem?_set_ne hia] at hi
    exact (hR.2 i z hi).kept (oq _ (by omega))
theorem mv_rel.push {cl : List mv_K} {g : mv_G} {b : Nat} {h : mv_H} {H H1 : Heap} {y : mv_C} (hR : mv_rel cl g b h H) (hy : mv_cell cl g H.size y H1) (hz : H1.size = H.size + 1) (oq : ∀ q : Nat, q < H.size → H1[q]? = H[q]?) : mv_rel cl g b (h ++ [y]) H1 := by
  refine ⟨by rw [hz, hR.1, List.length_append]; simp; omega, fun i z hi => ?_⟩
  by_cases hl : i < h.length
  · rw [List.getElem?_append_left hl] at hi
    exact (hR.2 i z hi).kept (oq _ (by rw [hR.1]; omega))
  · rw [List.getElem?_append_right (by omega)] at hi
    have hz0 : i - h.length < 1 := (List.getElem?_eq_some_iff.mp hi).1
    have hi0 : i = h.length := by omega
    subst hi0
    rw [Nat.sub_self] at hi
    cases hi
    rw [← hR.1]
    exact hy
theorem mv_fr.put {b : Nat} {H0 H H1 : Heap} {locs : List Loc} {a k : Nat} (h : mv_fr b H0 H locs) (oq : ∀ q : Nat, q ≠ a → H1[q]? = H[q]?) (ha : b ≤ a) : mv_fr b H0 H1 (locs ++ [⟨a, k⟩]) := by
  refine ⟨fun q hq => (oq q (by omega)).trans (h.1 q hq), fun q hq => ?_⟩
  rcases List.mem_append.mp hq with h1 | h1
  · exact h.2 q h1
  · rw [List.mem_singleton.mp h1]
    exact ha
theorem mv_fr.push {b : Nat} {H0 H H1 : Heap} {locs : List Loc} (h : mv_fr b H0 H locs) (oq : ∀ q : Nat, q < H.size → H1[q]? = H[q]?) (hb : b ≤ H.size) : mv_fr b H0 H1 locs :=
  ⟨fun q hq => (oq q (by omega)).trans (h.1 q hq), h.2⟩
theorem mv_sz_app (cl : List mv_K) (h : mv_H) (x : mv_C) : mv_sz cl (h ++ [x]) = mv_sz cl h + mv_cz cl x := by
  induction h with
  | nil => simp [mv_sz]
  | cons y h ih => simp only [List.cons_append, mv_sz, ih]; omega
theorem mv_sz_set (cl : List mv_K) {h : mv_H} {i : Nat} {x y : mv_C} (hx : h[i]? = some x) (he : mv_cz cl y = mv_cz cl x) : mv_sz cl (h.set i y) = mv_sz cl h := by
  induction h generalizing i with
  | nil => simp at hx
  | cons z h ih =>
    cases i with
    | zero =>
      simp only [List.getElem?_cons_zero, Option.some.injEq] at hx
      subst hx
      simp only [List.set_cons_zero, mv_sz, he]
    | succ i =>
      simp only [List.getElem?_cons_succ] at hx
      simp only [List.set_cons_succ, mv_sz, ih hx]
theorem mv_up_len (b : Nat) (h : mv_H) (a : Nat) (y : mv_C) : (mv_up b h a y).length = h.length := by rw [mv_up, List.length_set]
theorem mv_up_sz (cl : List mv_K) {b : Nat} {h : mv_H} {a : Nat} {x y : mv_C} (hl : mv_lk b h a = some x) (he : mv_cz cl y = mv_cz cl x) : mv_sz cl (mv_up b h a y) = mv_sz cl h := mv_sz_set cl (mv_lk_of hl).2 he
theorem mv_up_szA (cl : List mv_K) {b : Nat} {h : mv_H} {a t N : Nat} {f f' : Nat → Value} (hl : mv_lk b h a = some (.inl (t, N, f))) : mv_sz cl (mv_up b h a (.inl (t, N, f'))) = mv_sz cl h := mv_up_sz cl hl rfl
theorem mv_up_szO (cl : List mv_K) {b : Nat} {h : mv_H} {a ci : Nat} {f f' : Nat → Value} (hl : mv_lk b h a = some (.inr (ci, f))) : mv_sz cl (mv_up b h a (.inr (ci, f'))) = mv_sz cl h := mv_up_sz cl hl rfl
/-- what is told of a class in the tables -/
def mv_clok (G : List Cond) (r : mv_K) : Prop := (∀ w ∈ u_ws r.1 r.2.1 r.2.2.1, w ∈ G) ∧ (∀ k, k < r.2.2.1 → ∃ ty, r.2.2.2.2[k]? = some ty ∧ parseFieldDescriptor (r.2.1 k).2.2.1 = some ty) ∧ (∀ a, a < r.2.2.1 → ∀ b, b < r.2.2.1 → a ≠ b → (r.2.1 a).2.1 ≠ (r.2.1 b).2.1)
/-- a field's link: index of the class own's pool, our number 64 * class + field -/
def mv_fl (cl : List mv_K) (G : List Cond) (own : String) (idx n : Nat) : Prop := ∃ r : mv_K, cl[n / 64]? = some r ∧ n % 64 < r.2.2.1 ∧ ∃ ref : String, Cond.fieldLink own idx ref (r.2.1 (n % 64)).2.1 (r.2.1 (n % 64)).2.2.1 ∈ G ∧ (ref = (r.2.1 (n % 64)).1 ∨ Cond.sameField ref (r.2.1 (n % 64)).1 (r.2.1 (n % 64)).2.1 (r.2.1 (n % 64)).2.2.1 ∈ G)
theorem mv_narrow {ty : FieldType} {v : Value} (h : fits ty v = true) (ht : ty ≠ .byte ∧ ty ≠ .short ∧ ty ≠ .char) : narrow ty v = v := by
  obtain ⟨h1, h2, h3⟩ := ht
  cases ty with
  | byte => exact absurd rfl h1
  | short => exact absurd rfl h2
  | char => exact absurd rfl h3
  | boolean =>
    cases v with
    | int x =>
      simp only [fits, Bool.or_eq_true, beq_iff_eq] at h
      rcases h with rfl | rfl <;> rfl
    | _ => cases h
  | _ => cases v <;> first | rfl | cases h
section MVH
variable {p : Program} {l : Launch} {e : Env} {R : Room} {s : State} {m : MethodId} {args : Array Value} {below : List Frame} {meth : Method} {c : Code} {H H0 : Heap} {locs : List Loc} {cells slots : Nat} {Q : State → Prop}
variable {cc : ByteArray} {pc : Nat} {ls : Array Slot} {rest : List Value} {G : List Cond} {cl : List mv_K} {tys : List FieldType} {g : mv_G} {b a : Nat} {h : mv_H} {own : String}
theorem mh_get (hx : p.tables.exec = Jvm.exec) (hb : c.code = cc) (hts : ∀ w ∈ G, w.before args s = true) (hcl : ∀ (ci : Nat) (r : mv_K), cl[ci]? = some r → mv_clok G r) (hown : s.vm.findClass own = some m.cls) (hK : mv_kn cl tys g s) (hR : mv_rel cl g b h H)
    {idx n : Nat} {V : Nat → Value} (hf : mv_fl cl G own idx n) (hlk : mv_lk b h a = some (.inr (n / 64, V))) (hdg : decode cc pc = .ok (.getfield idx, 3))
    (kk : W p l e R s m args below meth c H locs cells slots Q (F0 m (pc + 3) ls (V (n % 64) :: rest))) : W p l e R s m args below meth c H locs cells slots Q (F0 m pc ls (.ref a :: rest)) := by
  obtain ⟨r, hr, hk, ref, hlink, hsame⟩ := hf
  obtain ⟨r', hr', cell, q1, q2, q3, q4⟩ := hR.at hlk
  have hrr : r' = r := Option.some.inj (hr'.symm.trans hr)
  subst hrr
  obtain ⟨hin, hty, hnm⟩ := hcl _ _ hr
  obtain ⟨hS, hfc, kC, hkC, hkind⟩ := hK.1 _ _ hr
  obtain ⟨cf, kf, fi, f, hi, hsl⟩ := hS _ hk
  have hi2 : s.fieldFound? ref (r'.2.1 (n % 64)).2.1 (r'.2.1 (n % 64)).2.2.1 = some (cf, kf, fi, f) := by
    rcases hsame with rfl | hsm
    · exact hi
    · exact u_same (hts _ hsm) _ hi
  refine W.getf hx hb hown (hts _ hlink) hi2 (u_facts hfc hkC (u_lays hts hin hk) hi).1 q1 (by rw [q3]; exact fun h => by cases h) (v := V (n % 64)) ?_ rfl rfl hdg kk
  rw [hsl, q4 _ hk]
theorem mh_apart (hts : ∀ w ∈ G, w.before args s = true) {r : mv_K} {cC : ClassId} {iS : Nat → Nat} (hc : mv_clok G r) (hK : u_Kn s r.1 r.2.1 r.2.2.1 cC iS) : ∀ x y, x < r.2.2.1 → y < r.2.2.1 → x ≠ y → iS x ≠ iS y := by
  intro x y hx hy hne
  obtain ⟨hin, hty, hnm⟩ := hc
  obtain ⟨hS, -⟩ := hK
  obtain ⟨_, _, _, fa, hia, ea⟩ := hS x hx
  obtain ⟨_, _, _, fb, hib, eb⟩ := hS y hy
  obtain ⟨tx, -, htx⟩ := hty x hx
  obtain ⟨t2, -, ht2⟩ := hty y hy
  rw [← ea, ← eb]
  refine u_apart (u_lays hts hin hx) (u_lays hts hin hy) hia hib ?_
  rw [(State.fieldFound?_type hia htx).1, (State.fieldFound?_type hib ht2).1]
  exact hnm x hx y hy hne
theorem mh_put (hx : p.tables.exec = Jvm.exec) (hb : c.code = cc) (hts : ∀ w ∈ G, w.before args s = true) (hcl : ∀ (ci : Nat) (r : mv_K), cl[ci]? = some r → mv_clok G r) (hown : s.vm.findClass own = some m.cls) (hK : mv_kn cl tys g s) (hR : mv_rel cl g b h H) (hF : mv_fr b H0 H locs)
    {idx n : Nat} {V : Nat → Value} {v : Value} {r : mv_K} {ty : FieldType} (hf : mv_fl cl G own idx n) (hr : cl[n / 64]? = some r) (hty : r.2.2.2.2[n % 64]? = some ty) (hfit : fits ty v = true) (hnt : ty ≠ .byte ∧ ty ≠ .short ∧ ty ≠ .char)
    (hfin : (r.2.1 (n % 64)).2.2.2 = true → meth.name = "<init>" ∧ (r.2.1 (n % 64)).1 = own) (hlk : mv_lk b h a = some (.inr (n / 64, V))) (hdg : decode cc pc = .ok (.putfield idx, 3))
    (kk : ∀ (H1 : Heap) (locs1 : List Loc), mv_rel cl g b (mv_up b h a (.inr (n / 64, updV V (n % 64) v))) H1 → mv_fr b H0 H1 locs1 → W p l e R s m args below meth c H1 locs1 cells slots Q (F0 m (pc + 3) ls rest)) : W p l e R s m args below meth c H locs cells slots Q (F0 m pc ls (v :: .ref a :: rest)) := by
  obtain ⟨r2, hr2, hk, ref, hlink, hsame⟩ := hf
  cases Option.some.inj (hr2.symm.trans hr)
  obtain ⟨r', hr', cell, q1, q2, q3, q4⟩ := hR.at hlk
  cases Option.some.inj (hr'.symm.trans hr)
  obtain ⟨hin, htys, hnm⟩ := hcl _ _ hr
  have hKn := hK.1 _ _ hr
  have hap := mh_apart hts (hcl _ _ hr) hKn
  obtain ⟨hS, hfc, kC, hkC, hkind⟩ := hKn
  obtain ⟨cf, kf, fi, f, hi, hsl⟩ := hS _ hk
  obtain ⟨ty2, ht2, hd⟩ := htys _ hk
  cases Option.some.inj (ht2.symm.trans hty)
  have hn : narrow ty v = v := mv_narrow hfit hnt
  have hi2 : s.fieldFound? ref (r.2.1 (n % 64)).2.1 (r.2.1 (n % 64)).2.2.1 = some (cf, kf, fi, f) := by
    rcases hsame with rfl | hsm
    · exact hi
    · exact u_same (hts _ hsm) _ hi
  have hst := (u_facts hfc hkC (u_lays hts hin hk) hi).1
  have hab : b ≤ a := (mv_lk_of hlk).1
  have hlay := hts _ (hin _ (u_in_lay hk))
  unfold u_lay at hlay
  cases hfb : (r.2.1 (n % 64)).2.2.2 with
  | false =>
    rw [if_neg (by rw [hfb]; decide)] at hlay
    have h6 := u_store hfc hkC hkind hlay hi hd hn hfit
    refine W.putK hx hb (f := f) ⟨hown, hts _ hlink, ⟨_, _, _, hi2⟩, hst⟩ (by rw [q2]; exact h6) q1 q3 (by rw [hsl]; exact k2_hasslot (q4 _ hk)) rfl rfl hdg fun H' e1 e2 e3 => ?_
    rw [hsl] at e1
    exact kk H' _ (hR.put hlk ⟨_, hr, _, e1, q2, q3, t_set q4 hap hk v⟩ e2 e3) (hF.put e3 hab)
  | true =>
    rw [if_pos hfb] at hlay
    obtain ⟨hin2, hdecl⟩ := hfin hfb
    have hcf : m.cls = cf := by
      obtain ⟨_, _, c', _, _, _, -, -, hf', -, -, -, hown2, -⟩ := Cond.laysFinal_spec hlay
      have e1 : c' = cf := by have := hi.symm.trans hf'; simp at this; exact this.1.symm
      rw [hdecl] at hown2
      rw [← e1]; exact Option.some.inj (hown.symm.trans hown2)
    have h6 := u_fits hfc hkC hkind (Or.inr hlay) hi hd hn hfit
    refine W.putFinK hx hb hown (hts _ hlink) hi2 hst hcf hin2 (by rw [q2]; exact h6) q1 q3 (by rw [hsl]; exact k2_hasslot (q4 _ hk)) rfl rfl hdg fun H' e1 e2 e3 => ?_
    rw [hsl] at e1
    exact kk H' _ (hR.put hlk ⟨_, hr, _, e1, q2, q3, t_set q4 hap hk v⟩ e2 e3) (hF.put e3 hab)
/-- an object's fields when it is made -/
def mv_def (r : mv_K) (k : Nat) : Value := match r.2.2.2.2[k]? with
  | some ty => defaultValue ty
  | none => .null
theorem mh_new (hx : p.tables.exec = Jvm.exec) (hb : c.code = cc) (hts : ∀ w ∈ G, w.before args s = true) (hcl : ∀ (ci : Nat) (r : mv_K), cl[ci]? = some r → mv_clok G r) (hown : s.vm.findClass own = some m.cls) (hK : mv_kn cl tys g s) (hR : mv_rel cl g b h H) (hF : mv_fr b H0 H locs)
    {idx ci : Nat} {r : mv_K} (hr : cl[ci]? = some r) (w1 : Cond.classLink own idx r.1 ∈ G) (w2 : Cond.instantiable r.1 r.2.2.2.1 ∈ G) (w3 : Cond.initialized r.1 ∈ G) (hcells : cells + 1 ≤ R.cells) (hslots : slots + r.2.2.2.1 ≤ R.slots) (hdg : decode cc pc = .ok (.new idx, 3))
    (kk : ∀ (H1 : Heap), mv_rel cl g b (h ++ [.inr (ci, mv_def r)]) H1 → mv_fr b H0 H1 locs → W p l e R s m args below meth c H1 locs (cells + 1) (slots + r.2.2.2.1) Q (F0 m (pc + 3) ls (.ref (b + h.length) :: rest))) : W p l e R s m args below meth c H locs cells slots Q (F0 m pc ls rest) := by
  have hKn := hK.1 _ _ hr
  obtain ⟨hin, hty, -⟩ := hcl _ _ hr
  refine W.newcK hx hb hown (hts _ w1) (hts _ w2) (hts _ w3) rfl hdg hcells hslots hKn.2.1 rfl fun H1 kC hkC e1 z1 o1 => ?_
  rw [hR.1]
  refine kk H1 (hR.push ⟨r, hr, ?_⟩ z1 o1) (hF.push o1 (by rw [hR.1]; omega))
  have h9 : ∀ k, k < r.2.2.1 → parseFieldDescriptor (r.2.1 k).2.2.1 = some ((r.2.2.2.2[k]?).getD .int) := fun k hk => by
    obtain ⟨ty, h1, h2⟩ := hty k hk
    rw [h1]; exact h2
  refine (u_born (fun k => (r.2.2.2.2[k]?).getD .int) hts hin hKn hkC e1 h9).to (fun k hk => ?_)
  obtain ⟨ty, h1, h2⟩ := hty k hk
  simp [mv_def, h1]
theorem mh_newa (hx : p.tables.exec = Jvm.exec) (hb : c.code = cc) (hts : ∀ w ∈ G, w.before args s = true) (hK : mv_kn cl tys g s) (hR : mv_rel cl g b h H) (hF : mv_fr b H0 H locs)
    {t : Nat} {at_ : ArrayType} (ht : tys[t]? = some (newarray.typeOf at_)) (w1 : Cond.arrayClass (newarray.typeOf at_) ∈ G) {x : Int32} (hn : ¬ x < 0) (hbytes : x.toNatClampNeg ≤ 60000000) (hcells : cells + 1 ≤ R.cells) (hslots : slots + x.toNatClampNeg ≤ R.slots) (hdg : decode cc pc = .ok (.newarray at_, 2))
    (kk : ∀ (H1 : Heap), mv_rel cl g b (h ++ [.inl (t, x.toNatClampNeg, fun _ => defaultValue (newarray.typeOf at_))]) H1 → mv_fr b H0 H1 locs → W p l e R s m args below meth c H1 locs (cells + 1) (slots + x.toNatClampNeg) Q (F0 m (pc + 2) ls (.ref (b + h.length) :: rest))) : W p l e R s m args below meth c H locs cells slots Q (F0 m pc ls (.int x :: rest)) := by
  refine va_newaK hx hb (hts _ w1) rfl hdg rfl hn rfl (by cases at_ <;> simp [newarray.typeOf, componentBytes] <;> omega) hcells hslots rfl fun H1 cA e1 z1 o1 hAr hNm => ?_
  have hcA : cA = g.2.2 t := by
    have h2 := (hK.2 _ _ ht).2
    have h3 : s.vm.findClass ("[" ++ (newarray.typeOf at_).toString) = some (g.2.2 t) := by cases at_ <;> exact h2
    exact Option.some.inj (hNm.symm.trans h3)
  subst hcA
  rw [hR.1]
  exact kk H1 (hR.push e1 z1 o1) (hF.push o1 (by rw [hR.1]; omega))
theorem mh_newq (hx : p.tables.exec = Jvm.exec) (hb : c.code = cc) (hts : ∀ w ∈ G, w.before args s = true) (hown : s.vm.findClass own = some m.cls) (hK : mv_kn cl tys g s) (hR : mv_rel cl g b h H) (hF : mv_fr b H0 H locs)
    {idx t : Nat} {C : String} (ht : tys[t]? = some (.object C)) (w1 : Cond.classLink own idx C ∈ G) (w2 : Cond.arrayOver (.object C) ∈ G) {x : Int32} (hn : ¬ x < 0) (hbytes : x.toNatClampNeg ≤ 60000000) (hcells : cells + 1 ≤ R.cells) (hslots : slots + x.toNatClampNeg ≤ R.slots) (hdg : decode cc pc = .ok (.anewarray idx, 3))
    (kk : ∀ (H1 : Heap), mv_rel cl g b (h ++ [.inl (t, x.toNatClampNeg, fun _ => .null)]) H1 → mv_fr b H0 H1 locs → W p l e R s m args below meth c H1 locs (cells + 1) (slots + x.toNatClampNeg) Q (F0 m (pc + 3) ls (.ref (b + h.length) :: rest))) : W p l e R s m args below meth c H locs cells slots Q (F0 m pc ls (.int x :: rest)) := by
  refine W.anew hx hb hown (hts _ w1) (hts _ w2) rfl hdg rfl hn (by omega) hcells hslots fun cA kA comp f1 f2 f3 f4 => ?_
  generalize hH1 : H.push ({ cls := cA, slots := Array.replicate x.toNatClampNeg .null, vm := .none } : Cell) = H1
  have z1 : H1.size = H.size + 1 := by rw [← hH1, Array.size_push]
  have e1 : H1[H.size]? = some (arrV cA x.toNatClampNeg (fun _ => .null)) := by rw [← hH1, Array.getElem?_push_size, ← arrV_new]
  have o1 : ∀ q : Nat, q < H.size → H1[q]? = H[q]? := fun q hq => by rw [← hH1, Array.getElem?_push, if_neg (Nat.ne_of_lt hq)]
  have hcA : cA = g.2.2 t := by
    obtain ⟨kA2, comp2, -, -, -, g4⟩ := (hK.2 _ _ ht).2
    exact Option.some.inj (f1.symm.trans g4)
  subst hcA
  rw [hR.1]
  exact kk H1 (hR.push e1 z1 o1) (hF.push o1 (by rw [hR.1]; omega))
theorem mh_alen (hx : p.tables.exec = Jvm.exec) (hb : c.code = cc) (hK : mv_kn cl tys g s) (hR : mv_rel cl g b h H) {t N : Nat} {f : Nat → Value} {ty : FieldType} (ht : tys[t]? = some ty) (hlk : mv_lk b h a = some (.inl (t, N, f))) (hdg : decode cc pc = .ok (.arraylength, 1))
    (kk : W p l e R s m args below meth c H locs cells slots Q (F0 m (pc + 1) ls (.int (Int32.ofNat N) :: rest))) : W p l e R s m args below meth c H locs cells slots Q (F0 m pc ls (.ref a :: rest)) :=
  W.alen hx hb (hR.at hlk) ((hK.2 _ _ ht).1 N f) (by show (arrV _ _ _).slots.size.toInt32 = _; rw [arrV_size]) rfl rfl hdg kk
theorem mh_in {i : Int32} {N : Nat} {cA : ClassId} {f : Nat → Value} (hin : ¬ (i < 0 ∨ N ≤ i.toNatClampNeg)) : ¬ (i < 0 ∨ (arrV cA N f).slots.size ≤ i.toNatClampNeg) ∧ (arrV cA N f).slots[i.toNatClampNeg]? = some (f i.toNatClampNeg) :=
  ⟨by rw [arrV_size]; exact hin, arrV_read _ _ (Nat.not_le.mp fun q => hin (Or.inr q))⟩
theorem mh_iald (hx : p.tables.exec = Jvm.exec) (hb : c.code = cc) (hK : mv_kn cl tys g s) (hR : mv_rel cl g b h H) {t N : Nat} {f : Nat → Value} {i : Int32} (ht : tys[t]? = some .int) (hlk : mv_lk b h a = some (.inl (t, N, f))) (hin : ¬ (i < 0 ∨ N ≤ i.toNatClampNeg)) (hdg : decode cc pc = .ok (.iaload, 1))
    (kk : W p l e R s m args below meth c H locs cells slots Q (F0 m (pc + 1) ls (f i.toNatClampNeg :: rest))) : W p l e R s m args below meth c H locs cells slots Q (F0 m pc ls (.int i :: .ref a :: rest)) :=
  W.iald hx hb (hR.at hlk) ((hK.2 _ _ ht).1 N f) (fun q => by cases q) (mh_in hin).1 (mh_in hin).2 rfl rfl hdg kk
theorem mh_zald (hx : p.tables.exec = Jvm.exec) (hb : c.code = cc) (hK : mv_kn cl tys g s) (hR : mv_rel cl g b h H) {t N : Nat} {f : Nat → Value} {i : Int32} (ht : tys[t]? = some .boolean) (hlk : mv_lk b h a = some (.inl (t, N, f))) (hin : ¬ (i < 0 ∨ N ≤ i.toNatClampNeg)) (hdg : decode cc pc = .ok (.baload, 1))
    (kk : W p l e R s m args below meth c H locs cells slots Q (F0 m (pc + 1) ls (f i.toNatClampNeg :: rest))) : W p l e R s m args below meth c H locs cells slots Q (F0 m pc ls (.int i :: .ref a :: rest)) :=
  W.zald hx hb (hR.at hlk) ((hK.2 _ _ ht).1 N f) (fun q => by cases q) (mh_in hin).1 (mh_in hin).2 rfl rfl hdg kk
theorem mh_lald (hx : p.tables.exec = Jvm.exec) (hb : c.code = cc) (hK : mv_kn cl tys g s) (hR : mv_rel cl g b h H) {t N : Nat} {f : Nat → Value} {i : Int32} (ht : tys[t]? = some .long) (hlk : mv_lk b h a = some (.inl (t, N, f))) (hin : ¬ (i < 0 ∨ N ≤ i.toNatClampNeg)) (hdg : decode cc pc = .ok (.laload, 1))
    (kk : W p l e R s m args below meth c H locs cells slots Q (F0 m (pc + 1) ls (f i.toNatClampNeg :: rest))) : W p l e R s m args below meth c H locs cells slots Q (F0 m pc ls (.int i :: .ref a :: rest)) :=
  W.lald hx hb (hR.at hlk) ((hK.2 _ _ ht).1 N f) (fun q => by cases q) (mh_in hin).1 (mh_in hin).2 rfl rfl hdg kk
theorem mh_aald (hx : p.tables.exec = Jvm.exec) (hb : c.code = cc) (hK : mv_kn cl tys g s) (hR : mv_rel cl g b h H) {t N : Nat} {f : Nat → Value} {i : Int32} {C : String} (ht : tys[t]? = some (.object C)) (hlk : mv_lk b h a = some (.inl (t, N, f))) (hin : ¬ (i < 0 ∨ N ≤ i.toNatClampNeg)) (hdg : decode cc pc = .ok (.aaload, 1))
    (kk : W p l e R s m args below meth c H locs cells slots Q (F0 m (pc + 1) ls (f i.toNatClampNeg :: rest))) : W p l e R s m args below meth c H locs cells slots Q (F0 m pc ls (.int i :: .ref a :: rest)) :=
  W.aald (ty := .object C) hx hb (hR.at hlk) ((hK.2 _ _ ht).1 N f) rfl (fun q => by cases q) (mh_in hin).1 (mh_in hin).2 rfl rfl hdg kk
theorem mh_iast (hx : p.tables.exec = Jvm.exec) (hb : c.code = cc) (hK : mv_kn cl tys g s) (hR : mv_rel cl g b h H) (hF : mv_fr b H0 H locs) {t N : Nat} {f : Nat → Value} {i x : Int32} (ht : tys[t]? = some .int) (hlk : mv_lk b h a = some (.inl (t, N, f))) (hin : ¬ (i < 0 ∨ N ≤ i.toNatClampNeg)) (hdg : decode cc pc = .ok (.iastore, 1))
    (kk : ∀ (H1 : Heap) (locs1 : List Loc), mv_rel cl g b (mv_up b h a (.inl (t, N, updV f i.toNatClampNeg (.int x)))) H1 → mv_fr b H0 H1 locs1 → W p l e R s m args below meth c H1 locs1 cells slots Q (F0 m (pc + 1) ls rest)) : W p l e R s m args below meth c H locs cells slots Q (F0 m pc ls (.int x :: .int i :: .ref a :: rest)) := by
  refine W.iast hx hb (hR.at hlk) ((hK.2 _ _ ht).1 N f) (fun q => by cases q) (mh_in hin).1 rfl rfl hdg fun H1 e1 z1 o1 => ?_
  rw [arrV_store] at e1
  exact kk H1 _ (hR.put hlk e1 z1 o1) (hF.put o1 (mv_lk_of hlk).1)
theorem mh_zast (hx : p.tables.exec = Jvm.exec) (hb : c.code = cc) (hK : mv_kn cl tys g s) (hR : mv_rel cl g b h H) (hF : mv_fr b H0 H locs) {t N : Nat} {f : Nat → Value} {i x : Int32} (ht : tys[t]? = some .boolean) (hlk : mv_lk b h a = some (.inl (t, N, f))) (hin : ¬ (i < 0 ∨ N ≤ i.toNatClampNeg)) (hdg : decode cc pc = .ok (.bastore, 1))
    (kk : ∀ (H1 : Heap) (locs1 : List Loc), mv_rel cl g b (mv_up b h a (.inl (t, N, updV f i.toNatClampNeg (narrow .boolean (.int x))))) H1 → mv_fr b H0 H1 locs1 → W p l e R s m args below meth c H1 locs1 cells slots Q (F0 m (pc + 1) ls rest)) : W p l e R s m args below meth c H locs cells slots Q (F0 m pc ls (.int x :: .int i :: .ref a :: rest)) := by
  refine W.zast hx hb (hR.at hlk) ((hK.2 _ _ ht).1 N f) (fun q => by cases q) (mh_in hin).1 rfl rfl hdg fun H1 e1 z1 o1 => ?_
  rw [arrV_store] at e1
  exact kk H1 _ (hR.put hlk e1 z1 o1) (hF.put o1 (mv_lk_of hlk).1)
theorem mh_last (hx : p.tables.exec = Jvm.exec) (hb : c.code = cc) (hK : mv_kn cl tys g s) (hR : mv_rel cl g b h H) (hF : mv_fr b H0 H locs) {t N : Nat} {f : Nat → Value} {i : Int32} {x : Int64} (ht : tys[t]? = some .long) (hlk : mv_lk b h a = some (.inl (t, N, f))) (hin : ¬ (i < 0 ∨ N ≤ i.toNatClampNeg)) (hdg : decode cc pc = .ok (.lastore, 1))
    (kk : ∀ (H1 : Heap) (locs1 : List Loc), mv_rel cl g b (mv_up b h a (.inl (t, N, updV f i.toNatClampNeg (.long x)))) H1 → mv_fr b H0 H1 locs1 → W p l e R s m args below meth c H1 locs1 cells slots Q (F0 m (pc + 1) ls rest)) : W p l e R s m args below meth c H locs cells slots Q (F0 m pc ls (.long x :: .int i :: .ref a :: rest)) := by
  refine W.last hx hb (hR.at hlk) ((hK.2 _ _ ht).1 N f) (fun q => by cases q) (mh_in hin).1 rfl rfl hdg fun H1 e1 z1 o1 => ?_
  rw [arrV_store] at e1
  exact kk H1 _ (hR.put hlk e1 z1 o1) (hF.put o1 (mv_lk_of hlk).1)
theorem mh_aastN (hx : p.tables.exec = Jvm.exec) (hb : c.code = cc) (hK : mv_kn cl tys g s) (hR : mv_rel cl g b h H) (hF : mv_fr b H0 H locs) {t N : Nat} {f : Nat → Value} {i : Int32} {C : String} (ht : tys[t]? = some (.object C)) (hlk : mv_lk b h a = some (.inl (t, N, f))) (hin : ¬ (i < 0 ∨ N ≤ i.toNatClampNeg)) (hdg : decode cc pc = .ok (.aastore, 1))
    (kk : ∀ (H1 : Heap) (locs1 : List Loc), mv_rel cl g b (mv_up b h a (.inl (t, N, updV f i.toNatClampNeg .null))) H1 → mv_fr b H0 H1 locs1 → W p l e R s m args below meth c H1 locs1 cells slots Q (F0 m (pc + 1) ls rest)) : W p l e R s m args below meth c H locs cells slots Q (F0 m pc ls (.null :: .int i :: .ref a :: rest)) := by
  refine va_WaastN (C := C) hx hb (hR.at hlk) ((hK.2 _ _ ht).1 N f) (fun q => by cases q) (mh_in hin).1 rfl rfl hdg fun H1 e1 z1 o1 => ?_
  rw [arrV_store] at e1
  exact kk H1 _ (hR.put hlk e1 z1 o1) (hF.put o1 (mv_lk_of hlk).1)
theorem mh_aast (hx : p.tables.exec = Jvm.exec) (hb : c.code = cc) (hts : ∀ w ∈ G, w.before args s = true) (hK : mv_kn cl tys g s) (hR : mv_rel cl g b h H) (hF : mv_fr b H0 H locs) {t N ci v : Nat} {f V : Nat → Value} {i : Int32} {C : String} {r : mv_K} (ht : tys[t]? = some (.object C)) (hlk : mv_lk b h a = some (.inl (t, N, f))) (hlv : mv_lk b h v = some (.inr (ci, V))) (hr : cl[ci]? = some r)
    (hc : r.1 = C ∨ Cond.castable r.1 C ∈ G) (hin : ¬ (i < 0 ∨ N ≤ i.toNatClampNeg)) (hdg : decode cc pc = .ok (.aastore, 1))
    (kk : ∀ (H1 : Heap) (locs1 : List Loc), mv_rel cl g b (mv_up b h a (.inl (t, N, updV f i.toNatClampNeg (.ref v)))) H1 → mv_fr b H0 H1 locs1 → W p l e R s m args below meth c H1 locs1 cells slots Q (F0 m (pc + 1) ls rest)) : W p l e R s m args below meth c H locs cells slots Q (F0 m pc ls (.ref v :: .int i :: .ref a :: rest)) := by
  have hlt : i.toNatClampNeg < N := Nat.not_le.mp fun q => hin (Or.inr q)
  have h0 : ¬ i < 0 := fun q => hin (Or.inl q)
  obtain ⟨r', hr', cellV, g1, g2, g3, -⟩ := hR.at hlv
  have hcls := (hK.1 ci r hr).2
  obtain ⟨kA, comp, k1, k2, k3, -⟩ := (hK.2 _ _ ht).2
  obtain ⟨kC, hkC, -⟩ := hcls.2
  obtain ⟨kcomp, hkcomp, -⟩ := Vm.findClass_spec k3
  have hass : s.vm.assignable (g.1 ci) comp = true := by
    rcases hc with rfl | hw
    · have hcomp : comp = g.1 ci := Option.some.inj (k3.symm.trans hcls.1)
      rw [hcomp]
      exact va_assign hcls
    · obtain ⟨c3, t3, w1, w2, w3⟩ := Cond.castable_spec (hts _ hw)
      cases Option.some.inj (w1.symm.trans hcls.1)
      cases Option.some.inj (w2.symm.trans k3)
      exact w3
  refine W.aast hx hb (hR.at hlk) (fun q h => by cases h) (fun h => by cases h) k1 k2 rfl hkcomp ⟨h0, by show _ < (arrV _ _ _).slots.size; rw [arrV_size]; exact hlt⟩ g1 (fun q h => by rw [g3] at h; cases h) (by rw [g2]; exact hkC) (by rw [g2]; exact hass) rfl rfl hdg fun H1 e1 z1 o1 => ?_
  rw [arrV_store] at e1
  exact kk H1 _ (hR.put hlk e1 z1 o1) (hF.put o1 (mv_lk_of hlk).1)
end MVH
end
section
/-! one step that calls nothing and ends nothing -/
def mv_tI (ty : FieldType) : Bool := match ty with
  | .int => true
  | _ => false
def mv_tZ (ty : FieldType) : Bool := match ty with
  | .boolean => true
  | _ => false
def mv_tL (ty : FieldType) : Bool := match ty with
  | .long => true
  | _ => false
def mv_tA (ty : FieldType) : Bool := match ty with
  | .object _ => true
  | _ => false
def mv_tS (ty : FieldType) : Bool := match ty with
  | .byte => false
  | .short => false
  | .char => false
  | _ => true
def mv_kd (a : ArrayType) : Nat := match a with
  | .int => 0
  | .boolean => 1
  | .long => 2
  | _ => 1000
/-- an element of an array of ours -/
def mv_rd (b : Nat) (tys : List FieldType) (want : FieldType → Bool) (h : mv_H) (a : Nat) (i : Int32) : Option Value := match mv_lk b h a with
  | some (.inl y) => (match tys[y.1]? with
    | some ty => if want ty = true ∧ ¬ (i < 0 ∨ y.2.1 ≤ i.toNatClampNeg) then some (y.2.2 i.toNatClampNeg) else none
    | none => none)
  | _ => none
/-- the heap with an element put -/
def mv_wr (b : Nat) (tys : List FieldType) (want : FieldType → Bool) (h : mv_H) (a : Nat) (i : Int32) (v : Value) : Option mv_H := match mv_lk b h a with
  | some (.inl y) => (match tys[y.1]? with
    | some ty => if want ty = true ∧ ¬ (i < 0 ∨ y.2.1 ≤ i.toNatClampNeg) then some (mv_up b h a (.inl (y.1, y.2.1, updV y.2.2 i.toNatClampNeg v))) else none
    | none => none)
  | _ => none
def mv_at_ (nx : Nat) (L : mv_L) (r : List Value) (h : mv_H) (v : Option Value) : Option (mv_F × mv_H) := match v with
  | some v => some ((nx, L, v :: r), h)
  | none => none
def mv_to_ (nx : Nat) (L : mv_L) (r : List Value) (h : Option mv_H) : Option (mv_F × mv_H) := match h with
  | some h => some ((nx, L, r), h)
  | none => none
def mv_kof (b : Nat) (h : mv_H) (a : Nat) : Option Nat := match mv_lk b h a with
  | some (.inl y) => some y.1
  | _ => none
def mv_cof (b : Nat) (h : mv_H) (a : Nat) : Option Nat := match mv_lk b h a with
  | some (.inr y) => some y.1
  | _ => none
/-- what may stand in an array of the kind t -/
def mv_elt (asg : List (Nat × Nat)) (b : Nat) (h : mv_H) (t : Nat) (v : Value) : Bool := match v with
  | .null => true
  | .ref a => (match mv_cof b h a with
    | some ci => asg.contains (ci, t)
    | none => false)
  | _ => false
abbrev mv_gc : MethodName := ⟨"java/lang/Object", "getClass", "()Ljava/lang/Class;"⟩
def mv_step (E : mv_E) (cl : List mv_K) (tys : List FieldType) (asg : List (Nat × Nat)) (i : Instr) (nx : Nat) (L : mv_L) (S : List Value) (h : mv_H) : Option (mv_F × mv_H) := match i with
  | .getfield n => (match S with
    | .ref a :: r => (match mv_lk E.1 h a with
      | some (.inr y) => if y.1 = n / 64 then some ((nx, L, y.2 (n % 64) :: r), h) else none
      | _ => none)
    | _ => none)
  | .putfield n => (match S with
    | v :: .ref a :: r => (match mv_lk E.1 h a with
      | some (.inr y) => (match cl[n / 64]? with
        | some K => (match K.2.2.2.2[n % 64]? with
          | some ty => if y.1 = n / 64 ∧ fits ty v = true ∧ mv_tS ty = true then some ((nx, L, r), mv_up E.1 h a (.inr (n / 64, updV y.2 (n % 64) v))) else none
          | none => none)
        | none => none)
      | _ => none)
    | _ => none)
  | .new ci => (match cl[ci]? with
    | some K => some ((nx, L, .ref (E.1 + h.length) :: S), h ++ [.inr (ci, mv_def K)])
    | none => none)
  | .newarray at_ => (match S with
    | .int x :: r => if ¬ x < 0 ∧ x.toNatClampNeg ≤ 60000000 then some ((nx, L, .ref (E.1 + h.length) :: r), h ++ [.inl (mv_kd at_, x.toNatClampNeg, fun _ => defaultValue (newarray.typeOf at_))]) else none
    | _ => none)
  | .anewarray t => (match S with
    | .int x :: r => if ¬ x < 0 ∧ x.toNatClampNeg ≤ 60000000 then some ((nx, L, .ref (E.1 + h.length) :: r), h ++ [.inl (t, x.toNatClampNeg, fun _ => .null)]) else none
    | _ => none)
  | .arraylength => (match S with
    | .ref a :: r => (match mv_lk E.1 h a with
      | some (.inl y) => (match tys[y.1]? with
        | some _ => some ((nx, L, .int (Int32.ofNat y.2.1) :: r), h)
        | none => none)
      | some (.inr _) => none
      | none => if a = E.2.1 then some ((nx, L, .int (Int32.ofNat E.2.2.1) :: r), h) else if a = E.2.2.2.2.1 then some ((nx, L, .int 0 :: r), h) else none)
    | _ => none)
  | .iaload => (match S with
    | .int k :: .ref a :: r => (match mv_lk E.1 h a with
      | some _ => mv_at_ nx L r h (mv_rd E.1 tys mv_tI h a k)
      | none => if a = E.2.1 ∧ ¬ (k < 0 ∨ E.2.2.1 ≤ k.toNatClampNeg) then some ((nx, L, .int (E.2.2.2.1 k.toNatClampNeg) :: r), h) else none)
    | _ => none)
  | .baload => (match S with
    | .int k :: .ref a :: r => mv_at_ nx L r h (mv_rd E.1 tys mv_tZ h a k)
    | _ => none)
  | .laload => (match S with
    | .int k :: .ref a :: r => mv_at_ nx L r h (mv_rd E.1 tys mv_tL h a k)
    | _ => none)
  | .aaload => (match S with
    | .int k :: .ref a :: r => mv_at_ nx L r h (mv_rd E.1 tys mv_tA h a k)
    | _ => none)
  | .iastore => (match S with
    | .int x :: .int k :: .ref a :: r => mv_to_ nx L r (mv_wr E.1 tys mv_tI h a k (.int x))
    | _ => none)
  | .bastore => (match S with
    | .int x :: .int k :: .ref a :: r => mv_to_ nx L r (mv_wr E.1 tys mv_tZ h a k (narrow .boolean (.int x)))
    | _ => none)
  | .lastore => (match S with
    | .long x :: .int k :: .ref a :: r => mv_to_ nx L r (mv_wr E.1 tys mv_tL h a k (.long x))
    | _ => none)
  | .aastore => (match S with
    | .null :: .int k :: .ref a :: r => mv_to_ nx L r (mv_wr E.1 tys mv_tA h a k .null)
    | .ref v :: .int k :: .ref a :: r => (match mv_cof E.1 h v, mv_kof E.1 h a with
      | some ci, some t => if asg.contains (ci, t) = true then mv_to_ nx L r (mv_wr E.1 tys mv_tA h a k (.ref v)) else none
      | _, _ => none)
    | _ => none)
  | .checkcast ci => (match S with
    | .ref a :: r => if mv_cof E.1 h a = some ci then some ((nx, L, .ref a :: r), h) else none
    | _ => none)
  | .ldc_w n => some ((nx, L, .int (Int32.ofNat n) :: S), h)
  | .ldc2_w n => some ((nx, L, .long (Int64.ofNat n) :: S), h)
  | .monitorexit => (match S with
    | .ref _ :: r => if (r.map fun v => v.category).sum ≤ 24 then some ((nx, L, r), h) else none
    | _ => none)
  | .monitorenter => (match S with
    | .int n :: .int dp :: .ref d :: .int sp :: .ref a :: r => (match mv_lk E.1 h a, mv_lk E.1 h d with
      | some (.inl x), some (.inl y) => if ¬ sp < 0 ∧ ¬ dp < 0 ∧ ¬ n < 0 ∧ sp.toNatClampNeg + n.toNatClampNeg ≤ x.2.1 ∧ dp.toNatClampNeg + n.toNatClampNeg ≤ y.2.1 ∧ tys[x.1]? = some .int ∧ tys[y.1]? = some .int ∧ (∀ k, k < n.toNatClampNeg → mv_isI (x.2.2 (sp.toNatClampNeg + k)) = true) ∧ (r.map fun v => v.category).sum ≤ 24 then some ((nx, L, r), mv_up E.1 h d (.inl (y.1, y.2.1, va_cpy x.2.2 y.2.2 sp.toNatClampNeg dp.toNatClampNeg n.toNatClampNeg))) else none
      | _, _ => none)
    | _ => none)
  | .getstatic _ => some ((nx, L, .ref E.2.2.2.2.1 :: S), h)
  | .ldc _ => some ((nx, L, .ref E.2.2.2.2.2 :: S), h)
  | .d2i => (match S with
    | .ref a :: r => (match mv_kof E.1 h a with
      | some t => if tys[t]? = some (.object "java/lang/Object") ∧ (r.map fun v => v.category).sum ≤ 24 then some ((nx, L, .ref E.2.2.2.2.2 :: r), h) else none
      | none => none)
    | _ => none)
  | .d2l => (match S with
    | .int n :: .int dp :: .ref d :: .int sp :: .ref a :: r => (match mv_lk E.1 h a, mv_lk E.1 h d with
      | some (.inl x), some (.inl y) => if ¬ sp < 0 ∧ ¬ dp < 0 ∧ ¬ n < 0 ∧ sp.toNatClampNeg + n.toNatClampNeg ≤ x.2.1 ∧ dp.toNatClampNeg + n.toNatClampNeg ≤ y.2.1 ∧ tys[x.1]? = some (.object "java/lang/Object") ∧ tys[y.1]? = some (.object "java/lang/Object") ∧ (∀ k, k < n.toNatClampNeg → mv_elt asg E.1 h y.1 (x.2.2 (sp.toNatClampNeg + k)) = true) ∧ (r.map fun v => v.category).sum ≤ 24 then some ((nx, L, r), mv_up E.1 h d (.inl (y.1, y.2.1, va_cpy x.2.2 y.2.2 sp.toNatClampNeg dp.toNatClampNeg n.toNatClampNeg))) else none
      | _, _ => none)
    | _ => none)
  | i => (match mv_pure i nx L S with
    | some f => some (f, h)
    | none => none)
/-- what is told of the lists' empty array and of their arrays' class object -/
def mv_js (E : mv_E) (U : State) (H : Heap) : Prop := va_Z "java/util/ArrayList" "DEFAULTCAPACITY_EMPTY_ELEMENTDATA" "[Ljava/lang/Object;" (.ref E.2.2.2.2.1) (fun q => E.1 ≤ q) U H ∧ va_T (.object "java/lang/Object") E.2.2.2.2.1 0 (fun _ => .null) (fun q => E.1 ≤ q) U H ∧ va_Mi "[Ljava/lang/Object;" E.2.2.2.2.2 U
theorem mv_js.moved {E : mv_E} {u U : State} {H H1 : Heap} (hvm : u.vm.Alike U.vm) (hq : ∀ q : Nat, q < E.1 → H1[q]? = H[q]?) (h : mv_js E u H) : mv_js E U H1 :=
  ⟨(h.1.moved hvm).kept (fun a _ ha => hq a (Nat.not_le.mp ha)), (h.2.1.moved hvm).kept (fun a _ ha => hq a (Nat.not_le.mp ha)), h.2.2.moved hvm⟩
/-- what ties an instruction with our numbers to the one in the class file -/
def mv_lnk (cl : List mv_K) (tys : List FieldType) (G : List Cond) (y : MethodName) (pc len : Nat) (real i : Instr) : Prop := match i with
  | .getfield n => ∃ idx, real = .getfield idx ∧ len = 3 ∧ mv_fl cl G y.cls idx n
  | .putfield n => ∃ idx, real = .putfield idx ∧ len = 3 ∧ mv_fl cl G y.cls idx n ∧ ∀ r, cl[n / 64]? = some r → (r.2.1 (n % 64)).2.2.2 = true → y.name = "<init>" ∧ (r.2.1 (n % 64)).1 = y.cls
  | .new ci => ∃ idx r, real = .new idx ∧ len = 3 ∧ cl[ci]? = some r ∧ Cond.classLink y.cls idx r.1 ∈ G ∧ Cond.instantiable r.1 r.2.2.2.1 ∈ G ∧ Cond.initialized r.1 ∈ G
  | .newarray at_ => real = .newarray at_ ∧ len = 2 ∧ tys[mv_kd at_]? = some (newarray.typeOf at_) ∧ Cond.arrayClass (newarray.typeOf at_) ∈ G
  | .anewarray t => ∃ idx C, real = .anewarray idx ∧ len = 3 ∧ tys[t]? = some (.object C) ∧ Cond.classLink y.cls idx C ∈ G ∧ Cond.arrayOver (.object C) ∈ G
  | .arraylength => real = .arraylength ∧ len = 1
  | .iaload => real = .iaload ∧ len = 1
  | .baload => real = .baload ∧ len = 1
  | .laload => real = .laload ∧ len = 1
  | .aaload => real = .aaload ∧ len = 1
  | .iastore => real = .iastore ∧ len = 1
  | .bastore => real = .bastore ∧ len = 1
  | .lastore => real = .lastore ∧ len = 1
  | .aastore => real = .aastore ∧ len = 1
  | .checkcast ci => ∃ idx r, real = .checkcast idx ∧ len = 3 ∧ cl[ci]? = some r ∧ Cond.classLink y.cls idx r.1 ∈ G
  | .ldc_w n => (∃ idx, real = .ldc idx ∧ len = 2 ∧ Cond.constant y.cls idx (Int32.ofNat n) ∈ G) ∨ ∃ idx, real = .ldc_w idx ∧ len = 3 ∧ Cond.constant y.cls idx (Int32.ofNat n) ∈ G
  | .getstatic _ => ∃ idx, real = .getstatic idx ∧ len = 3 ∧ Cond.fieldLink y.cls idx "java/util/ArrayList" "DEFAULTCAPACITY_EMPTY_ELEMENTDATA" "[Ljava/lang/Object;" ∈ G
  | .ldc _ => ∃ idx, real = .ldc idx ∧ len = 2 ∧ Cond.classLink y.cls idx "[Ljava/lang/Object;" ∈ G
  | .d2i => ∃ idx, real = .invokevirtual idx ∧ len = 3 ∧ Cond.methodLink y.cls idx mv_gc ∈ G ∧ Cond.declares mv_gc ∈ G ∧ Cond.selects "[Ljava/lang/Object;" mv_gc mv_gc ∈ G ∧ Cond.instanceMethod mv_gc ∈ G ∧ Cond.native mv_gc ∈ G
  | .d2l => ∃ idx, real = .invokestatic idx ∧ len = 3 ∧ Cond.methodLink y.cls idx arraycopyName ∈ G ∧ Cond.native arraycopyName ∈ G ∧ Cond.static arraycopyName ∈ G ∧ Cond.initialized "java/lang/System" ∈ G
  | .ldc2_w n => ∃ idx, real = .ldc2_w idx ∧ len = 3 ∧ Cond.constantLong y.cls idx (Int64.ofNat n) ∈ G
  | .monitorexit => ∃ idx, real = .invokespecial idx ∧ len = 3 ∧ Cond.methodLink y.cls idx Lib.objectInit ∈ G ∧ Cond.instanceMethod Lib.objectInit ∈ G ∧ Cond.code Lib.objectInit ⟨#[0xb1]⟩ 1 none ∈ G
  | .monitorenter => ∃ idx, real = .invokestatic idx ∧ len = 3 ∧ Cond.methodLink y.cls idx arraycopyName ∈ G ∧ Cond.native arraycopyName ∈ G ∧ Cond.static arraycopyName ∈ G ∧ Cond.initialized "java/lang/System" ∈ G
  | i => i = mv_abs pc real ∧ mv_lok real len = true ∧ mv_nn i = true
theorem mv_rd_of {b : Nat} {tys : List FieldType} {want : FieldType → Bool} {h : mv_H} {a : Nat} {i : Int32} {v : Value} (hv : mv_rd b tys want h a i = some v) : ∃ t N f ty, mv_lk b h a = some (.inl (t, N, f)) ∧ tys[t]? = some ty ∧ want ty = true ∧ ¬ (i < 0 ∨ N ≤ i.toNatClampNeg) ∧ v = f i.toNatClampNeg := by
  unfold mv_rd at hv
  split at hv
  · next y hy =>
    split at hv
    · next ty ht =>
      split at hv
      · next hc => cases hv; exact ⟨y.1, y.2.1, y.2.2, ty, hy, ht, hc.1, hc.2, rfl⟩
      · cases hv
    · cases hv
  · cases hv
theorem mv_wr_of {b : Nat} {tys : List FieldType} {want : FieldType → Bool} {h h' : mv_H} {a : Nat} {i : Int32} {v : Value} (hv : mv_wr b tys want h a i v = some h') : ∃ t N f ty, mv_lk b h a = some (.inl (t, N, f)) ∧ tys[t]? = some ty ∧ want ty = true ∧ ¬ (i < 0 ∨ N ≤ i.toNatClampNeg) ∧ h' = mv_up b h a (.inl (t, N, updV f i.toNatClampNeg v)) := by
  unfold mv_wr at hv
  split at hv
  · next y hy =>
    split at hv
    · next ty ht =>
      split at hv
      · next hc => cases hv; exact ⟨y.1, y.2.1, y.2.2, ty, hy, ht, hc.1, hc.2, rfl⟩
      · cases hv
    · cases hv
  · cases hv
theorem mv_at_of {nx : Nat} {L : mv_L} {r : List Value} {h : mv_H} {v : Option Value} {z : mv_F × mv_H} (hz : mv_at_ nx L r h v = some z) : ∃ w, v = some w ∧ z = ((nx, L, w :: r), h) := by
  cases v with
  | none => cases hz
  | some w => cases hz; exact ⟨w, rfl, rfl⟩
theorem mv_to_of {nx : Nat} {L : mv_L} {r : List Value} {h : Option mv_H} {z : mv_F × mv_H} (hz : mv_to_ nx L r h = some z) : ∃ w, h = some w ∧ z = ((nx, L, r), w) := by
  cases h with
  | none => cases hz
  | some w => cases hz; exact ⟨w, rfl, rfl⟩
theorem mv_tI_of {ty : FieldType} (h : mv_tI ty = true) : ty = .int := by cases ty <;> first | rfl | cases h
theorem mv_tZ_of {ty : FieldType} (h : mv_tZ ty = true) : ty = .boolean := by cases ty <;> first | rfl | cases h
theorem mv_tL_of {ty : FieldType} (h : mv_tL ty = true) : ty = .long := by cases ty <;> first | rfl | cases h
theorem mv_tA_of {ty : FieldType} (h : mv_tA ty = true) : ∃ C, ty = .object C := by
  cases ty with
  | object C => exact ⟨C, rfl⟩
  | _ => cases h
theorem mv_tS_of {ty : FieldType} (h : mv_tS ty = true) : ty ≠ .byte ∧ ty ≠ .short ∧ ty ≠ .char := by
  refine ⟨?_, ?_, ?_⟩ <;> (rintro rfl; cases h)
end
section
/-! a step of the small machine stands for one of the machine -/
section MVW
variable {p : Program} {l : Launch} {e : Env} {R : Room} {s : State} {m : MethodId} {args : Array Value} {below : List Frame} {meth : Method} {c : Code} {H H0 : Heap} {locs : List Loc} {cells slots : Nat} {Q : State → Prop}
variable {cc : ByteArray} {pc : Nat} {ls : Array Slot} {rest : List Value} {G : List Cond} {cl : List mv_K} {tys : List FieldType} {asg : List (Nat × Nat)} {g : mv_G} {b a : Nat} {h : mv_H} {own : String}
theorem mh_sld (hx : p.tables.exec = Jvm.exec) (hb : c.code = cc) {sb Ln : Nat} {xs : Nat → Int32} (hX : va_X sb Ln xs s H0) (hsb : sb < b) (hF : mv_fr b H0 H locs) {i : Int32} (hin : ¬ (i < 0 ∨ Ln ≤ i.toNatClampNeg)) (hdg : decode cc pc = .ok (.iaload, 1))
    (kk : W p l e R s m args below meth c H locs cells slots Q (F0 m (pc + 1) ls (.int (xs i.toNatClampNeg) :: rest))) : W p l e R s m args below meth c H locs cells slots Q (F0 m pc ls (.int i :: .ref sb :: rest)) := by
  obtain ⟨scr, h1, h2, h3, h4, h5⟩ := hX
  exact W.iald (v := .int (xs i.toNatClampNeg)) hx hb (by rw [hF.1 sb hsb]; exact h1) h2 h3 (by rw [h4]; exact hin) (h5 _ (Nat.not_le.mp fun q => hin (Or.inr q))) rfl rfl hdg kk
theorem mh_slen (hx : p.tables.exec = Jvm.exec) (hb : c.code = cc) {sb Ln : Nat} {xs : Nat → Int32} (hX : va_X sb Ln xs s H0) (hsb : sb < b) (hF : mv_fr b H0 H locs) (hdg : decode cc pc = .ok (.arraylength, 1))
    (kk : W p l e R s m args below meth c H locs cells slots Q (F0 m (pc + 1) ls (.int (Int32.ofNat Ln) :: rest))) : W p l e R s m args below meth c H locs cells slots Q (F0 m pc ls (.ref sb :: rest)) := by
  obtain ⟨scr, h1, h2, h3, h4, h5⟩ := hX
  exact W.alen (n := Int32.ofNat Ln) hx hb (by rw [hF.1 sb hsb]; exact h1) h2 (by rw [h4]) rfl rfl hdg kk
theorem mh_cast (hx : p.tables.exec = Jvm.exec) (hb : c.code = cc) (hts : ∀ w ∈ G, w.before args s = true) (hown : s.vm.findClass own = some m.cls) (hK : mv_kn cl tys g s) (hR : mv_rel cl g b h H) {idx ci : Nat} {r : mv_K} {V : Nat → Value} (hr : cl[ci]? = some r) (w1 : Cond.classLink own idx r.1 ∈ G) (hlk : mv_lk b h a = some (.inr (ci, V))) (hdg : decode cc pc = .ok (.checkcast idx, 3))
    (kk : W p l e R s m args below meth c H locs cells slots Q (F0 m (pc + 3) ls (.ref a :: rest))) : W p l e R s m args below meth c H locs cells slots Q (F0 m pc ls (.ref a :: rest)) := by
  obtain ⟨r', hr', cell, q1, q2, q3, q4⟩ := hR.at hlk
  have hKn := (hK.1 _ _ hr).2
  exact va_castS hx hb hown (hts _ w1) hKn ⟨cell, q1, by rw [q3]; rfl, by rw [q2]; exact hKn.1⟩ hdg kk
theorem mh_copy (hx : p.tables.exec = Jvm.exec) (hb : c.code = cc) (hml : c.maxLocals = ls.size) (hts : ∀ w ∈ G, w.before args s = true) (hown : s.vm.findClass own = some m.cls) (hK : mv_kn cl tys g s) (hR : mv_rel cl g b h H) (hF : mv_fr b H0 H locs) {idx : Nat}
    (w1 : Cond.methodLink own idx arraycopyName ∈ G) (w2 : Cond.native arraycopyName ∈ G) (w3 : Cond.static arraycopyName ∈ G) (w4 : Cond.initialized "java/lang/System" ∈ G)
    {d t0 t1 n0 n1 : Nat} {f k : Nat → Value} (hl0 : mv_lk b h a = some (.inl (t0, n0, f))) (hl1 : mv_lk b h d = some (.inl (t1, n1, k))) (ht0 : tys[t0]? = some .int) (ht1 : tys[t1]? = some .int)
    {sp dp n : Int32} (h1 : ¬ sp < 0) (h2 : ¬ dp < 0) (h3 : ¬ n < 0) (h4 : sp.toNatClampNeg + n.toNatClampNeg ≤ n0) (h5 : dp.toNatClampNeg + n.toNatClampNeg ≤ n1) (hfit : ∀ i, i < n.toNatClampNeg → mv_isI (f (sp.toNatClampNeg + i)) = true)
    (hframes : 1 ≤ R.frames) (hlocals : (rest.map fun v => v.category).sum + (nativeFrameWords "java/lang/System" "arraycopy" 5 + 11) ≤ R.locals) (hdg : decode cc pc = .ok (.invokestatic idx, 3))
    (kk : ∀ (H1 : Heap) (locs1 : List Loc), mv_rel cl g b (mv_up b h d (.inl (t1, n1, va_cpy f k sp.toNatClampNeg dp.toNatClampNeg n.toNatClampNeg))) H1 → mv_fr b H0 H1 locs1 → W p l e R s m args below meth c H1 locs1 cells slots Q (F0 m (pc + 3) ls rest)) : W p l e R s m args below meth c H locs cells slots Q (F0 m pc ls (.int n :: .int dp :: .ref d :: .int sp :: .ref a :: rest)) := by
  have nn : ∀ z : Int32, ¬ z < 0 → z.toInt = (z.toNatClampNeg : Int) := by
    intro z hz
    have hz0 : (0 : Int) ≤ z.toInt := by
      have := Int32.not_lt.mp hz
      simpa using Int32.le_iff_toInt_le.mp this
    show z.toInt = ((z.toInt.toNat : Nat) : Int)
    omega
  intro T hT X
  have hc0 : H[a]? = some (arrV (g.2.2 t0) n0 f) := hR.at hl0
  have hc1 : H[d]? = some (arrV (g.2.2 t1) n1 k) := hR.at hl1
  obtain ⟨-, k0, hk0, cm0, hkk0⟩ := (hK.2 _ _ ht0).1 n0 f
  obtain ⟨-, k1, hk1, cm1, hkk1⟩ := (hK.2 _ _ ht1).1 n1 k
  obtain ⟨vm', X', step⟩ := X.arraycopy hx hown (hts _ w1) (hts _ w2) (hts _ w3) (hts _ w4) (src := a) (dst := d) (cs := arrV (g.2.2 t0) n0 f) (cd := arrV (g.2.2 t1) n1 k) (srcPos := sp) (destPos := dp) (n := n) (by rw [hT]; exact hc0) (by rw [hT]; exact hc1)
    (fun _ h => by cases h) (fun _ h => by cases h) (fun h => by cases h) (fun h => by cases h) hk0 hk1 hkk0 hkk1 (by decide) h1 h2 h3
    (by rw [nn sp h1, nn n h3, arrV_size]; omega)
    (by rw [nn dp h2, nn n h3, arrV_size]; omega)
    (fun vm₁ _ i hi => by
      have e0 : (arrV (g.2.2 t0) n0 f).slots.getD (sp.toNatClampNeg + i) .null = f (sp.toNatClampNeg + i) := by
        rw [Array.getD_eq_getD_getElem?, arrV_read _ _ (by omega)]
        rfl
      obtain ⟨z, hz⟩ := mv_isI_of (hfit i hi)
      refine ⟨?_, ?_⟩
      · rw [e0, hz]; rfl
      · rw [e0, hz]; exact trivial)
    (g := F0 m pc ls (.int n :: .int dp :: .ref d :: .int sp :: .ref a :: rest)) rfl (by rw [hml]) (rest := rest) rfl (by rw [hb]; exact hdg) hframes (by show 2 * 0 + _ + _ ≤ _; omega)
  have e1 : copied (arrV (g.2.2 t0) n0 f) (arrV (g.2.2 t1) n1 k) sp dp n = arrV (g.2.2 t1) n1 (va_cpy f k sp.toNatClampNeg dp.toNatClampNeg n.toNatClampNeg) := va_copied (fun z => z) (g.2.2 t0) (g.2.2 t1) f k h4
  rw [e1] at X' step
  have hl : d < T.heap.size := by rw [hT]; exact (Array.getElem?_eq_some_iff.mp hc1).1
  have hdb : b ≤ d := (mv_lk_of hl1).1
  obtain ⟨t, a1, b1⟩ := kk _ _ (hR.put hl1 (heapAt_setCell_self (s := T.setVm vm') (arrV (g.2.2 t1) n1 (va_cpy f k sp.toNatClampNeg dp.toNatClampNeg n.toNatClampNeg)) hl) (by rw [size_setCell]; show T.heap.size = _; rw [hT]) (fun q hq => by rw [heapAt_setCell_ne _ (Ne.symm hq)]; show T.heap[q]? = _; rw [hT]))
    ⟨fun q hq => by rw [heapAt_setCell_ne _ (show d ≠ q by omega)]; show T.heap[q]? = _; rw [hT]; exact hF.1 q hq, fun q hq => by
      rcases List.mem_append.mp hq with h9 | h9
      · exact hF.2 q h9
      · obtain ⟨z, -, hz⟩ := List.mem_map.mp h9
        rw [← hz]
        exact hdb⟩ _ rfl X'
  exact ⟨t, step t a1, b1⟩
theorem mh_copyR (hx : p.tables.exec = Jvm.exec) (hb : c.code = cc) (hml : c.maxLocals = ls.size) (hts : ∀ w ∈ G, w.before args s = true) (hown : s.vm.findClass own = some m.cls) (hK : mv_kn cl tys g s) (hR : mv_rel cl g b h H) (hF : mv_fr b H0 H locs) {idx : Nat}
    (w1 : Cond.methodLink own idx arraycopyName ∈ G) (w2 : Cond.native arraycopyName ∈ G) (w3 : Cond.static arraycopyName ∈ G) (w4 : Cond.initialized "java/lang/System" ∈ G)
    {d t0 t1 n0 n1 : Nat} {f k : Nat → Value} (hl0 : mv_lk b h a = some (.inl (t0, n0, f))) (hl1 : mv_lk b h d = some (.inl (t1, n1, k))) {C0 C : String} (ht0 : tys[t0]? = some (.object C0)) (ht1 : tys[t1]? = some (.object C))
    {sp dp n : Int32} (h1 : ¬ sp < 0) (h2 : ¬ dp < 0) (h3 : ¬ n < 0) (h4 : sp.toNatClampNeg + n.toNatClampNeg ≤ n0) (h5 : dp.toNatClampNeg + n.toNatClampNeg ≤ n1) (hfit : ∀ i, i < n.toNatClampNeg → f (sp.toNatClampNeg + i) = .null ∨ ∃ (y ci : Nat) (V : Nat → Value) (r : mv_K), f (sp.toNatClampNeg + i) = .ref y ∧ mv_lk b h y = some (.inr (ci, V)) ∧ cl[ci]? = some r ∧ (r.1 = C ∨ Cond.castable r.1 C ∈ G))
    (hframes : 1 ≤ R.frames) (hlocals : (rest.map fun v => v.category).sum + (nativeFrameWords "java/lang/System" "arraycopy" 5 + 11) ≤ R.locals) (hdg : decode cc pc = .ok (.invokestatic idx, 3))
    (kk : ∀ (H1 : Heap) (locs1 : List Loc), mv_rel cl g b (mv_up b h d (.inl (t1, n1, va_cpy f k sp.toNatClampNeg dp.toNatClampNeg n.toNatClampNeg))) H1 → mv_fr b H0 H1 locs1 → W p l e R s m args below meth c H1 locs1 cells slots Q (F0 m (pc + 3) ls rest)) : W p l e R s m args below meth c H locs cells slots Q (F0 m pc ls (.int n :: .int dp :: .ref d :: .int sp :: .ref a :: rest)) := by
  have nn : ∀ z : Int32, ¬ z < 0 → z.toInt = (z.toNatClampNeg : Int) := by
    intro z hz
    have hz0 : (0 : Int) ≤ z.toInt := by
      have := Int32.not_lt.mp hz
      simpa using Int32.le_iff_toInt_le.mp this
    show z.toInt = ((z.toInt.toNat : Nat) : Int)
    omega
  intro T hT X
  have hc0 : H[a]? = some (arrV (g.2.2 t0) n0 f) := hR.at hl0
  have hc1 : H[d]? = some (arrV (g.2.2 t1) n1 k) := hR.at hl1
  obtain ⟨-, k0, hk0, cm0, hkk0⟩ := (hK.2 _ _ ht0).1 n0 f
  obtain ⟨-, k1, hk1, cm1, hkk1⟩ := (hK.2 _ _ ht1).1 n1 k
  obtain ⟨vm', X', step⟩ := X.arraycopy hx hown (hts _ w1) (hts _ w2) (hts _ w3) (hts _ w4) (src := a) (dst := d) (cs := arrV (g.2.2 t0) n0 f) (cd := arrV (g.2.2 t1) n1 k) (srcPos := sp) (destPos := dp) (n := n) (by rw [hT]; exact hc0) (by rw [hT]; exact hc1)
    (fun _ h => by cases h) (fun _ h => by cases h) (fun h => by cases h) (fun h => by cases h) hk0 hk1 hkk0 hkk1 rfl h1 h2 h3
    (by rw [nn sp h1, nn n h3, arrV_size]; omega)
    (by rw [nn dp h2, nn n h3, arrV_size]; omega)
    (fun vm₁ hal i hi => by
      have e0 : (arrV (g.2.2 t0) n0 f).slots.getD (sp.toNatClampNeg + i) .null = f (sp.toNatClampNeg + i) := by
        rw [Array.getD_eq_getD_getElem?, arrV_read _ _ (by omega)]
        rfl
      rw [e0]
      rcases hfit i hi with hz | ⟨y, ci, V, r, hz, hly, hr, hc⟩
      · rw [hz]; exact ⟨rfl, trivial⟩
      · rw [hz]
        obtain ⟨r', hr', cellV, g1, g2, g3, -⟩ := hR.at hly
        have hcls := (hK.1 ci r hr).2
        obtain ⟨kA, comp, r1, r2, r3, -⟩ := (hK.2 _ _ ht1).2
        cases hk1.symm.trans r1
        cases hkk1.symm.trans r2
        obtain ⟨kC, hkC, -⟩ := hcls.2
        obtain ⟨kE, hkE, -⟩ := Vm.findClass_spec r3
        obtain ⟨kC', hkC', -⟩ := hal.2.2 _ _ hkC
        obtain ⟨kE', hkE', -⟩ := hal.2.2 _ _ hkE
        have hass : s.vm.assignable (g.1 ci) cm1 = true := by
          rcases hc with rfl | hw
          · have hcomp : cm1 = g.1 ci := Option.some.inj (r3.symm.trans hcls.1)
            rw [hcomp]
            exact va_assign hcls
          · obtain ⟨c3, t3, w1, w2, w3⟩ := Cond.castable_spec (hts _ hw)
            cases Option.some.inj (w1.symm.trans hcls.1)
            cases Option.some.inj (w2.symm.trans r3)
            exact w3
        refine ⟨rfl, cellV, (show T.heap[y]? = some cellV by rw [hT]; exact g1), (fun q h => by rw [g3] at h; cases h), ⟨kC', by rw [g2]; exact hkC'⟩, ⟨kE', hkE'⟩, ?_⟩
        show vm₁.assignable _ _ = true
        rw [hal.assignable, g2]
        exact hass)
    (g := F0 m pc ls (.int n :: .int dp :: .ref d :: .int sp :: .ref a :: rest)) rfl (by rw [hml]) (rest := rest) rfl (by rw [hb]; exact hdg) hframes (by show 2 * 0 + _ + _ ≤ _; omega)
  have e1 : copied (arrV (g.2.2 t0) n0 f) (arrV (g.2.2 t1) n1 k) sp dp n = arrV (g.2.2 t1) n1 (va_cpy f k sp.toNatClampNeg dp.toNatClampNeg n.toNatClampNeg) := va_copied (fun z => z) (g.2.2 t0) (g.2.2 t1) f k h4
  rw [e1] at X' step
  have hl : d < T.heap.size := by rw [hT]; exact (Array.getElem?_eq_some_iff.mp hc1).1
  have hdb : b ≤ d := (mv_lk_of hl1).1
  obtain ⟨t, a1, b1⟩ := kk _ _ (hR.put hl1 (heapAt_setCell_self (s := T.setVm vm') (arrV (g.2.2 t1) n1 (va_cpy f k sp.toNatClampNeg dp.toNatClampNeg n.toNatClampNeg)) hl) (by rw [size_setCell]; show T.heap.size = _; rw [hT]) (fun q hq => by rw [heapAt_setCell_ne _ (Ne.symm hq)]; show T.heap[q]? = _; rw [hT]))
    ⟨fun q hq => by rw [heapAt_setCell_ne _ (show d ≠ q by omega)]; show T.heap[q]? = _; rw [hT]; exact hF.1 q hq, fun q hq => by
      rcases List.mem_append.mp hq with h9 | h9
      · exact hF.2 q h9
      · obtain ⟨z, -, hz⟩ := List.mem_map.mp h9
        rw [← hz]
        exact hdb⟩ _ rfl X'
  exact ⟨t, step t a1, b1⟩
theorem mh_gets (hx : p.tables.exec = Jvm.exec) (hb : c.code = cc) (hts : ∀ w ∈ G, w.before args s = true) (hown : s.vm.findClass own = some m.cls) {E : mv_E} (hJ : mv_js E s H0) (hF : mv_fr E.1 H0 H locs) {idx : Nat} (w1 : Cond.fieldLink own idx "java/util/ArrayList" "DEFAULTCAPACITY_EMPTY_ELEMENTDATA" "[Ljava/lang/Object;" ∈ G) (hdg : decode cc pc = .ok (.getstatic idx, 3))
    (kk : W p l e R s m args below meth c H locs cells slots Q (F0 m (pc + 3) ls (.ref E.2.2.2.2.1 :: rest))) : W p l e R s m args below meth c H locs cells slots Q (F0 m pc ls rest) := by
  obtain ⟨⟨cf, kf, fi, f, a, cell, h1, h2, h3, h4, h5, h6, h7, h8⟩, -, -⟩ := hJ
  exact W.gets hx hb hown (hts _ w1) h1 h2 h3 h4 (by rw [hF.1 a (Nat.not_le.mp h8)]; exact h5) (fun e => by rw [e] at h6; cases h6) h7 rfl hdg kk
theorem mh_elen (hx : p.tables.exec = Jvm.exec) (hb : c.code = cc) {E : mv_E} (hJ : mv_js E s H0) (hF : mv_fr E.1 H0 H locs) (hdg : decode cc pc = .ok (.arraylength, 1))
    (kk : W p l e R s m args below meth c H locs cells slots Q (F0 m (pc + 1) ls (.int 0 :: rest))) : W p l e R s m args below meth c H locs cells slots Q (F0 m pc ls (.ref E.2.2.2.2.1 :: rest)) := by
  obtain ⟨-, ⟨cell, h1, h2, h3, h4, h5, h6, h7⟩, -⟩ := hJ
  exact W.alen (n := 0) hx hb (by rw [hF.1 _ (Nat.not_le.mp h7)]; exact h1) h2 h5 rfl rfl hdg kk
end MVW
end
section
section MVX
variable {p : Program} {l : Launch} {e : Env} {R : Room} {s : State} {m : MethodId} {args : Array Value} {below : List Frame} {meth : Method} {c : Code} {H H0 : Heap} {locs : List Loc} {Q : State → Prop}
variable {cc : ByteArray} {pc n : Nat} {ls : Array Slot} {G : List Cond} {cl : List mv_K} {tys : List FieldType} {asg : List (Nat × Nat)} {g : mv_G} {E : mv_E} {h h' : mv_H} {L : mv_L} {S : List Value} {y : MethodName}
/-- what is told of the tables' constants -/
def mv_cok (cl : List mv_K) (tys : List FieldType) (asg : List (Nat × Nat)) (G : List Cond) : Prop := (∀ (ci : Nat) (r : mv_K), cl[ci]? = some r → mv_clok G r) ∧ ∀ ci t, (ci, t) ∈ asg → ∃ r C, cl[ci]? = some r ∧ tys[t]? = some (.object C) ∧ (r.1 = C ∨ Cond.castable r.1 C ∈ G)
theorem mv_cof_of {b : Nat} {h : mv_H} {a ci : Nat} (hc : mv_cof b h a = some ci) : ∃ V, mv_lk b h a = some (.inr (ci, V)) := by
  unfold mv_cof at hc
  split at hc
  · next y hy => cases hc; exact ⟨y.2, hy⟩
  · cases hc
theorem mv_kof_of {b : Nat} {h : mv_H} {a t : Nat} (hc : mv_kof b h a = some t) : ∃ N f, mv_lk b h a = some (.inl (t, N, f)) := by
  unfold mv_kof at hc
  split at hc
  · next y hy => cases hc; exact ⟨y.2.1, y.2.2, hy⟩
  · cases hc
set_option maxHeartbeats 8000000 in
theorem mv_step_w (hx : p.tables.exec = Jvm.exec) (hb : c.code = cc) (hml : c.maxLocals = n) (hts : ∀ w ∈ G, w.before args s = true) (hcok : mv_cok cl tys asg G) (hown : s.vm.findClass y.cls = some m.cls) (hin : meth.name = y.name) (hK : mv_kn cl tys g s) (hX : va_X E.2.1 E.2.2.1 E.2.2.2.1 s H0) (hJ : mv_js E s H0) (hsb : E.2.1 < E.1)
    (hfr : 1 ≤ R.frames) (hlo : 56 ≤ R.locals)
    {real i : Instr} {len : Nat} (hd : decode cc pc = .ok (real, len)) (hlk : mv_lnk cl tys G y pc len real i) {f : mv_F} (hst : mv_step E cl tys asg i (pc + len) L S h = some (f, h')) (hl : mv_lrel ls n L)
    {n0 z0 : Nat} (hn0 : n0 ≤ h.length) (hz0 : z0 ≤ mv_sz cl h) (hr1 : h'.length - n0 ≤ R.cells) (hr2 : mv_sz cl h' - z0 ≤ R.slots) (hR : mv_rel cl g E.1 h H) (hF : mv_fr E.1 H0 H locs)
    (k : ∀ (H1 : Heap) (locs1 : List Loc) (ls' : Array Slot), mv_rel cl g E.1 h' H1 → mv_fr E.1 H0 H1 locs1 → mv_lrel ls' n f.2.1 → W p l e R s m args below meth c H1 locs1 (h'.length - n0) (mv_sz cl h' - z0) Q (F0 m f.1 ls' f.2.2)) : W p l e R s m args below meth c H locs (h.length - n0) (mv_sz cl h - z0) Q (F0 m pc ls S) := by
  have hcl := hcok.1
  have pure_case : ∀ {i : Instr}, i = mv_abs pc real → mv_lok real len = true → mv_nn i = true → (match mv_pure i (pc + len) L S with | some f => some (f, h) | none => none) = some (f, h') → W p l e R s m args below meth c H locs (h.length - n0) (mv_sz cl h - z0) Q (F0 m pc ls S) := by
    intro i e1 e2 e3 e4
    subst e1
    split at e4
    · next f2 hf2 =>
      cases e4
      exact mv_pure_w hx hb hd e2 e3 hf2 hl (fun ls' hl' => k H locs ls' hR hF hl')
    · cases e4
  cases i with
  | getfield w =>
    obtain ⟨idx, rfl, rfl, hf⟩ := hlk
    simp only [mv_step] at hst
    split at hst
    · next a r =>
      split at hst
      · next y2 hy2 =>
        split at hst
        · next hc =>
          cases hst
          obtain ⟨ci, V⟩ := y2
          obtain rfl : ci = w / 64 := hc
          exact mh_get hx hb hts hcl hown hK hR hf hy2 hd (k H locs ls hR hF hl)
        · cases hst
      · cases hst
    · cases hst
  | putfield w =>
    obtain ⟨idx, rfl, rfl, hf, hfin⟩ := hlk
    simp only [mv_step] at hst
    split at hst
    · next v a r =>
      split at hst
      · next y2 hy2 =>
        split at hst
        · next K hKc =>
          split at hst
          · next ty hty =>
            split at hst
            · next hc =>
              cases hst
              obtain ⟨ci, V⟩ := y2
              obtain ⟨rfl, h2, h3⟩ : ci = w / 64 ∧ fits ty v = true ∧ mv_tS ty = true := hc
              refine mh_put hx hb hts hcl hown hK hR hF hf hKc hty h2 (mv_tS_of h3) (fun q => ?_) hy2 hd (fun H1 locs1 hR1 hF1 => ?_)
              · obtain ⟨q1, q2⟩ := hfin K hKc q
                exact ⟨hin.trans q1, q2⟩
              · have k2 := k H1 locs1 ls hR1 hF1 hl
                rw [mv_up_len, mv_up_szO cl hy2] at k2
                exact k2
            · cases hst
          · cases hst
        · cases hst
      · cases hst
    · cases hst
  | new ci =>
    obtain ⟨idx, r, rfl, rfl, hr, w1, w2, w3⟩ := hlk
    simp only [mv_step, hr] at hst
    cases hst
    have e1 : mv_cz cl (Sum.inr (ci, mv_def r) : mv_C) = r.2.2.2.1 := by simp only [mv_cz, hr]
    rw [List.length_append, List.length_singleton] at hr1
    rw [mv_sz_app, e1] at hr2
    refine mh_new hx hb hts hcl hown hK hR hF hr w1 w2 w3 (by omega) (by omega) hd (fun H1 hR1 hF1 => ?_)
    have k2 := k H1 locs ls hR1 hF1 hl
    rw [List.length_append, List.length_singleton, mv_sz_app, e1] at k2
    rw [show h.length - n0 + 1 = h.length + 1 - n0 by omega, show mv_sz cl h - z0 + r.2.2.2.1 = mv_sz cl h + r.2.2.2.1 - z0 by omega]
    exact k2
  | newarray at_ =>
    obtain ⟨rfl, rfl, ht, w1⟩ := hlk
    simp only [mv_step] at hst
    split at hst
    · next x r =>
      split at hst
      · next hc =>
        cases hst
        rw [List.length_append, List.length_singleton] at hr1
        rw [mv_sz_app] at hr2
        simp only [mv_cz] at hr2
        refine mh_newa hx hb hts hK hR hF ht w1 hc.1 hc.2 (by omega) (by omega) hd (fun H1 hR1 hF1 => ?_)
        have k2 := k H1 locs ls hR1 hF1 hl
        rw [List.length_append, List.length_singleton, mv_sz_app] at k2
        simp only [mv_cz] at k2
        rw [show h.length - n0 + 1 = h.length + 1 - n0 by omega, show mv_sz cl h - z0 + x.toNatClampNeg = mv_sz cl h + x.toNatClampNeg - z0 by omega]
        exact k2
      · cases hst
    · cases hst
  | anewarray t =>
    obtain ⟨idx, C, rfl, rfl, ht, w1, w2⟩ := hlk
    simp only [mv_step] at hst
    split at hst
    · next x r =>
      split at hst
      · next hc =>
        cases hst
        rw [List.length_append, List.length_singleton] at hr1
        rw [mv_sz_app] at hr2
        simp only [mv_cz] at hr2
        refine mh_newq hx hb hts hown hK hR hF ht w1 w2 hc.1 hc.2 (by omega) (by omega) hd (fun H1 hR1 hF1 => ?_)
        have k2 := k H1 locs ls hR1 hF1 hl
        rw [List.length_append, List.length_singleton, mv_sz_app] at k2
        simp only [mv_cz] at k2
        rw [show h.length - n0 + 1 = h.length + 1 - n0 by omega, show mv_sz cl h - z0 + x.toNatClampNeg = mv_sz cl h + x.toNatClampNeg - z0 by omega]
        exact k2
      · cases hst
    · cases hst
  | arraylength =>
    obtain ⟨rfl, rfl⟩ := hlk
    simp only [mv_step] at hst
    split at hst
    · next a r =>
      split at hst
      · next y2 hy2 =>
        split at hst
        · next ty hty =>
          cases hst
          exact mh_alen hx hb hK hR hty hy2 hd (k H locs ls hR hF hl)
        · cases hst
      · cases hst
      · split at hst
        · next hc =>
          cases hst
          subst hc
          exact mh_slen hx hb hX hsb hF hd (k H locs ls hR hF hl)
        · split at hst
          · next hc =>
            cases hst
            subst hc
            exact mh_elen hx hb hJ hF hd (k H locs ls hR hF hl)
          · cases hst
    · cases hst
  | iaload =>
    obtain ⟨rfl, rfl⟩ := hlk
    simp only [mv_step] at hst
    split at hst
    · next j a r =>
      split at hst
      · obtain ⟨w, hw, hz⟩ := mv_at_of hst
        cases hz
        obtain ⟨t, N, f2, ty, e1, e2, e3, e4, rfl⟩ := mv_rd_of hw
        obtain rfl := mv_tI_of e3
        exact mh_iald hx hb hK hR e2 e1 e4 hd (k H locs ls hR hF hl)
      · split at hst
        · next hc =>
          cases hst
          obtain ⟨rfl, hc2⟩ := hc
          exact mh_sld hx hb hX hsb hF hc2 hd (k H locs ls hR hF hl)
        · cases hst
    · cases hst
  | baload =>
    obtain ⟨rfl, rfl⟩ := hlk
    simp only [mv_step] at hst
    split at hst
    · next j a r =>
      obtain ⟨w, hw, hz⟩ := mv_at_of hst
      cases hz
      obtain ⟨t, N, f2, ty, e1, e2, e3, e4, rfl⟩ := mv_rd_of hw
      obtain rfl := mv_tZ_of e3
      exact mh_zald hx hb hK hR e2 e1 e4 hd (k H locs ls hR hF hl)
    · cases hst
  | laload =>
    obtain ⟨rfl, rfl⟩ := hlk
    simp only [mv_step] at hst
    split at hst
    · next j a r =>
      obtain ⟨w, hw, hz⟩ := mv_at_of hst
      cases hz
      obtain ⟨t, N, f2, ty, e1, e2, e3, e4, rfl⟩ := mv_rd_of hw
      obtain rfl := mv_tL_of e3
      exact mh_lald hx hb hK hR e2 e1 e4 hd (k H locs ls hR hF hl)
    · cases hst
  | aaload =>
    obtain ⟨rfl, rfl⟩ := hlk
    simp only [mv_step] at hst
    split at hst
    · next j a r =>
      obtain ⟨w, hw, hz⟩ := mv_at_of hst
      cases hz
      obtain ⟨t, N, f2, ty, e1, e2, e3, e4, rfl⟩ := mv_rd_of hw
      obtain ⟨C, rfl⟩ := mv_tA_of e3
      exact mh_aald hx hb hK hR e2 e1 e4 hd (k H locs ls hR hF hl)
    · cases hst
  | iastore =>
    obtain ⟨rfl, rfl⟩ := hlk
    simp only [mv_step] at hst
    split at hst
    · next x j a r =>
      obtain ⟨w, hw, hz⟩ := mv_to_of hst
      cases hz
      obtain ⟨t, N, f2, ty, e1, e2, e3, e4, rfl⟩ := mv_wr_of hw
      obtain rfl := mv_tI_of e3
      refine mh_iast hx hb hK hR hF e2 e1 e4 hd (fun H1 locs1 hR1 hF1 => ?_)
      have k2 := k H1 locs1 ls hR1 hF1 hl
      rw [mv_up_len, mv_up_szA cl e1] at k2
      exact k2
    · cases hst
  | bastore =>
    obtain ⟨rfl, rfl⟩ := hlk
    simp only [mv_step] at hst
    split at hst
    · next x j a r =>
      obtain ⟨w, hw, hz⟩ := mv_to_of hst
      cases hz
      obtain ⟨t, N, f2, ty, e1, e2, e3, e4, rfl⟩ := mv_wr_of hw
      obtain rfl := mv_tZ_of e3
      refine mh_zast hx hb hK hR hF e2 e1 e4 hd (fun H1 locs1 hR1 hF1 => ?_)
      have k2 := k H1 locs1 ls hR1 hF1 hl
      rw [mv_up_len, mv_up_szA cl e1] at k2
      exact k2
    · cases hst
  | lastore =>
    obtain ⟨rfl, rfl⟩ := hlk
    simp only [mv_step] at hst
    split at hst
    · next x j a r =>
      obtain ⟨w, hw, hz⟩ := mv_to_of hst
      cases hz
      obtain ⟨t, N, f2, ty, e1, e2, e3, e4, rfl⟩ := mv_wr_of hw
      obtain rfl := mv_tL_of e3
      refine mh_last hx hb hK hR hF e2 e1 e4 hd (fun H1 locs1 hR1 hF1 => ?_)
      have k2 := k H1 locs1 ls hR1 hF1 hl
      rw [mv_up_len, mv_up_szA cl e1] at k2
      exact k2
    · cases hst
  | aastore =>
    obtain ⟨rfl, rfl⟩ := hlk
    simp only [mv_step] at hst
    split at hst
    · next j a r =>
      obtain ⟨w, hw, hz⟩ := mv_to_of hst
      cases hz
      obtain ⟨t, N, f2, ty, e1, e2, e3, e4, rfl⟩ := mv_wr_of hw
      obtain ⟨C, rfl⟩ := mv_tA_of e3
      refine mh_aastN hx hb hK hR hF e2 e1 e4 hd (fun H1 locs1 hR1 hF1 => ?_)
      have k2 := k H1 locs1 ls hR1 hF1 hl
      rw [mv_up_len, mv_up_szA cl e1] at k2
      exact k2
    · next v j a r =>
      split at hst
      · next ci t hci ht =>
        split at hst
        · next hc =>
          obtain ⟨w, hw, hz⟩ := mv_to_of hst
          cases hz
          obtain ⟨t2, N, f2, ty, e1, e2, e3, e4, rfl⟩ := mv_wr_of hw
          obtain ⟨N3, f3, e5⟩ := mv_kof_of ht
          cases e1.symm.trans e5
          obtain ⟨V, e6⟩ := mv_cof_of hci
          obtain ⟨r2, C2, g1, g2, g3⟩ := hcok.2 ci t (List.contains_iff_mem.mp hc)
          refine mh_aast hx hb hts hK hR hF g2 e1 e6 g1 g3 e4 hd (fun H1 locs1 hR1 hF1 => ?_)
          have k2 := k H1 locs1 ls hR1 hF1 hl
          rw [mv_up_len, mv_up_szA cl e1] at k2
          exact k2
        · cases hst
      · cases hst
    · cases hst
  | checkcast ci =>
    obtain ⟨idx, r, rfl, rfl, hr, w1⟩ := hlk
    simp only [mv_step] at hst
    split at hst
    · next a r2 =>
      split at hst
      · next hc =>
        cases hst
        obtain ⟨V, e6⟩ := mv_cof_of hc
        exact mh_cast hx hb hts hown hK hR hr w1 e6 hd (k H locs ls hR hF hl)
      · cases hst
    · cases hst
  | ldc_w v =>
    rcases hlk with ⟨idx, rfl, rfl, w1⟩ | ⟨idx, rfl, rfl, w1⟩
    · cases hst
      exact W.ldc hx hb hown (hts _ w1) rfl hd (k H locs ls hR hF hl)
    · cases hst
      exact lv_ldcw hx hb hown (hts _ w1) hd (k H locs ls hR hF hl)
  | getstatic v =>
    obtain ⟨idx, rfl, rfl, w1⟩ := hlk
    cases hst
    exact mh_gets hx hb hts hown hJ hF w1 hd (k H locs ls hR hF hl)
  | ldc v =>
    obtain ⟨idx, rfl, rfl, w1⟩ := hlk
    cases hst
    exact va_ldcM hx hb hown (hts _ w1) hJ.2.2 hd (k H locs ls hR hF hl)
  | d2i =>
    obtain ⟨idx, rfl, rfl, w1, w2, w3, w4, w5⟩ := hlk
    simp only [mv_step] at hst
    split at hst
    · next a r =>
      split at hst
      · next t ht =>
        split at hst
        · next hc =>
          cases hst
          obtain ⟨N, f2, e5⟩ := mv_kof_of ht
          have hcell : H[a]? = some (arrV (g.2.2 t) N f2) := hR.at e5
          exact va_getC hx hb (by rw [hml]; exact hl.1.symm) hown (hts _ w1) (hts _ w2) (hts _ w3) (hts _ w4) (hts _ w5) hJ.2.2 ⟨_, hcell, rfl, va_nmO (hK.2 _ _ hc.1).2 rfl⟩ hfr (by omega) hd (k H locs ls hR hF hl)
        · cases hst
      · cases hst
    · cases hst
  | d2l =>
    obtain ⟨idx, rfl, rfl, w1, w2, w3, w4⟩ := hlk
    simp only [mv_step] at hst
    split at hst
    · next v dp d sp a r =>
      split at hst
      · next x y2 hx2 hy2 =>
        split at hst
        · next hc =>
          cases hst
          obtain ⟨c1, c2, c3, c4, c5, c6, c7, c8, e9⟩ := hc
          have e8 : nativeFrameWords "java/lang/System" "arraycopy" 5 ≤ 12 := by decide +kernel
          obtain ⟨x1, x2, x3⟩ := x
          obtain ⟨y1, y2, y3⟩ := y2
          refine mh_copyR hx hb (by rw [hml]; exact hl.1.symm) hts hown hK hR hF w1 w2 w3 w4 hx2 hy2 c6 c7 c1 c2 c3 c4 c5 (fun i hi => ?_) hfr (by omega) hd (fun H1 locs1 hR1 hF1 => ?_)
          · have h9 := c8 i hi
            unfold mv_elt at h9
            split at h9
            · next hv => exact Or.inl hv
            · next y hv =>
              split at h9
              · next ci hci =>
                obtain ⟨V, e6⟩ := mv_cof_of hci
                obtain ⟨r2, C2, g1, g2, g3⟩ := hcok.2 ci y1 (List.contains_iff_mem.mp h9)
                cases g2.symm.trans c7
                exact Or.inr ⟨y, ci, V, r2, hv, e6, g1, g3⟩
              · cases h9
            · cases h9
          have k2 := k H1 locs1 ls hR1 hF1 hl
          rw [mv_up_len, mv_up_szA cl hy2] at k2
          exact k2
        · cases hst
      · cases hst
    · cases hst
  | ldc2_w v =>
    obtain ⟨idx, rfl, rfl, w1⟩ := hlk
    cases hst
    exact lv_ldc2 hx hb hown (hts _ w1) hd (k H locs ls hR hF hl)
  | monitorexit =>
    obtain ⟨idx, rfl, rfl, w1, w2, w3⟩ := hlk
    simp only [mv_step] at hst
    split at hst
    · next a r =>
      split at hst
      · next hrest =>
        cases hst
        exact W.objInit hx hb hown (hts _ w1) (hts _ w2) (hts _ w3) rfl (by rw [hml]; exact hl.1) rfl hd hfr (by show 2 * 0 + _ + 12 ≤ _; omega) (k H locs ls hR hF hl)
      · cases hst
    · cases hst
  | monitorenter =>
    obtain ⟨idx, rfl, rfl, w1, w2, w3, w4⟩ := hlk
    simp only [mv_step] at hst
    split at hst
    · next v dp d sp a r =>
      split at hst
      · next x y2 hx2 hy2 =>
        split at hst
        · next hc =>
          cases hst
          obtain ⟨c1, c2, c3, c4, c5, c6, c7, c8, e9⟩ := hc
          have e8 : nativeFrameWords "java/lang/System" "arraycopy" 5 ≤ 12 := by decide +kernel
          obtain ⟨x1, x2, x3⟩ := x
          obtain ⟨y1, y2, y3⟩ := y2
          refine mh_copy hx hb (by rw [hml]; exact hl.1.symm) hts hown hK hR hF w1 w2 w3 w4 hx2 hy2 c6 c7 c1 c2 c3 c4 c5 c8 hfr (by omega) hd (fun H1 locs1 hR1 hF1 => ?_)
          have k2 := k H1 locs1 ls hR1 hF1 hl
          rw [mv_up_len, mv_up_szA cl hy2] at k2
          exact k2
        · cases hst
      · cases hst
    · cases hst
  | _ => exact pure_case hlk.1 hlk.2.1 hlk.2.2 hst
end MVX
end
section
/-! a run -/
def mv_at (q : mv_J) (pc : Nat) : Option (Nat × Instr × Instr) := match (mj_c q)[pc]? with
  | some (some x) => some (x.1, x.2.1, x.2.2.1)
  | _ => none
def mv_ret (ty : Option FieldType) (i : Instr) (S : List Value) : Option (Option Value) := match i with
  | .return_ => (match S with
    | [] => (match ty with
      | none => some none
      | some _ => none)
    | _ => none)
  | .ireturn => (match S with
    | [.int v] => (match ty with
      | some .int => some (some (.int v))
      | some .boolean => if fits .boolean (.int v) = true then some (some (.int v)) else none
      | _ => none)
    | _ => none)
  | .lreturn => (match S with
    | [.long v] => (match ty with
      | some .long => some (some (.long v))
      | _ => none)
    | _ => none)
  | .areturn => (match S with
    | [v] => (match ty with
      | some (.object _) => if mv_ref v = true then some (some v) else none
      | some (.array _) => if mv_ref v = true then some (some v) else none
      | _ => none)
    | _ => none)
  | _ => none
/-- what is thrown here: a new exception of the class ci (new, dup, its constructor, athrow) -/
def mv_thr (b : Nat) (cl : List mv_K) (i : Instr) (S : List Value) (h : mv_H) : Option (Nat × mv_H) := match i with
  | .instanceof ci => (match cl[ci]? with
    | some K => if (S.map fun v => v.category).sum ≤ 24 then some (b + h.length, h ++ [.inr (ci, mv_def K)]) else none
    | none => none)
  | _ => none
def mv_fitS (q : mv_J) (S : List Value) : Bool := decide (mj_a q ≤ S.length) && decide (((S.drop (mj_a q)).map fun v => v.category).sum ≤ 8) && decide ((mv_ent (S.take (mj_a q)).reverse).length ≤ mj_n q)
def mv_inv (b : Nat) (M : List mv_J) (i : Instr) (S : List Value) (h : mv_H) : Option (Nat × mv_J × List Value × List Value) := match i with
  | .invokestatic j => (match M[j]? with
    | some q => if mv_fitS q S = true then some (j, q, (S.take (mj_a q)).reverse, S.drop (mj_a q)) else none
    | none => none)
  | .invokevirtual j => (match M[j]? with
    | some q => (match (S.take (mj_a q)).reverse with
      | .ref a :: as => if mv_fitS q S = true ∧ mv_cof b h a = some (mj_k q) then some (j, q, .ref a :: as, S.drop (mj_a q)) else none
      | _ => none)
    | none => none)
  | .invokespecial j => (match M[j]? with
    | some q => (match (S.take (mj_a q)).reverse with
      | .ref a :: as => if mv_fitS q S = true then some (j, q, .ref a :: as, S.drop (mj_a q)) else none
      | _ => none)
    | none => none)
  | _ => none
/-- the handler that takes an exception of the class ci: the first that covers pc and names it; the ones before it that cover pc name classes that ci isn't of -/
def mv_seek (nc : List (Nat × Nat)) (ci pc : Nat) : List (Nat × Nat × Nat × Nat) → Option Nat
  | [] => none
  | x :: r => if x.1 ≤ pc ∧ pc < x.2.1 then (if x.2.2.2 = ci then some x.2.2.1 else if nc.contains (ci, x.2.2.2) = true then mv_seek nc ci pc r else none) else mv_seek nc ci pc r
def mv_find (nc : List (Nat × Nat)) (b : Nat) (q : mv_J) (pc : Nat) (h : mv_H) (a : Nat) : Option Nat := match mv_cof b h a with
  | some ci => mv_seek nc ci pc (mj_hr q)
  | none => none
abbrev mv_R : Type := Option Value ⊕ Nat
def mv_run (E : mv_E) (cl : List mv_K) (tys : List FieldType) (asg nc : List (Nat × Nat)) (M : List mv_J) : Nat → Nat → Nat → mv_F → mv_H → Option (mv_R × mv_H)
  | 0, _, _, _, _ => none
  | n + 1, d, j, f, h => match M[j]? with
    | none => none
    | some q => match mv_at q f.1 with
      | none => none
      | some x => match mv_ret (mj_r q) x.2.2 f.2.2 with
        | some v => some (.inl v, h)
        | none => match mv_thr E.1 cl x.2.2 f.2.2 h with
          | some z => if 5 ≤ d then some (.inr z.1, z.2) else none
          | none => match mv_inv E.1 M x.2.2 f.2.2 h with
            | some u => match d with
              | 0 => none
              | d' + 1 => match mv_run E cl tys asg nc M n d' u.1 (0, mv_in (mj_n u.2.1) u.2.2.1, []) h with
                | none => none
                | some (.inl v, h1) => mv_run E cl tys asg nc M n (d' + 1) j (f.1 + x.1, f.2.1, v.toList ++ u.2.2.2) h1
                | some (.inr a, h1) => match mj_hr q with
                  | [] => some (.inr a, h1)
                  | _ :: _ => match mv_find nc E.1 q f.1 h1 a with
                    | some pc' => mv_run E cl tys asg nc M n (d' + 1) j (pc', f.2.1, [.ref a]) h1
                    | none => none
            | none => match mv_step E cl tys asg x.2.2 (f.1 + x.1) f.2.1 f.2.2 h with
              | some z => mv_run E cl tys asg nc M n d j z.1 z.2
              | none => none
/-! heaps grow -/
theorem mv_step_mono {E : mv_E} {cl : List mv_K} {tys : List FieldType} {asg : List (Nat × Nat)} {i : Instr} {nx : Nat} {L : mv_L} {S : List Value} {h h' : mv_H} {f : mv_F} (hs : mv_step E cl tys asg i nx L S h = some (f, h')) : h.length ≤ h'.length ∧ mv_sz cl h ≤ mv_sz cl h' := by
  have up : ∀ {a : Nat} {x y : mv_C}, mv_lk E.1 h a = some x → mv_cz cl y = mv_cz cl x → h.length ≤ (mv_up E.1 h a y).length ∧ mv_sz cl h ≤ mv_sz cl (mv_up E.1 h a y) := fun hl he => ⟨by rw [mv_up_len]; exact Nat.le_refl _, by rw [mv_up_sz cl hl he]; exact Nat.le_refl _⟩
  have pu : ∀ (x : mv_C), h.length ≤ (h ++ [x]).length ∧ mv_sz cl h ≤ mv_sz cl (h ++ [x]) := fun x => ⟨by rw [List.length_append]; omega, by rw [mv_sz_app]; omega⟩
  have wr : ∀ {want : FieldType → Bool} {a : Nat} {k : Int32} {v : Value} {r : List Value}, mv_to_ nx L r (mv_wr E.1 tys want h a k v) = some (f, h') → h.length ≤ h'.length ∧ mv_sz cl h ≤ mv_sz cl h' := by
    intro want a k v r hz
    obtain ⟨w, hw, hz⟩ := mv_to_of hz
    cases hz
    obtain ⟨t, N, f2, ty, e1, e2, e3, e4, rfl⟩ := mv_wr_of hw
    exact up e1 rfl
  have rd : ∀ {want : FieldType → Bool} {a : Nat} {k : Int32} {r : List Value}, mv_at_ nx L r h (mv_rd E.1 tys want h a k) = some (f, h') → h.length ≤ h'.length ∧ mv_sz cl h ≤ mv_sz cl h' := by
    intro want a k r hz
    obtain ⟨w, hw, hz⟩ := mv_at_of hz
    cases hz
    exact ⟨Nat.le_refl _, Nat.le_refl _⟩
  have pr : (match mv_pure i nx L S with | some f => some (f, h) | none => none) = some (f, h') → h.length ≤ h'.length ∧ mv_sz cl h ≤ mv_sz cl h' := by
    intro e4
    split at e4
    · cases e4; exact ⟨Nat.le_refl _, Nat.le_refl _⟩
    · cases e4
  cases i with
  | getfield w =>
    simp only [mv_step] at hs
    repeat' (split at hs)
    all_goals first | (cases hs; done) | (cases hs; exact ⟨Nat.le_refl _, Nat.le_refl _⟩)
  | putfield w =>
    simp only [mv_step] at hs
    split at hs
    · split at hs
      · next hy2 =>
        split at hs
        · split at hs
          · split at hs
            · next hc => cases hs; exact up hy2 (by simp only [mv_cz, hc.1])
            · cases hs
          · cases hs
        · cases hs
      · cases hs
    · cases hs
  | new ci =>
    simp only [mv_step] at hs
    split at hs
    · cases hs; exact pu _
    · cases hs
  | newarray at_ =>
    simp only [mv_step] at hs
    split at hs
    · split at hs
      · cases hs; exact pu _
      · cases hs
    · cases hs
  | anewarray t =>
    simp only [mv_step] at hs
    split at hs
    · split at hs
      · cases hs; exact pu _
      · cases hs
    · cases hs
  | arraylength =>
    simp only [mv_step] at hs
    repeat' (split at hs)
    all_goals first | (cases hs; done) | (cases hs; exact ⟨Nat.le_refl _, Nat.le_refl _⟩)
  | iaload =>
    simp only [mv_step] at hs
    split at hs
    · split at hs
      · exact rd hs
      · split at hs
        · cases hs; exact ⟨Nat.le_refl _, Nat.le_refl _⟩
        · cases hs
    · cases hs
  | baload =>
    simp only [mv_step] at hs
    split at hs
    · exact rd hs
    · cases hs
  | laload =>
    simp only [mv_step] at hs
    split at hs
    · exact rd hs
    · cases hs
  | aaload =>
    simp only [mv_step] at hs
    split at hs
    · exact rd hs
    · cases hs
  | iastore =>
    simp only [mv_step] at hs
    split at hs
    · exact wr hs
    · cases hs
  | bastore =>
    simp only [mv_step] at hs
    split at hs
    · exact wr hs
    · cases hs
  | lastore =>
    simp only [mv_step] at hs
    split at hs
    · exact wr hs
    · cases hs
  | aastore =>
    simp only [mv_step] at hs
    split at hs
    · exact wr hs
    · split at hs
      · split at hs
        · exact wr hs
        · cases hs
      · cases hs
    · cases hs
  | checkcast ci =>
    simp only [mv_step] at hs
    split at hs
    · split at hs
      · cases hs; exact ⟨Nat.le_refl _, Nat.le_refl _⟩
      · cases hs
    · cases hs
  | ldc_w v => cases hs; exact ⟨Nat.le_refl _, Nat.le_refl _⟩
  | ldc2_w v => cases hs; exact ⟨Nat.le_refl _, Nat.le_refl _⟩
  | monitorexit =>
    simp only [mv_step] at hs
    split at hs
    · split at hs
      · cases hs; exact ⟨Nat.le_refl _, Nat.le_refl _⟩
      · cases hs
    · cases hs
  | monitorenter =>
    simp only [mv_step] at hs
    split at hs
    · split at hs
      · next hx2 hy2 =>
        split at hs
        · cases hs; exact up hy2 rfl
        · cases hs
      · cases hs
    · cases hs
  | d2l =>
    simp only [mv_step] at hs
    split at hs
    · split at hs
      · next hx2 hy2 =>
        split at hs
        · cases hs; exact up hy2 rfl
        · cases hs
      · cases hs
    · cases hs
  | getstatic v => cases hs; exact ⟨Nat.le_refl _, Nat.le_refl _⟩
  | ldc v => cases hs; exact ⟨Nat.le_refl _, Nat.le_refl _⟩
  | d2i =>
    simp only [mv_step] at hs
    repeat' (split at hs)
    all_goals first | (cases hs; done) | (cases hs; exact ⟨Nat.le_refl _, Nat.le_refl _⟩)
  | _ => exact pr hs
theorem mv_run_mono {E : mv_E} {cl : List mv_K} {tys : List FieldType} {asg nc : List (Nat × Nat)} {M : List mv_J} : ∀ (n d j : Nat) (f : mv_F) (h : mv_H) (r : mv_R) (h' : mv_H), mv_run E cl tys asg nc M n d j f h = some (r, h') → h.length ≤ h'.length ∧ mv_sz cl h ≤ mv_sz cl h' := by
  intro n
  induction n with
  | zero => intro d j f h r h' hr; cases hr
  | succ n ih =>
    intro d j f h r h' hr
    rw [mv_run] at hr
    split at hr
    · cases hr
    split at hr
    · cases hr
    split at hr
    · cases hr; exact ⟨Nat.le_refl _, Nat.le_refl _⟩
    split at hr
    · next z hz =>
      split at hr
      · cases hr
        unfold mv_thr at hz
        split at hz
        · split at hz
          · split at hz
            · cases hz; exact ⟨by rw [List.length_append]; omega, by rw [mv_sz_app]; omega⟩
            · cases hz
          · cases hz
        · cases hz
      · cases hr
    split at hr
    · next u hu =>
      split at hr
      · cases hr
      · next d' =>
        split at hr
        · cases hr
        · next v h1 h1e =>
          have a1 := ih _ _ _ _ _ _ h1e
          have a2 := ih _ _ _ _ _ _ hr
          exact ⟨by omega, by omega⟩
        · next a h1 h1e =>
          have a1 := ih _ _ _ _ _ _ h1e
          split at hr
          · cases hr; exact a1
          · split at hr
            · have a2 := ih _ _ _ _ _ _ hr
              exact ⟨by omega, by omega⟩
            · cases hr
    · split at hr
      · next z hz =>
        have a1 := mv_step_mono hz
        have a2 := ih _ _ _ _ _ _ hr
        exact ⟨by omega, by omega⟩
      · cases hr
end
section
/-! ends and calls, on the machine's side -/
def mv_oc (r : mv_R) : Outcome := match r with
  | .inl v => .returned v
  | .inr a => .threw a
def mv_End (cl : List mv_K) (g : mv_G) (b : Nat) (h : mv_H) (s : State) (below : List Frame) (nC nS : Nat) (r : mv_R) (t : State) : Prop := ∃ locs : List Loc, mv_rel cl g b h t.heap ∧ mv_fr b s.heap t.heap locs ∧ t.status = .running ∧ Ended t below (mv_oc r) ∧ s.WarmedH t.vm ∧ s.sameButNew ({ t with vm := s.vm } : State) locs nC nS
section MVE
variable {p : Program} {l : Launch} {e : Env} {R : Room} {s : State} {m : MethodId} {args : Array Value} {below : List Frame} {meth : Method} {c : Code} {H H0 : Heap} {locs : List Loc} {cells slots : Nat} {Q Q1 : State → Prop}
variable {cc : ByteArray} {pc n : Nat} {ls : Array Slot} {G : List Cond} {cl : List mv_K} {tys : List FieldType} {g : mv_G} {b : Nat} {h : mv_H} {S : List Value}
theorem mv_Wm {fr : JFrame} (hq : ∀ t, Q1 t → Q t) (w : W p l e R s m args below meth c H locs cells slots Q1 fr) : W p l e R s m args below meth c H locs cells slots Q fr := fun T hT X => by
  obtain ⟨t, a, b⟩ := w T hT X
  exact ⟨t, a, hq t b⟩
theorem mv_MQ {v : Option Value} (hR : mv_rel cl g b h H) (hF : mv_fr b s.heap H locs) : ∀ t, MQ below (fun _ _ o t => o = .returned v ∧ t.heap = H) args s cells slots (fun q => b ≤ q) t → mv_End cl g b h s below cells slots (.inl v) t := by
  intro t ⟨o, h1, h2, ⟨h3, h4⟩, L, ⟨_, h5, h6⟩, h7⟩
  subst h3
  exact ⟨L, by rw [h4]; exact hR, ⟨fun q hq => by rw [h4]; exact hF.1 q hq, h7⟩, h1, h2, h5, h6⟩
theorem mv_abs_ret {i real : Instr} {len : Nat} (hi : i = mv_abs pc real) (hl : mv_lok real len = true) (hk : i = .ireturn ∨ i = .lreturn ∨ i = .areturn ∨ i = .return_) : real = i ∧ len = 1 := by
  subst hi
  cases real <;> simp_all [mv_abs, mv_lok, mv_ln]
theorem mv_ret_w (hx : p.tables.exec = Jvm.exec) (hb : c.code = cc) {ty : Option FieldType} (hr : meth.sig.returnType = ty) (hlocks : meth.locks = false) {i : Instr} {v : Option Value} (hd : decode cc pc = .ok (i, 1)) (hv : mv_ret ty i S = some v) (hR : mv_rel cl g b h H) (hF : mv_fr b s.heap H locs) :
    W p l e R s m args below meth c H locs cells slots (mv_End cl g b h s below cells slots (.inl v)) (F0 m pc ls S) := by
  refine mv_Wm (mv_MQ (args := args) hR hF) ?_
  cases i with
  | return_ =>
    simp only [mv_ret] at hv
    split at hv
    · split at hv
      · cases hv
        exact W.vret hx hb hr (fun t ht _ => ⟨rfl, ht⟩) hF.2 hd
      · cases hv
    · cases hv
  | ireturn =>
    simp only [mv_ret] at hv
    split at hv
    · next x =>
      split at hv
      · cases hv
        exact W.iret hx hb hr (fun t ht _ => ⟨rfl, ht⟩) hF.2 hd
      · split at hv
        · next hfit =>
          cases hv
          exact W.zret (ty := .boolean) hx hb hr (mv_narrow hfit ⟨by decide, by decide, by decide⟩) (fun t ht _ => ⟨rfl, ht⟩) hF.2 hd
        · cases hv
      · cases hv
    · cases hv
  | lreturn =>
    simp only [mv_ret] at hv
    split at hv
    · split at hv
      · cases hv
        exact W.lret hx hb hr (fun t ht _ => ⟨rfl, ht⟩) hF.2 hd
      · cases hv
    · cases hv
  | areturn =>
    simp only [mv_ret] at hv
    split at hv
    · next x =>
      split at hv
      · next C =>
        split at hv
        · next hx1 =>
          cases hv
          refine W.aret (rt := .object C) hx hb hr (Or.inl ⟨C, rfl⟩) ?_ (fun t ht _ => ⟨rfl, ht⟩) hF.2 hd
          cases x <;> first | exact Or.inl rfl | exact Or.inr ⟨_, rfl⟩ | cases hx1
        · cases hv
      · next C =>
        split at hv
        · next hx1 =>
          cases hv
          refine W.aret (rt := .array C) hx hb hr (Or.inr ⟨C, rfl⟩) ?_ (fun t ht _ => ⟨rfl, ht⟩) hF.2 hd
          cases x <;> first | exact Or.inl rfl | exact Or.inr ⟨_, rfl⟩ | cases hx1
        · cases hv
      · cases hv
    · cases hv
  | _ => cases hv
theorem mv_weak {tb : Tables} {mid : List Frame} {x y : State} (hs : Steps tb e (mid ++ below) x y) : Steps tb e below x y := by
  obtain ⟨k, hk, w⟩ := hs
  exact ⟨k, hk, fun i hi => (w i hi).weaken⟩
/-- into a callee and to its end -/
theorem mc_in {T : State} (X : Stand p l e R s m args below meth c T locs cells slots) {f : JFrame} (hg : f.method = m) (hsize : f.locals.size = c.maxLocals) {ig : Instr} {len : Nat} (hdg : decode c.code f.pc = .ok (ig, len))
    {mk : MethodId} {methk : Method} {ck : Code} (a : Array Value) {R' : Room} (hmk : T.vm.method? mk = some methk) (hck : methk.code = some ck) (hlk : methk.locks = false) (hpk : T.plainMethod mk)
    (hframes : R'.frames + 1 ≤ R.frames) (hlocals : 2 * f.monitorRoom + (f.stack.map fun v => v.category).sum + (ck.maxLocals + 11) + R'.locals ≤ R.locals) (hcells : cells + R'.cells ≤ R.cells) (hslots : slots + R'.slots ≤ R.slots)
    (w : W p l e R' (T.calling f mk a) mk a (.java f :: below) methk ck T.heap [] 0 0 Q (entryFrame mk a ck.maxLocals)) : ∃ t, (∀ acts, Steps p.tables e below (doInvoke e (T.setTop f) acts mk a).1 t) ∧ Q t := by
  obtain ⟨Y₀, hin⟩ := X.into hg hsize hdg a (R' := R') hmk hck hlk hpk hframes hlocals hcells hslots
  obtain ⟨t, st, q⟩ := w _ (by simp [State.pushFrame, State.setFrames, State.setTop, State.modifyTopJava]) Y₀
  exact ⟨t, fun acts => by rw [hin acts]; exact mv_weak (mid := [.java f]) st, q⟩
/-- it returned -/
theorem mc_back {T : State} (X : Stand p l e R s m args below meth c T locs cells slots) {f : JFrame} (hg : f.method = m) {ig : Instr} {len : Nat} (hdg : decode c.code f.pc = .ok (ig, len)) {mk : MethodId} {a : Array Value} {v : Option Value} {h1 : mv_H} {kC kS : Nat} (hF : mv_fr b s.heap T.heap locs) {t : State} (ht : mv_End cl g b h1 (T.calling f mk a) (.java f :: below) kC kS (.inl v) t) :
    ∃ (T' : State) (locs' : List Loc), Stand p l e R s m args below meth c T' locs' (cells + kC) (slots + kS) ∧ mv_rel cl g b h1 T'.heap ∧ mv_fr b s.heap T'.heap locs' ∧ t = T'.setTop { f with pc := f.pc + len, stack := v.toList ++ f.stack } := by
  obtain ⟨L, e1, e2, e3, e4, e5, e6⟩ := ht
  obtain ⟨T', X', -, -, rfl⟩ := X.outOf hg hdg e4 e5 e6
  have hh : (T'.setTop { f with pc := f.pc + len, stack := v.toList ++ f.stack }).heap = T'.heap := by simp [State.setTop, State.modifyTopJava]
  have hh2 : (T.calling f mk a).heap = T.heap := by simp [State.calling, State.pushFrame, State.setFrames, State.setTop, State.modifyTopJava]
  rw [hh] at e1 e2
  rw [hh2] at e2
  refine ⟨T', locs ++ L, X', e1, ⟨fun q hq => (e2.1 q hq).trans (hF.1 q hq), fun q hq => ?_⟩, rfl⟩
  rcases List.mem_append.mp hq with h9 | h9
  · exact hF.2 q h9
  · exact e2.2 q h9
/-- it threw -/
theorem mc_thrown {T : State} (X : Stand p l e R s m args below meth c T locs cells slots) {f : JFrame} (hg : f.method = m) {mk : MethodId} {a : Array Value} {x : Nat} {h1 : mv_H} {kC kS : Nat} (hF : mv_fr b s.heap T.heap locs) {t : State} (ht : mv_End cl g b h1 (T.calling f mk a) (.java f :: below) kC kS (.inr x) t) :
    ∃ (T' : State) (locs' : List Loc), Stand p l e R s m args below meth c T' locs' (cells + kC) (slots + kS) ∧ mv_rel cl g b h1 T'.heap ∧ mv_fr b s.heap T'.heap locs' ∧ t = (T'.setTop f).pushFrame (.throwing x) := by
  obtain ⟨L, e1, e2, e3, e4, e5, e6⟩ := ht
  obtain ⟨T', X', -, -, rfl⟩ := X.outOfThrown hg e4 e5 e6
  have hh : ((T'.setTop f).pushFrame (.throwing x)).heap = T'.heap := by simp [State.pushFrame, State.setFrames, State.setTop, State.modifyTopJava]
  have hh2 : (T.calling f mk a).heap = T.heap := by simp [State.calling, State.pushFrame, State.setFrames, State.setTop, State.modifyTopJava]
  rw [hh] at e1 e2
  rw [hh2] at e2
  refine ⟨T', locs ++ L, X', e1, ⟨fun q hq => (e2.1 q hq).trans (hF.1 q hq), fun q hq => ?_⟩, rfl⟩
  rcases List.mem_append.mp hq with h9 | h9
  · exact hF.2 q h9
  · exact e2.2 q h9
/-- nothing here takes it: the method ends -/
theorem mc_leave {T : State} (X : Stand p l e R s m args below meth c T locs cells slots) (x : Nat) {f : JFrame} (hg : f.method = m) (hlocked : f.locked = none) (hent : f.entered = []) (hlocks : meth.locks = false) (hout : ∀ z ∈ c.exceptionTable.toList, covers z f.pc = false) (hR : mv_rel cl g b h T.heap) (hF : mv_fr b s.heap T.heap locs) :
    ∃ t, Steps p.tables e below ((T.setTop f).pushFrame (.throwing x)) t ∧ mv_End cl g b h s below cells slots (.inr x) t := by
  obtain ⟨a1, a2, a3, a4, a5⟩ := X.leaveThrown x hg hlocked hent hout hlocks
  have hh : (T.setFrames (.throwing x :: below)).heap = T.heap := by simp [State.setFrames]
  exact ⟨_, a1, locs, by rw [hh]; exact hR, by rw [hh]; exact hF, a2, a3, a4, a5⟩
end MVE
end
section
/-! what is told of the methods; calls -/
/-- a word that stays under warmer tables -/
def mv_gw (w : Cond) : Bool := match w with
  | .arrayOver _ => true
  | .declares _ => true
  | .castable _ _ => true
  | .methodLinkNest _ _ _ _ => true
  | w => goodWord w
theorem mv_word_at {args a' : Array Value} {s U : State} (hW : s.WarmedH U.vm) {w : Cond} (hc : mv_gw w = true) (h : w.before args s = true) : w.before a' U = true := by
  cases w with
  | arrayOver ty =>
    have h1 : (Cond.arrayOver ty).before args (s.setVm U.vm) = true := Cond.overAtom_setVm (State.Shifted.of_warmed hW).1 _ rfl h
    exact h1
  | declares x =>
    have h1 : (Cond.declares x).before args (s.setVm U.vm) = true := Cond.faceAtom_setVm (State.Shifted.of_warmed hW).1 _ rfl h
    rwa [Cond.onTables_vm (A' := a') (U' := U) U.vm (.declares x) rfl, State.setVm_self] at h1
  | castable x y =>
    have h1 : (Cond.castable x y).before args (s.setVm U.vm) = true := Cond.faceAtom_setVm (State.Shifted.of_warmed hW).1 _ rfl h
    rwa [Cond.onTables_vm (A' := a') (U' := U) U.vm (.castable x y) rfl, State.setVm_self] at h1
  | methodLinkNest x y z u =>
    have h1 := Cond.onTables_warmH (T := U) (args' := a') hW (c := .methodLinkNest x y z u) rfl rfl h
    rwa [State.setVm_self] at h1
  | _ => exact word_at hW (good_of_word hc) h
/-- the atoms that the throwing of a new exception of the class X leans on, but for two that speak of static fields -/
def mv_atoms (own : String) (ic : Nat) (X : String) (names : List String) : List Cond := (Bundle.ownAtoms0 own ic X names).filter fun w => match w with
  | .isRef _ => false
  | .laysStatic _ _ _ => false
  | _ => true
def mv_row (cl : List mv_K) (tys : List FieldType) (G : List Cond) (M : List mv_J) (q : mv_J) (pc len : Nat) (real i : Instr) : Prop := match i with
  | .invokestatic j => ∃ idx q', real = .invokestatic idx ∧ len = 3 ∧ M[j]? = some q' ∧ Cond.methodLink (mj_y q).cls idx (mj_y q') ∈ G ∧ Cond.static (mj_y q') ∈ G ∧ (parseMethodDescriptor (mj_y q').desc).map (fun d => d.parameters.length) = some (mj_a q')
  | .invokevirtual j => ∃ idx q' r, real = .invokevirtual idx ∧ len = 3 ∧ M[j]? = some q' ∧ Cond.methodLink (mj_y q).cls idx (mj_y q') ∈ G ∧ Cond.instanceMethod (mj_y q') ∈ G ∧ Cond.selects (mj_y q').cls (mj_y q') (mj_y q') ∈ G ∧ cl[mj_k q']? = some r ∧ r.1 = (mj_y q').cls ∧ (parseMethodDescriptor (mj_y q').desc).map (fun d => d.parameters.length + 1) = some (mj_a q')
  | .invokespecial j => ∃ idx q', real = .invokespecial idx ∧ len = 3 ∧ M[j]? = some q' ∧ (Cond.methodLink (mj_y q).cls idx (mj_y q') ∈ G ∨ ∃ host, Cond.methodLinkNest (mj_y q).cls idx (mj_y q') host ∈ G) ∧ Cond.instanceMethod (mj_y q') ∈ G ∧ (mj_y q').name = "<init>" ∧ Cond.code (mj_y q') (mj_b q') (mj_n q') none ∈ G ∧ (parseMethodDescriptor (mj_y q').desc).map (fun d => d.parameters.length + 1) = some (mj_a q')
  | .instanceof ci => ∃ idx ic r names, real = .new idx ∧ len = 3 ∧ cl[ci]? = some r ∧ r.2.2.2.1 = 6 ∧ r.2.2.1 = 0 ∧ mj_hh q = [] ∧ decode (mj_b q) (pc + 3) = .ok (.dup, 1) ∧ decode (mj_b q) (pc + 4) = .ok (.invokespecial ic, 3) ∧ decode (mj_b q) (pc + 7) = .ok (.athrow, 1) ∧ Cond.classLink (mj_y q).cls idx r.1 ∈ G ∧ Cond.initialized r.1 ∈ G ∧ names.length ≤ 2 ∧ Bundle.fit r.1 = true ∧ (∀ n ∈ names, Bundle.fit n = true) ∧ ∀ w ∈ mv_atoms (mj_y q).cls ic r.1 names, w ∈ G
  | i => mv_lnk cl tys G (mj_y q) pc len real i
def mv_hok (cl : List mv_K) (G : List Cond) (own : String) (a b : Nat × Nat × Nat × Nat) : Prop := a.1 = b.1 ∧ a.2.1 = b.2.1 ∧ a.2.2.1 = b.2.2.1 ∧ a.2.2.2 ≠ 0 ∧ ∃ r, cl[b.2.2.2]? = some r ∧ Cond.classLink own a.2.2.2 r.1 ∈ G
def mv_jok (cl : List mv_K) (G : List Cond) (q : mv_J) : Prop := (mj_hh q = [] ∧ Cond.code (mj_y q) (mj_b q) (mj_n q) (mj_r q) ∈ G ∨ Cond.codeWith (mj_y q) (mj_b q) (mj_n q) (mj_r q) (mj_hh q) ∈ G) ∧ Cond.initialized (mj_y q).cls ∈ G ∧ plainFor (mj_y q) = true ∧ ((mj_y q).cls ≠ "java/lang/invoke/MethodHandle" ∧ (mj_y q).cls ≠ "java/lang/invoke/VarHandle") ∧ mj_n q ≤ 15 ∧ (mj_hh q).length = (mj_hr q).length ∧ ∀ (i : Nat) (a b : Nat × Nat × Nat × Nat), (mj_hh q)[i]? = some a → (mj_hr q)[i]? = some b → mv_hok cl G (mj_y q).cls a b
def mv_OK (cl : List mv_K) (tys : List FieldType) (asg : List (Nat × Nat)) (M : List mv_J) (G : List Cond) : Prop := mv_cok cl tys asg G ∧ (∀ w ∈ G, mv_gw w = true) ∧ ∀ (j : Nat) (q : mv_J), M[j]? = some q → mv_jok cl G q ∧ ∀ pc len real i, mv_at q pc = some (len, real, i) → decode (mj_b q) pc = .ok (real, len) ∧ mv_row cl tys G M q pc len real i
section MVM
variable {p : Program} {l : Launch} {e : Env} {R : Room} {s : State} {m : MethodId} {args : Array Value} {below : List Frame} {meth : Method} {c : Code} {locs : List Loc} {cells slots : Nat}
variable {G : List Cond} {cl : List mv_K} {tys : List FieldType} {asg : List (Nat × Nat)} {M : List mv_J} {q : mv_J}
theorem mj_spec (hts : ∀ w ∈ G, w.before args s = true) (hj : mv_jok cl G q) : ∃ mk meth c, s.methodNamed? (mj_y q) = some mk ∧ s.vm.method? mk = some meth ∧ meth.code = some c ∧ c.code = mj_b q ∧ c.maxLocals = mj_n q ∧ meth.sig.returnType = mj_r q ∧ meth.locks = false ∧ c.exceptionTable.toList = tableOf (mj_hh q) ∧ parseMethodDescriptor (mj_y q).desc = some meth.sig := by
  rcases hj.1 with ⟨hh, hw⟩ | hw
  · obtain ⟨mk, hn⟩ := Cond.code_named (hts _ hw)
    obtain ⟨meth, c, h1, h2, h3, h4, h5, h6, h7, h8⟩ := Cond.code_spec hn (hts _ hw)
    refine ⟨mk, meth, c, hn, h1, h2, h3, h4, h5, h6, ?_, h8⟩
    have h0 : c.exceptionTable.size = 0 := by simpa [Array.isEmpty] using h7
    have h1' : c.exceptionTable.toList = [] := List.eq_nil_of_length_eq_zero (by simpa using h0)
    rw [hh, h1']
    rfl
  · obtain ⟨mk, meth, c, hn, h1, h2, h3, h4, h5, h6, h7, h8⟩ := Cond.codeWith_spec (hts _ hw)
    exact ⟨mk, meth, c, hn, h1, h2, h3, h4, h6, h7, by rw [← h5, table_eq], h8⟩
theorem mj_n_of {d : MethodDescriptor} {k : Nat} {D : String} (h : (parseMethodDescriptor D).map (fun d => d.parameters.length) = some k) (hd : parseMethodDescriptor D = some d) : d.parameters.length = k := by
  rw [hd] at h
  exact Option.some.inj h
theorem mj_n1_of {d : MethodDescriptor} {k : Nat} {D : String} (h : (parseMethodDescriptor D).map (fun d => d.parameters.length + 1) = some k) (hd : parseMethodDescriptor D = some d) : d.parameters.length + 1 = k := by
  rw [hd] at h
  exact Option.some.inj h
theorem mc_static {T : State} (X : Stand p l e R s m args below meth c T locs cells slots) (hx : p.tables.exec = Jvm.exec) (hts : ∀ w ∈ G, w.before args s = true) {own : String} (hown : s.vm.findClass own = some m.cls) {q' : mv_J} (hj : mv_jok cl G q') {idx : Nat} (w1 : Cond.methodLink own idx (mj_y q') ∈ G) (w2 : Cond.static (mj_y q') ∈ G) (hn : (parseMethodDescriptor (mj_y q').desc).map (fun d => d.parameters.length) = some (mj_a q'))
    {f : JFrame} (hg : f.method = m) {as rest : List Value} (hlen : as.length = mj_a q') (hstack : f.stack = as.reverse ++ rest) (hdg : decode c.code f.pc = .ok (.invokestatic idx, 3)) :
    ∃ vm₁ mk, Stand p l e R s m args below meth c (T.setVm vm₁) locs cells slots ∧ s.methodNamed? (mj_y q') = some mk ∧ ∀ target, (∀ acts, Steps p.tables e below (doInvoke e ((T.setVm vm₁).setTop { f with stack := rest }) acts mk as.toArray).1 target) → Steps p.tables e below (T.setTop f) target := by
  obtain ⟨mk, methM, cM, hnamed, hmethM, -, -, -, -, -, -, hsigM⟩ := mj_spec hts hj
  have hstatic : methM.isStatic = true := Cond.static_spec hnamed hmethM (hts _ w2)
  obtain ⟨kP, hkP, -⟩ := className_of_methodNamed hnamed
  have hinitP : kP.init = .initialized := Cond.initialized_spec (findClass_of_methodNamed hnamed) hkP (hts _ hj.2.1)
  obtain ⟨vm₁, X₁, hstep₁⟩ := X.invokestatic hx hown (hts _ w1) hnamed hmethM hstatic hkP hinitP hj.2.2.2.1 (g := f) hg (argsL := as) (rest := rest) (by rw [hlen, mj_n_of hn hsigM]) hstack hdg
  exact ⟨vm₁, mk, X₁, hnamed, hstep₁⟩
theorem mc_virtual {T : State} (X : Stand p l e R s m args below meth c T locs cells slots) (hx : p.tables.exec = Jvm.exec) (hts : ∀ w ∈ G, w.before args s = true) {own : String} (hown : s.vm.findClass own = some m.cls) {q' : mv_J} (hj : mv_jok cl G q') {idx : Nat} (w1 : Cond.methodLink own idx (mj_y q') ∈ G) (w2 : Cond.instanceMethod (mj_y q') ∈ G) (w3 : Cond.selects (mj_y q').cls (mj_y q') (mj_y q') ∈ G) (hn : (parseMethodDescriptor (mj_y q').desc).map (fun d => d.parameters.length + 1) = some (mj_a q'))
    {b : Nat} {cellB : Cell} (hcell : T.heap[b]? = some cellB) (hobj : cellB.vm.isStatics = false) (hcls : s.vm.findClass (mj_y q').cls = some cellB.cls)
    {f : JFrame} (hg : f.method = m) {as rest : List Value} (hlen : as.length + 1 = mj_a q') (hstack : f.stack = as.reverse ++ .ref b :: rest) (hdg : decode c.code f.pc = .ok (.invokevirtual idx, 3)) :
    ∃ vm₁ mk, Stand p l e R s m args below meth c (T.setVm vm₁) locs cells slots ∧ s.methodNamed? (mj_y q') = some mk ∧ ∀ target, (∀ acts, Steps p.tables e below (doInvoke e ((T.setVm vm₁).setTop { f with stack := rest }) acts mk (Value.ref b :: as).toArray).1 target) → Steps p.tables e below (T.setTop f) target := by
  obtain ⟨mk, methM, hnamed, hmethM, hstM, habM⟩ := Cond.instanceMethod_spec (hts _ w2)
  obtain ⟨mk2, methM2, cM, hnamed2, hmethM2, -, -, -, -, -, -, hsigM⟩ := mj_spec hts hj
  cases Option.some.inj (hnamed.symm.trans hnamed2)
  cases Option.some.inj (hmethM.symm.trans hmethM2)
  have hy := hj.2.2.2.1
  obtain ⟨c2, r2, m2, q1, q2, q3, q4, kP, hkP, hkPi⟩ := Cond.selects_spec (hts _ w3)
  cases hcls.symm.trans q1
  cases (State.methodFound?_of_named hnamed hy).symm.trans q2
  cases hnamed.symm.trans q3
  have hselP : selectMethod e.platform s.vm cellB.cls mk = .method mk := by rw [Launch.admits_selectMethod X.admits]; exact q4
  have hl2 := mj_n1_of hn hsigM
  obtain ⟨vm₁, X₁, hstep₁⟩ := X.invokevirtual hx hown (hts _ w1) hnamed hmethM hstM hkP hkPi hy (a := b) (cell := cellB) hcell
    (fun z h => by rw [h] at hobj; cases hobj) hselP hmethM habM hkP hkPi (g := f) hg (argsL := as) (rest := rest) (by omega) hstack hdg
  exact ⟨vm₁, mk, X₁, hnamed, hstep₁⟩
theorem mc_special {T : State} (X : Stand p l e R s m args below meth c T locs cells slots) (hx : p.tables.exec = Jvm.exec) (hts : ∀ w ∈ G, w.before args s = true) {own : String} (hown : s.vm.findClass own = some m.cls) {q' : mv_J} (hj : mv_jok cl G q') {idx : Nat} (w1 : Cond.methodLink own idx (mj_y q') ∈ G ∨ ∃ host, Cond.methodLinkNest own idx (mj_y q') host ∈ G) (w2 : Cond.instanceMethod (mj_y q') ∈ G) (hnm : (mj_y q').name = "<init>") (w3 : Cond.code (mj_y q') (mj_b q') (mj_n q') none ∈ G) (hn : (parseMethodDescriptor (mj_y q').desc).map (fun d => d.parameters.length + 1) = some (mj_a q'))
    {b : Nat} {f : JFrame} (hg : f.method = m) {as rest : List Value} (hlen : as.length + 1 = mj_a q') (hstack : f.stack = as.reverse ++ .ref b :: rest) (hdg : decode c.code f.pc = .ok (.invokespecial idx, 3)) :
    ∃ vm₁ mk, Stand p l e R s m args below meth c (T.setVm vm₁) locs cells slots ∧ s.methodNamed? (mj_y q') = some mk ∧ ∀ target, (∀ acts, Steps p.tables e below (doInvoke e ((T.setVm vm₁).setTop { f with stack := rest }) acts mk (Value.ref b :: as).toArray).1 target) → Steps p.tables e below (T.setTop f) target := by
  subst hg
  have hpl : e.platform.magicAccessors = ({} : Platform).magicAccessors := by rw [X.admits.platform]
  rcases w1 with w1 | ⟨host, w1⟩
  · obtain ⟨mk, methM, cM, kP, vm₁, hnamed, hmethM, hcodeM, -, hlocalsM, -, hkP, -, hW₁, hstep₁⟩ := Steps.initColdArgs (e := e) X.here hx X.warmed hpl hown hnm hj.2.2.2.1 (hts _ w1) (hts _ w2) (hts _ w3) (f := f) rfl (fun sig hs => by have := mj_n1_of hn hs; omega) hstack hdg
    exact ⟨vm₁, mk, X.noted hW₁, hnamed, hstep₁⟩
  · obtain ⟨mk, methM, cM, kP, vm₁, hnamed, hmethM, hcodeM, -, hlocalsM, -, hkP, -, hW₁, hstep₁⟩ := Steps.initColdArgsNest (e := e) X.here hx X.warmed hpl hown hnm hj.2.2.2.1 (hts _ w1) (hts _ w2) (hts _ w3) (f := f) rfl (fun sig hs => by have := mj_n1_of hn hs; omega) hstack hdg
    exact ⟨vm₁, mk, X.noted hW₁, hnamed, hstep₁⟩
end MVM
end
section
/-! exceptions, on the machine's side -/
section MVT
variable {p : Program} {l : Launch} {e : Env} {R : Room} {s : State} {m : MethodId} {args : Array Value} {below : List Frame} {meth : Method} {c : Code} {T : State} {locs : List Loc} {cells slots : Nat}
/-- the walk as if it began here -/
theorem mv_rebase (X : Stand p l e R s m args below meth c T locs cells slots) (hc : cells ≤ R.cells) (hs : slots ≤ R.slots) : Stand p l e { frames := R.frames, cells := R.cells - cells, slots := R.slots - slots, locals := R.locals } (T.setFrames (.invoking m args :: below)) m args below meth c T [] 0 0 := by
  obtain ⟨g₀, hfr⟩ := X.frames_eq
  have hcur : T.cur < T.threads.size := State.cur_lt_of_frames hfr
  obtain ⟨th, hth, -⟩ := State.frames_cons hfr
  have hm' : (T.setFrames (.invoking m args :: below)).vm.method? m = some meth := X.method'
  have hF : (T.setFrames (.invoking m args :: below)).frames = .invoking m args :: below := State.frames_setFrames _ hcur
  have hroom := X.room
  have h1 := X.heapSize
  have h2 := X.used
  refine ⟨X.admits, X.cas, X.clock, hF, ?_, ?_, hm', X.code, X.here, X.tail, State.WarmedH.refl _, by rw [State.stackLimits_setFrames], by rw [State.stackBytes_setFrames], ?_⟩
  · have hl0 := State.localsInUse_invoking X.frames X.method X.code
    have hl1 := State.localsInUse_invoking hF hm' X.code
    simp only [State.hasRoom, Bool.and_eq_true, decide_eq_true_eq] at hroom ⊢
    obtain ⟨⟨⟨⟨r1, r2, r3, r4, r5, r6⟩, r7⟩, r8⟩, r9⟩ := hroom
    rw [hl0] at r1 r4 r5
    rw [X.frames] at r2 r3
    rw [hl1, hF, State.stackLimits_setFrames, State.stackBytes_setFrames, X.limits, X.bytes]
    refine ⟨⟨⟨⟨r1, r2, r3, r4, r5, r6⟩, ?_⟩, ?_⟩, X.book⟩
    · show T.heap.size + (R.cells - cells) ≤ _
      omega
    · show T.slotsUsed + (R.slots - slots) ≤ _
      omega
  · have hh := X.hears
    have key : ∀ mm, T.vm.method? mm = s.vm.method? mm := fun mm => X.warmed.alike.method? mm
    cases below with
    | nil => simpa [State.hears, key] using hh
    | cons f r =>
      cases f <;> simpa [State.hears, State.code?_eq, key] using hh
  · obtain ⟨th2, ht, -⟩ := State.frames_cons hF
    have h3 := (State.sameButNew.refl (T.setFrames (.invoking m args :: below)) ht).setFrames T.frames (by simpa [State.setFrames] using hcur)
    rw [State.setFrames_setFrames, State.setFrames_self hth] at h3
    exact h3
end MVT
end
section
/-! the small machine's runs are the machine's -/
/-- the two static fields that a new exception reads -/
def mv_lst (b : Nat) (C n d : String) (U : State) (H : Heap) : Prop := ∃ (c : ClassId) (k : Class) (i : Nat) (f : Field) (a : Nat) (cell : Cell), U.vm.findClass C = some c ∧ U.fieldFound? C n d = some (c, k, i, f) ∧ f.isStatic = true ∧ k.statics = some a ∧ H[a]? = some cell ∧ cell.vm.isStatics = true ∧ cell.cls = c ∧ f.slot < cell.slots.size ∧ k.staticTypes[f.slot]? = some f.type ∧ a < b
theorem mv_lst.moved {b : Nat} {C n d : String} {u U : State} {H H1 : Heap} (hvm : u.vm.Alike U.vm) (hq : ∀ q : Nat, q < b → H1[q]? = H[q]?) (h : mv_lst b C n d u H) : mv_lst b C n d U H1 := by
  obtain ⟨c, k, i, f, a, cell, hc, hi, hst, ha, hcell, hs, hcls, hlt, hty, hab⟩ := h
  obtain ⟨k', hi', hek⟩ := State.fieldFound?_setVm hvm hi
  exact ⟨c, k', i, f, a, cell, by rw [hvm.findClass]; exact hc, hi', hst, by rw [hek]; exact ha, by rw [hq a hab]; exact hcell, hs, hcls, hlt, by rw [hek]; exact hty, hab⟩
theorem mv_lst.word {b : Nat} {C n d : String} {U : State} {args : Array Value} (h : mv_lst b C n d U U.heap) : (Cond.laysStatic C n d).before args U = true := by
  obtain ⟨c, k, i, f, a, cell, hc, hi, hst, ha, hcell, hs, hcls, hlt, hty, hab⟩ := h
  exact Cond.laysStatic_of hc hi hst ha hcell hs hcls hlt hty
def mv_zs (E : mv_E) (U : State) (H : Heap) : Prop := (mv_js E U H ∧ mv_lst E.1 Bundle.tN "UNASSIGNED_STACK" Bundle.steD U H ∧ mv_lst E.1 Bundle.tN "SUPPRESSED_SENTINEL" Bundle.listD U H) ∧ (∃ v, mv_ref v = true ∧ va_Z Bundle.tN "UNASSIGNED_STACK" Bundle.steD v (fun q => E.1 ≤ q) U H) ∧ ∃ v, mv_ref v = true ∧ va_Z Bundle.tN "SUPPRESSED_SENTINEL" Bundle.listD v (fun q => E.1 ≤ q) U H
theorem mv_zs.moved {E : mv_E} {u U : State} {H H1 : Heap} (hvm : u.vm.Alike U.vm) (hq : ∀ q : Nat, q < E.1 → H1[q]? = H[q]?) (h : mv_zs E u H) : mv_zs E U H1 := by
  obtain ⟨h0, ⟨v, hv, h1⟩, w, hw, h2⟩ := h
  have key : ∀ {C n d : String} {v : Value}, va_Z C n d v (fun q => E.1 ≤ q) u H → va_Z C n d v (fun q => E.1 ≤ q) U H1 := fun z => (z.moved hvm).kept (fun a _ ha => hq a (Nat.not_le.mp ha))
  exact ⟨⟨h0.1.moved hvm hq, h0.2.1.moved hvm hq, h0.2.2.moved hvm hq⟩, ⟨v, hv, key h1⟩, w, hw, key h2⟩
/-- the classes that the other isn't of -/
def mv_nk (nc : List (Nat × Nat)) (cl : List mv_K) (U : State) : Prop := ∀ x y, (x, y) ∈ nc → ∃ rx ry, cl[x]? = some rx ∧ cl[y]? = some ry ∧ va_Nc rx.1 ry.1 U
theorem mv_nk.moved {nc : List (Nat × Nat)} {cl : List mv_K} {u U : State} (hvm : u.vm.Alike U.vm) (h : mv_nk nc cl u) : mv_nk nc cl U := fun x y hxy => by
  obtain ⟨rx, ry, h1, h2, h3⟩ := h x y hxy
  exact ⟨rx, ry, h1, h2, h3.moved hvm⟩
def mv_ctx (cl : List mv_K) (tys : List FieldType) (G : List Cond) (g : mv_G) (E : mv_E) (d : Nat) (q : mv_J) (p : Program) (e : Env) (R : Room) (s : State) (m : MethodId) (args : Array Value) (meth : Method) (c : Code) : Prop :=
  p.tables.exec = Jvm.exec ∧ e.platform.stackTraces = false ∧ (∀ w ∈ G, w.before args s = true) ∧ mv_kn cl tys g s ∧ va_X E.2.1 E.2.2.1 E.2.2.2.1 s s.heap ∧ E.2.1 < E.1 ∧ mv_zs E s s.heap ∧ s.methodNamed? (mj_y q) = some m ∧ s.vm.method? m = some meth ∧ c.code = mj_b q ∧ c.maxLocals = mj_n q ∧ meth.sig.returnType = mj_r q ∧ meth.locks = false ∧ c.exceptionTable.toList = tableOf (mj_hh q) ∧ d + 1 ≤ R.frames ∧ 34 * d + 56 ≤ R.locals
section MVS
variable {p : Program} {l : Launch} {e : Env} {R : Room} {s : State} {m : MethodId} {args : Array Value} {below : List Frame} {meth : Method} {c : Code} {H : Heap} {locs : List Loc}
variable {G : List Cond} {cl : List mv_K} {tys : List FieldType} {asg nc : List (Nat × Nat)} {M : List mv_J} {g : mv_G} {E : mv_E} {q : mv_J} {h : mv_H}
theorem mv_ent_len : ∀ (as : List Value), (mv_ent as).length = (lg_sl as).length
  | [] => rfl
  | v :: r => by
    have ih := mv_ent_len r
    unfold mv_ent lg_sl
    rw [List.flatMap_cons]
    split <;> simp_all [lg_sl]
theorem mv_ent_at : ∀ (as : List Value) (k i : Nat) (v : Value), (mv_ent as)[i]? = some (some v) → (k + i, v) ∈ lv_args k as
  | [], k, i, v, h => by simp [mv_ent] at h
  | w :: r, k, i, v, h => by
    unfold mv_ent at h
    unfold lv_args
    split at h
    · next hw =>
      cases i with
      | zero => simp at h; subst h; simp
      | succ i =>
        cases i with
        | zero => simp at h
        | succ i =>
          simp only [List.getElem?_cons_succ] at h
          have ih := mv_ent_at r (k + 2) i v h
          rw [if_pos hw]
          rw [show k + (i + 1 + 1) = k + 2 + i by omega]
          exact List.mem_cons_of_mem _ ih
    · next hw =>
      cases i with
      | zero => simp at h; subst h; simp
      | succ i =>
        simp only [List.getElem?_cons_succ] at h
        have ih := mv_ent_at r (k + 1) i v h
        rw [if_neg hw]
        rw [show k + (i + 1) = k + 1 + i by omega]
        exact List.mem_cons_of_mem _ ih
theorem mv_in_rel {as : List Value} {n : Nat} (hn : (mv_ent as).length ≤ n) : mv_lrel ((lg_sl as ++ List.replicate (n - (lg_sl as).length) Slot.unset).toArray) n (mv_in n as) := by
  have h1 := lv_entry as (n := n) (by rw [← mv_ent_len]; exact hn)
  refine ⟨h1.1, by unfold mv_in; rw [List.length_append, List.length_replicate]; omega, h1.2.1, fun i v hi => ?_⟩
  have hi2 : (mv_ent as)[i]? = some (some v) := by
    unfold mv_in at hi
    by_cases hl : i < (mv_ent as).length
    · rwa [List.getElem?_append_left hl] at hi
    · rw [List.getElem?_append_right (by omega)] at hi
      have := List.eq_of_mem_replicate (List.mem_of_getElem? hi)
      cases this
  have h2 := mv_ent_at as 0 i v hi2
  rw [Nat.zero_add] at h2
  exact h1.2.2 (i, v) h2
theorem mv_inv_of {b : Nat} {i : Instr} {S : List Value} {u : Nat × mv_J × List Value × List Value} (hu : mv_inv b M i S h = some u) : M[u.1]? = some u.2.1 ∧ S = u.2.2.1.reverse ++ u.2.2.2 ∧ u.2.2.1.length = mj_a u.2.1 ∧ (u.2.2.2.map fun v => v.category).sum ≤ 8 ∧ (mv_ent u.2.2.1).length ≤ mj_n u.2.1 ∧ (i = .invokestatic u.1 ∨ (∃ a as, u.2.2.1 = .ref a :: as ∧ i = .invokevirtual u.1 ∧ mv_cof b h a = some (mj_k u.2.1)) ∨ ∃ a as, u.2.2.1 = .ref a :: as ∧ i = .invokespecial u.1) := by
  have fitS : ∀ {q : mv_J}, mv_fitS q S = true → S = ((S.take (mj_a q)).reverse).reverse ++ S.drop (mj_a q) ∧ ((S.take (mj_a q)).reverse).length = mj_a q ∧ ((S.drop (mj_a q)).map fun v => v.category).sum ≤ 8 ∧ (mv_ent (S.take (mj_a q)).reverse).length ≤ mj_n q := by
    intro q hf
    simp only [mv_fitS, Bool.and_eq_true, decide_eq_true_eq] at hf
    exact ⟨by rw [List.reverse_reverse, List.take_append_drop], by rw [List.length_reverse, List.length_take]; omega, hf.1.2, hf.2⟩
  unfold mv_inv at hu
  split at hu
  · next j =>
    split at hu
    · next q2 hq2 =>
      split at hu
      · next hf =>
        cases hu
        obtain ⟨a1, a2, a3, a4⟩ := fitS hf
        exact ⟨hq2, a1, a2, a3, a4, Or.inl rfl⟩
      · cases hu
    · cases hu
  · next j =>
    split at hu
    · next q2 hq2 =>
      split at hu
      · next a as has =>
        split at hu
        · next hf =>
          cases hu
          obtain ⟨a1, a2, a3, a4⟩ := fitS hf.1
          rw [has] at a1 a2 a4
          exact ⟨hq2, a1, a2, a3, a4, Or.inr (Or.inl ⟨a, as, rfl, rfl, hf.2⟩)⟩
        · cases hu
      · cases hu
    · cases hu
  · next j =>
    split at hu
    · next q2 hq2 =>
      split at hu
      · next a as has =>
        split at hu
        · next hf =>
          cases hu
          obtain ⟨a1, a2, a3, a4⟩ := fitS hf
          rw [has] at a1 a2 a4
          exact ⟨hq2, a1, a2, a3, a4, Or.inr (Or.inr ⟨a, as, rfl, rfl⟩)⟩
        · cases hu
      · cases hu
    · cases hu
  · cases hu
/-- the step of a call -/
theorem mc_any {T : State} {cells slots : Nat} (hok : mv_OK cl tys asg M G) (X : Stand p l e R s m args below meth c T locs cells slots) (hx : p.tables.exec = Jvm.exec) (hts : ∀ w ∈ G, w.before args s = true) (hK : mv_kn cl tys g s) {b : Nat} (hR : mv_rel cl g b h T.heap) (hown : s.vm.findClass (mj_y q).cls = some m.cls) {pc len : Nat} {ls : Array Slot} {S : List Value} {real i : Instr}
    (hd : decode c.code pc = .ok (real, len)) (hrow : mv_row cl tys G M q pc len real i) {u : Nat × mv_J × List Value × List Value} (hu : mv_inv b M i S h = some u) :
    len = 3 ∧ ∃ vm₁ mk, Stand p l e R s m args below meth c (T.setVm vm₁) locs cells slots ∧ s.methodNamed? (mj_y u.2.1) = some mk ∧ ∀ target, (∀ acts, Steps p.tables e below (doInvoke e ((T.setVm vm₁).setTop (F0 m pc ls u.2.2.2)) acts mk u.2.2.1.toArray).1 target) → Steps p.tables e below (T.setTop (F0 m pc ls S)) target := by
  obtain ⟨a1, a2, a3, a4, a5, a6⟩ := mv_inv_of hu
  have hj := (hok.2.2 _ _ a1).1
  rcases a6 with rfl | ⟨a, as, has, rfl, hco⟩ | ⟨a, as, has, rfl⟩
  · obtain ⟨idx, q2, rfl, rfl, b1, b2, b3, b4⟩ := hrow
    cases Option.some.inj (a1.symm.trans b1)
    exact ⟨rfl, mc_static X hx hts hown hj b2 b3 b4 (f := F0 m pc ls S) rfl a3 a2 hd⟩
  · obtain ⟨idx, q2, r, rfl, rfl, b1, b2, b3, b4, b5, b6, b7⟩ := hrow
    cases Option.some.inj (a1.symm.trans b1)
    obtain ⟨V, hlk⟩ := mv_cof_of hco
    obtain ⟨r2, hr2, cell, q1, q2, q3, -⟩ := hR.at hlk
    rw [has] at a2 a3 ⊢
    have hKn := (hK.1 _ _ b5).2
    refine ⟨rfl, mc_virtual X hx hts hown hj b2 b3 b4 b7 q1 (by rw [q3]; rfl) (by rw [q2, ← b6]; exact hKn.1) (f := F0 m pc ls S) rfl (by simpa using a3) (by simpa using a2) hd⟩
  · obtain ⟨idx, q2, rfl, rfl, b1, b2, b3, b4, b5, b6⟩ := hrow
    cases Option.some.inj (a1.symm.trans b1)
    rw [has] at a2 a3 ⊢
    exact ⟨rfl, mc_special X hx hts hown hj b2 b3 b4 b5 b6 (f := F0 m pc ls S) rfl (by simpa using a3) (by simpa using a2) hd⟩
end MVS
end
section
section MVN
variable {G : List Cond} {cl : List mv_K} {tys : List FieldType} {asg nc : List (Nat × Nat)} {M : List mv_J} {g : mv_G} {E : mv_E}
set_option maxHeartbeats 4000000 in
/-- into a callee, by its own run, and to its end -/
theorem mv_enter (hok : mv_OK cl tys asg M G) {p : Program} {l : Launch} {e : Env} {R : Room} {s : State} {m : MethodId} {args : Array Value} {below : List Frame} {meth : Method} {c : Code} {locs : List Loc} {ls : Array Slot} {n0 z0 d' pc len : Nat} {q : mv_J} {h h1 : mv_H} {r1 : mv_R} {S : List Value} {real i : Instr} {u : Nat × mv_J × List Value × List Value} {T : State}
    (C : mv_ctx cl tys G g E (d' + 1) q p e R s m args meth c) (hN : mv_nk nc cl s) (hR : mv_rel cl g E.1 h T.heap) (hF : mv_fr E.1 s.heap T.heap locs) (hls : ls.size = mj_n q) (hn0 : n0 ≤ h.length) (hz0 : z0 ≤ mv_sz cl h) (hm1 : h.length ≤ h1.length) (hm2 : mv_sz cl h ≤ mv_sz cl h1) (hr1 : h1.length - n0 ≤ R.cells) (hr2 : mv_sz cl h1 - z0 ≤ R.slots)
    (hd : decode (mj_b q) pc = .ok (real, len)) (hrow : mv_row cl tys G M q pc len real i) (hu : mv_inv E.1 M i S h = some u) (X : Stand p l e R s m args below meth c T locs (h.length - n0) (mv_sz cl h - z0))
    (ihs : ∀ {p : Program} {l : Launch} {e : Env} {R : Room} {s : State} {m : MethodId} {args : Array Value} {below : List Frame} {meth : Method} {c : Code} {H : Heap} {locs : List Loc} {ls : Array Slot} {n0 z0 : Nat}, mv_ctx cl tys G g E d' u.2.1 p e R s m args meth c → mv_nk nc cl s → mv_rel cl g E.1 h H → mv_fr E.1 s.heap H locs → mv_lrel ls (mj_n u.2.1) (mv_in (mj_n u.2.1) u.2.2.1) → n0 ≤ h.length → z0 ≤ mv_sz cl h → h1.length - n0 ≤ R.cells → mv_sz cl h1 - z0 ≤ R.slots →
      W p l e R s m args below meth c H locs (h.length - n0) (mv_sz cl h - z0) (mv_End cl g E.1 h1 s below (h1.length - n0) (mv_sz cl h1 - z0) r1) (F0 m 0 ls [])) :
    ∃ vm₁ mk t, Stand p l e R s m args below meth c (T.setVm vm₁) locs (h.length - n0) (mv_sz cl h - z0) ∧ mv_End cl g E.1 h1 ((T.setVm vm₁).calling (F0 m pc ls u.2.2.2) mk u.2.2.1.toArray) (.java (F0 m pc ls u.2.2.2) :: below) (h1.length - h.length) (mv_sz cl h1 - mv_sz cl h) r1 t ∧ ∀ target, Steps p.tables e below t target → Steps p.tables e below (T.setTop (F0 m pc ls S)) target := by
  obtain ⟨hx, htr, hts, hK, hX, hsb, hZ, hnm, hmeth, hcode, hml, hret, hlocks, htab, hfr, hlo⟩ := id C
  have hown := findClass_of_methodNamed hnm
  obtain ⟨hlen3, vm₁, mk, X₁, hnamed, hstep⟩ := mc_any hok X hx hts hK hR hown (ls := ls) (by rw [hcode]; exact hd) hrow hu
  obtain ⟨a1, a2, a3, a4, a5, a6⟩ := mv_inv_of hu
  have hj := (hok.2.2 _ _ a1).1
  obtain ⟨mk2, methk, ck, g1, g2, g3, g4, g5, g6, g7, g8, g9⟩ := mj_spec hts hj
  cases Option.some.inj (hnamed.symm.trans g1)
  have hW : s.WarmedH (T.setVm vm₁).vm := X₁.warmed
  have hvm : ((T.setVm vm₁).calling (F0 m pc ls u.2.2.2) mk u.2.2.1.toArray).vm = (T.setVm vm₁).vm := by simp [State.calling, State.pushFrame, State.setFrames, State.setTop, State.modifyTopJava]
  have hhp : ((T.setVm vm₁).calling (F0 m pc ls u.2.2.2) mk u.2.2.1.toArray).heap = T.heap := by simp [State.calling, State.pushFrame, State.setFrames, State.setTop, State.modifyTopJava, State.setVm]
  have hal : s.vm.Alike ((T.setVm vm₁).calling (F0 m pc ls u.2.2.2) mk u.2.2.1.toArray).vm := by rw [hvm]; exact hW.alike
  have hW' : s.WarmedH ((T.setVm vm₁).calling (F0 m pc ls u.2.2.2) mk u.2.2.1.toArray).vm := by rw [hvm]; exact hW
  have hn15 : mj_n u.2.1 ≤ 15 := hj.2.2.2.2.1
  have C' : mv_ctx cl tys G g E d' u.2.1 p e { frames := R.frames - 1, cells := R.cells - (h.length - n0), slots := R.slots - (mv_sz cl h - z0), locals := R.locals - 34 } ((T.setVm vm₁).calling (F0 m pc ls u.2.2.2) mk u.2.2.1.toArray) mk u.2.2.1.toArray methk ck := by
    refine ⟨hx, htr, fun w hw => mv_word_at hW' (hok.2.1 w hw) (hts w hw), hK.moved hal, ?_, hsb, ?_, ?_, ?_, g4, g5, g6, g7, g8, ?_, ?_⟩
    · rw [hhp]
      exact (hX.moved hal).kept (hF.1 _ hsb)
    · rw [hhp]
      exact hZ.moved hal hF.1
    · have h9 := X₁.named hnamed
      simpa [State.calling, State.pushFrame, State.setFrames, State.setTop, State.modifyTopJava, State.methodNamed?] using h9
    · rw [hal.method?]; exact g2
    · show d' + 1 ≤ R.frames - 1
      omega
    · show 34 * d' + 56 ≤ R.locals - 34
      omega
  have hpk : (T.setVm vm₁).plainMethod mk := State.plainMethod.of_named hj.2.2.1 (X₁.named hnamed) (by rw [hW.alike.method?]; exact g2)
  have w := ihs (below := .java (F0 m pc ls u.2.2.2) :: below) (n0 := h.length) (z0 := mv_sz cl h) (l := l) C' (hN.moved hal) (H := T.heap) (locs := []) (by exact hR) ⟨fun q hq => by rw [hhp], fun q hq => by cases hq⟩ (mv_in_rel a5) (Nat.le_refl _) (Nat.le_refl _) (by show h1.length - h.length ≤ R.cells - (h.length - n0); omega) (by show mv_sz cl h1 - mv_sz cl h ≤ R.slots - (mv_sz cl h - z0); omega)
  rw [Nat.sub_self, Nat.sub_self, ← lg_entry_eq, ← g5] at w
  obtain ⟨t, st, q9⟩ := mc_in X₁ (f := F0 m pc ls u.2.2.2) rfl (by rw [hml]; exact hls) (by rw [hcode]; exact hd) u.2.2.1.toArray (by rw [hW.alike.method?]; exact g2) g3 g7 hpk (by show R.frames - 1 + 1 ≤ R.frames; omega) (by show 2 * 0 + (u.2.2.2.map fun v => v.category).sum + (ck.maxLocals + 11) + (R.locals - 34) ≤ R.locals; rw [g5]; omega) (by show h.length - n0 + (R.cells - (h.length - n0)) ≤ R.cells; omega) (by show mv_sz cl h - z0 + (R.slots - (mv_sz cl h - z0)) ≤ R.slots; omega) w
  exact ⟨vm₁, mk, t, X₁, q9, fun target hs => hstep target (fun acts => (st acts).trans hs)⟩
end MVN
end
section
section MVO
variable {G : List Cond} {cl : List mv_K} {tys : List FieldType} {asg nc : List (Nat × Nat)} {M : List mv_J} {g : mv_G} {E : mv_E}
theorem mv_chain_no (t : Term) : ∀ (names : List String) (X : String), Cond.isRef t ∉ Bundle.chain0Atoms X names
  | [], X => by simp [Bundle.chain0Atoms, Bundle.passAtoms]
  | Y :: r, X => by
    have ih := mv_chain_no t r Y
    simp only [Bundle.chain0Atoms, List.mem_append, not_or]
    exact ⟨by simp [Bundle.passAtoms], ih⟩
theorem mv_chain_no2 (x y z : String) : ∀ (names : List String) (X : String), Cond.laysStatic x y z ∉ Bundle.chain0Atoms X names
  | [], X => by simp [Bundle.chain0Atoms, Bundle.passAtoms]
  | Y :: r, X => by
    have ih := mv_chain_no2 x y z r Y
    simp only [Bundle.chain0Atoms, List.mem_append, not_or]
    exact ⟨by simp [Bundle.passAtoms], ih⟩
theorem mv_atoms_or {own : String} {ic : Nat} {X : String} {names : List String} {a : Cond} (ha : a ∈ Bundle.ownAtoms0 own ic X names) : a ∈ mv_atoms own ic X names ∨ a = .isRef (.static Bundle.tN "UNASSIGNED_STACK" Bundle.steD) ∨ a = .isRef (.static Bundle.tN "SUPPRESSED_SENTINEL" Bundle.listD) ∨ a = .laysStatic Bundle.tN "UNASSIGNED_STACK" Bundle.steD ∨ a = .laysStatic Bundle.tN "SUPPRESSED_SENTINEL" Bundle.listD := by
  cases a with
  | isRef t =>
    right
    simp only [Bundle.ownAtoms0, List.mem_append] at ha
    rcases ha with (h1 | h1) | h1
    · simp [Bundle.throwableAtoms] at h1
    · exact absurd h1 (mv_chain_no t names X)
    · simp at h1
      rcases h1 with h1 | h1 <;> simp [h1]
  | laysStatic x y z =>
    right
    simp only [Bundle.ownAtoms0, List.mem_append] at ha
    rcases ha with (h1 | h1) | h1
    · simp [Bundle.throwableAtoms] at h1
      rcases h1 with ⟨rfl, rfl, rfl⟩ | ⟨rfl, rfl, rfl⟩ <;> simp
    · exact absurd h1 (mv_chain_no2 x y z names X)
    · simp at h1
  | _ => exact Or.inl (List.mem_filter.mpr ⟨ha, rfl⟩)
theorem mv_z_word {C n d : String} {v : Value} {A : Nat → Prop} {args : Array Value} {U : State} (hv : mv_ref v = true) (h : va_Z C n d v A U U.heap) : (Cond.isRef (.static C n d)).before args U = true := by
  obtain ⟨cf, kf, fi, f, a, cell, h1, h2, h3, h4, h5, h6, h7, h8⟩ := h
  have he : ∀ o, (Term.static C n d).eval args U o [] U = some v := by
    intro o
    simp [Term.eval, State.fieldNamed?, h1, h2, h4, h5, h6, h7]
  simp only [Cond.before, Cond.holds, Cond.value, he]
  cases v <;> first | rfl | cases hv
theorem mv_same_old {s' U : State} {k n q : Nat} (hsame : s'.sameButNew ({ U with vm := s'.vm } : State) [] k n) (hq : q < s'.heap.size) : U.heap[q]? = s'.heap[q]? := by
  have h0 : s'.heap[q]? = some s'.heap[q] := Array.getElem?_eq_getElem hq
  obtain ⟨c', h1, h2, h3, h4⟩ := hsame.2.2.2.2.2 q _ h0
  have h1' : U.heap[q]? = some c' := h1
  rw [h1', h0, h2]
  congr 1
  have hsl : c'.slots = s'.heap[q].slots := Array.ext_getElem? (fun i => h4 i (by simp))
  rw [hsl]
set_option maxHeartbeats 4000000 in
/-- a new exception is made and thrown; nothing here takes it -/
theorem mw_throw {p : Program} {l : Launch} {e : Env} {R : Room} {s : State} {m : MethodId} {args : Array Value} {below : List Frame} {meth : Method} {c : Code} {H : Heap} {locs : List Loc} {ls : Array Slot} {d n0 z0 pc len ci : Nat} {S : List Value} {q : mv_J} {h : mv_H} {real : Instr} {K : mv_K} (hok : mv_OK cl tys asg M G) (C : mv_ctx cl tys G g E d q p e R s m args meth c) (hR : mv_rel cl g E.1 h H) (hF : mv_fr E.1 s.heap H locs) (hls : ls.size = mj_n q) (hd5 : 5 ≤ d)
    (hn0 : n0 ≤ h.length) (hz0 : z0 ≤ mv_sz cl h) (hK : cl[ci]? = some K) (hr1 : h.length + 1 - n0 ≤ R.cells) (hr2 : mv_sz cl h + 6 - z0 ≤ R.slots) (hS : (S.map fun v => v.category).sum ≤ 24) (hdec : decode (mj_b q) pc = .ok (real, len)) (hrow : mv_row cl tys G M q pc len real (.instanceof ci)) :
    W p l e R s m args below meth c H locs (h.length - n0) (mv_sz cl h - z0) (mv_End cl g E.1 (h ++ [.inr (ci, mv_def K)]) s below (h.length + 1 - n0) (mv_sz cl h + 6 - z0) (.inr (E.1 + h.length))) (F0 m pc ls S) := by
  obtain ⟨hx, htr, hts, hKn, hX, hsb, hZ, hnm, hmeth, hcode, hml, hret, hlocks, htab, hfr, hlo⟩ := id C
  obtain ⟨idx, ic, r, names, rfl, rfl, hr, hr6, hr0, hh0, hd3, hd4, hd7, w1, w2, hnl, hft, hfts, hat⟩ := hrow
  cases Option.some.inj (hr.symm.trans hK)
  have hown := findClass_of_methodNamed hnm
  intro T hT X
  have X0 := mv_rebase X (by omega) (by omega)
  have hal : s.vm.Alike (T.setFrames (.invoking m args :: below)).vm := X.warmed.alike
  have hts' : ∀ w ∈ G, w.before args (T.setFrames (.invoking m args :: below)) = true := fun w hw => mv_word_at (U := T.setFrames (.invoking m args :: below)) X.warmed (hok.2.1 w hw) (hts w hw)
  have hown' : (T.setFrames (.invoking m args :: below)).vm.findClass (mj_y q).cls = some m.cls := by rw [hal.findClass]; exact hown
  have hZ' : mv_zs E (T.setFrames (.invoking m args :: below)) T.heap := hZ.moved hal (fun z hz => by rw [hT]; exact hF.1 z hz)
  have hatoms : ∀ a ∈ Bundle.ownAtoms0 (mj_y q).cls ic K.1 names, a.before args (T.setFrames (.invoking m args :: below)) = true := by
    intro a ha
    rcases mv_atoms_or ha with h1 | rfl | rfl | rfl | rfl
    · exact hts' a (hat a h1)
    · obtain ⟨-, ⟨v, hv, z1⟩, -⟩ := hZ'
      exact mv_z_word hv z1
    · obtain ⟨-, -, v, hv, z1⟩ := hZ'
      exact mv_z_word hv z1
    · exact hZ'.1.2.1.word
    · exact hZ'.1.2.2.word
  have hins : (Cond.instantiable K.1 6).before args (T.setFrames (.invoking m args :: below)) = true := hatoms _ (by simp [Bundle.ownAtoms0])
  have hKn' := (hKn.1 _ _ hr).2.1
  have w : W p l e { frames := R.frames, cells := R.cells - (h.length - n0), slots := R.slots - (mv_sz cl h - z0), locals := R.locals } (T.setFrames (.invoking m args :: below)) m args below meth c T.heap [] 0 0 (fun U => U.status = .running ∧ Ended U below (.threw T.heap.size) ∧ (T.setFrames (.invoking m args :: below)).WarmedH U.vm ∧ (T.setFrames (.invoking m args :: below)).sameButNew ({ U with vm := (T.setFrames (.invoking m args :: below)).vm } : State) [] 1 6 ∧ ∃ ce, U.heap[T.heap.size]? = some ce ∧ (T.setFrames (.invoking m args :: below)).vm.findClass K.1 = some ce.cls ∧ ce.vm = .none) (F0 m pc ls S) := by
    refine W.newc hx hcode hown' (hts' _ w1) hins (hts' _ w2) rfl hdec (by show 0 + 1 ≤ R.cells - (h.length - n0); omega) (by show 0 + 6 ≤ R.slots - (mv_sz cl h - z0); omega) (fun cC kC g1 g2 g3 g4 => ?_)
    refine W.eq (g2 := F0 m (pc + 3) ls (.ref T.heap.size :: S)) rfl ?_
    refine lv_dup hx hcode hd3 rfl ?_
    intro T1 hT1 X1
    obtain ⟨U, st, hrun, hend, hWU, hsame, ce, hce, hoc⟩ := X1.ctorThrow0 hx htr (own := (mj_y q).cls) (cls := K.1) (names := names) (ic := ic) hown' hft hfts hatoms (fun x hx => by cases hx) g1 g2 (a := T.heap.size) (by rw [hT1]; simp) (Nat.le_refl _) (g := F0 m (pc + 4) ls (.ref T.heap.size :: .ref T.heap.size :: S)) rfl (by rw [hml]; exact hls) rfl rfl (rest := S) rfl (by rw [hcode]; exact hd4) (by rw [hcode]; exact hd7) (fun z hz => by rw [htab, hh0] at hz; cases hz) (by show names.length + 3 < R.frames; omega) (by show 2 * 0 + ((Value.ref T.heap.size :: S).map fun v => v.category).sum + (13 * (names.length + 1) + 41) ≤ R.locals; rw [List.map_cons, List.sum_cons, show (Value.ref T.heap.size).category = 1 from rfl]; omega) hlocks
    exact ⟨U, st, hrun, hend, hWU, hsame, ce, hce, hoc.cls, hoc.vm⟩
  obtain ⟨U, st, hrun, hend, hWU, hsame, ce, hce, hcc, hcv⟩ := w T rfl X0
  refine ⟨U, st, locs, ?_, ?_, hrun, ?_, State.WarmedH.trans X.warmed hWU, ?_⟩
  · have hRT : mv_rel cl g E.1 h T.heap := by rw [hT]; exact hR
    have hsz1 : T.heap.size ≤ U.heap.size ∧ U.heap.size ≤ T.heap.size + 1 := ⟨hsame.2.1, hsame.2.2.1⟩
    have hsz2 : T.heap.size < U.heap.size := (Array.getElem?_eq_some_iff.mp hce).1
    refine hRT.push ⟨K, hr, ce, hce, ?_, hcv, fun k hk => by rw [hr0] at hk; omega⟩ (by omega) (fun z hz => mv_same_old (s' := T.setFrames (.invoking m args :: below)) hsame hz)
    rw [hal.findClass] at hcc
    exact (Option.some.inj (hKn'.symm.trans hcc)).symm
  · refine ⟨fun z hz => ?_, hF.2⟩
    have hzT : z < T.heap.size := by rw [hT, hR.1]; omega
    rw [mv_same_old (s' := T.setFrames (.invoking m args :: below)) hsame hzT]
    show T.heap[z]? = _
    rw [hT]
    exact hF.1 z hz
  · have e9 : T.heap.size = E.1 + h.length := by rw [hT]; exact hR.1
    rw [← e9]
    exact hend
  · have h7 : T.sameButNew (U.setVm T.vm) [] 1 6 := by
      obtain ⟨q1, q2, q3, q4, q5, q6⟩ := hsame
      refine ⟨?_, q2, q3, q4, q5, q6⟩
      rw [State.setFrames_setFrames] at q1
      exact q1
    have h8 := X.same.trans (h7.setVm s.vm)
    rw [List.append_nil] at h8
    rw [show h.length + 1 - n0 = h.length - n0 + 1 by omega, show mv_sz cl h + 6 - z0 = mv_sz cl h - z0 + 6 by omega]
    exact h8
end MVO
end
section
section MVC
variable {G : List Cond} {cl : List mv_K} {tys : List FieldType} {asg nc : List (Nat × Nat)} {M : List mv_J} {g : mv_G} {E : mv_E}
section
variable {e : Env} {s : State} {f : JFrame} {a : Addr} {d : Bool} {acts : List Action} {Q : Handler → Pre} {P : CtlPost}
/-- a clause's class is looked up, cold or warm -/
theorem mf_class {x : ExceptionTableEntry} {t : List ExceptionTableEntry} {c : ClassId} {cell : Cell} {vm' : Vm} (hx : covers x f.pc = true) (h0 : x.catchType ≠ 0) (hg : (Jvm.resolveClass f.method.cls x.catchType).Gives e.toSetting s.vm (.ok c) vm') (hsz : vm'.classes.size ≤ s.vm.classes.size)
    (hcell : s.heap[a]? = some cell) (hobj : ∀ k, cell.vm ≠ .statics k) (hk : ∃ k, vm'.classes[cell.cls]? = some k) (hc : ∃ k, vm'.classes[c]? = some k) :
    wp (findHandler.go f a (x :: t)) Q P e d acts s ↔ if vm'.assignable cell.cls c = true then Q (.found x.handlerPc) d acts (s.setVm vm') else wp (findHandler.go f a t) Q P e d acts (s.setVm vm') := by
  simp only [covers] at hx
  obtain ⟨ha, ht⟩ := hg.op (op := VmOp.resolveClass f.method.cls x.catchType) rfl
  cases hfit : vm'.assignable cell.cls c <;>
    simp [findHandler.go, hx, h0, ha, ht, hsz, hcell, hobj, hk, hc, hfit, VmOp.dirties, VmOp.acts]
end
/-- into a handler; the clauses' classes have been looked up on the way -/
theorem mv_caught {tb : Tables} {e : Env} {s target : State} {f : JFrame} {c : Code} {below : List Frame} {a : Addr} {vm' : Vm} {pc : Nat} (h : At s f.method c below)
    (hfind : ∀ (Q : Handler → Pre) (P : CtlPost) (d : Bool) (acts : List Action), wp (findHandler f a) Q P e d acts ((s.setTop f).pushFrame (.throwing a)) ↔ Q (.found pc) d acts (((s.setTop f).pushFrame (.throwing a)).setVm vm'))
    (hrest : Steps tb e below ((s.setVm vm').setTop { f with pc := pc, stack := [.ref a] }) target) : Steps tb e below ((s.setTop f).pushFrame (.throwing a)) target := by
  obtain ⟨hgo, hw⟩ := h.throwing a
  refine Steps.head hgo hw ?_
  have h1 : (stepThrowing e ((s.setTop f).pushFrame (.throwing a)) a (.java f :: s.frames.tail)).Is ((((s.setTop f).pushFrame (.throwing a)).setVm vm').setFrames (.java { f with pc := pc, stack := [.ref a] } :: s.frames.tail)) [] := by
    simp only [stepThrowing, searchFrame, vmDo]
    generalize hr : Sem.go _ e false [] ((s.setTop f).pushFrame (.throwing a)) = res
    obtain ⟨as, rfl, ha⟩ := Sem.eq_ok_of hr (a := Handler.found pc) (s' := ((s.setTop f).pushFrame (.throwing a)).setVm vm') (acts' := []) (by simp [hfind])
    exact ⟨rfl, ha⟩
  rw [stepThread_throwing (frames_entered h.top _), h1.1]
  obtain ⟨g₀, hg⟩ := Option.isSome_iff_exists.mp h.top
  obtain ⟨r, hr⟩ := State.topJava?_eq_some.mp hg
  have hr' : (s.setVm vm').frames = .java g₀ :: r := hr
  rw [State.setTop_of_frames _ hr'] at hrest
  rw [State.pushFrame, State.setTop_of_frames _ hr, State.setFrames_setFrames, hr]
  have e9 : ∀ X : List Frame, (s.setFrames X).setVm vm' = (s.setVm vm').setFrames X := fun _ => rfl
  rw [e9, State.setFrames_setFrames]
  exact hrest
theorem mv_seek_w {e : Env} {f : JFrame} {a : Addr} {s : State} {args : Array Value} {own : String} {ci pc' : Nat} {r0 : mv_K} {cell : Cell} (hN : mv_nk nc cl s) (hKn : mv_kn cl tys g s) (hts : ∀ w ∈ G, w.before args s = true) (hpl : e.platform.magicAccessors = ({} : Platform).magicAccessors) (hown : s.vm.findClass own = some f.method.cls) (hr0 : cl[ci]? = some r0) (hcls : cell.cls = g.1 ci) (hobj : cell.vm.isStatics = false) :
    ∀ (hh hr : List (Nat × Nat × Nat × Nat)), hh.length = hr.length → (∀ (i : Nat) (x y : Nat × Nat × Nat × Nat), hh[i]? = some x → hr[i]? = some y → mv_hok cl G own x y) → mv_seek nc ci f.pc hr = some pc' → ∀ (U : State), s.WarmedH U.vm → U.heap[a]? = some cell →
      ∃ vm', s.WarmedH vm' ∧ ∀ (Q : Handler → Pre) (P : CtlPost) (d : Bool) (acts : List Action), wp (findHandler.go f a (tableOf hh)) Q P e d acts U ↔ Q (.found pc') d acts (U.setVm vm') := by
  intro hh
  induction hh with
  | nil =>
    intro hr hlen hok hs U hW hc
    cases hr with
    | nil => cases hs
    | cons y r => simp at hlen
  | cons x t ih =>
    intro hr hlen hok hs U hW hc
    cases hr with
    | nil => simp at hlen
    | cons y r =>
      have hlen' : t.length = r.length := by simpa using hlen
      have hok' : ∀ (i : Nat) (x y : Nat × Nat × Nat × Nat), t[i]? = some x → r[i]? = some y → mv_hok cl G own x y := fun i x y h1 h2 => hok (i + 1) x y (by simpa using h1) (by simpa using h2)
      obtain ⟨o1, o2, o3, o4, ry, hry, hw⟩ := hok 0 x y rfl rfl
      have htab : tableOf (x :: t) = ⟨x.1, x.2.1, x.2.2.1, x.2.2.2⟩ :: tableOf t := rfl
      rw [htab]
      unfold mv_seek at hs
      split at hs
      · next hcov =>
        have hcv : covers (⟨x.1, x.2.1, x.2.2.1, x.2.2.2⟩ : ExceptionTableEntry) f.pc = true := by
          simp only [covers, Bool.and_eq_true, decide_eq_true_eq]
          rw [o1, o2]; exact hcov
        obtain ⟨c', hc', hcl⟩ := Cond.classLink_spec hown (hts _ hw) e.platform hpl
        have hcl₀ := hW.classLinks hcl
        obtain ⟨dk, _, _, kt, hd, _, _, _, _, hkt, _, hopen⟩ := hcl.here
        have hW' : s.WarmedH (U.vm.noted f.method.cls x.2.2.2 (.cls c')) := hW.noted hd hopen (State.rightAt_cls hcl)
        have hyC := (hKn.1 _ _ hry).2.1
        have h0C := (hKn.1 _ _ hr0).2
        cases Option.some.inj (hc'.symm.trans hyC)
        obtain ⟨k0, hk0, -⟩ := h0C.2
        obtain ⟨k0', hk0', -⟩ := hW'.alike.2.2 _ _ hk0
        obtain ⟨kt', hkt', -⟩ := hW'.alike.2.2 _ _ hkt
        have key := fun (Q : Handler → Pre) (P : CtlPost) (d : Bool) (acts : List Action) => mf_class (e := e) (s := U) (f := f) (a := a) (d := d) (acts := acts) (Q := Q) (P := P) (t := tableOf t) hcv o4 (resolveClass_links e.toSetting hcl₀) (by no_record) hc (VmData.noStatics_of hobj) ⟨k0', by rw [hcls]; exact hk0'⟩ ⟨kt', hkt'⟩
        split at hs
        · next heq =>
          cases hs
          refine ⟨_, hW', fun Q P d acts => ?_⟩
          rw [key, if_pos (by
            rw [hW'.alike.assignable, hcls, heq]
            exact va_assign h0C)]
          rw [o3]
        · split at hs
          · next hne hnc =>
            obtain ⟨rx, ry2, n1, n2, n3⟩ := hN ci y.2.2.2 (List.contains_iff_mem.mp hnc)
            cases Option.some.inj (n1.symm.trans hr0)
            cases Option.some.inj (n2.symm.trans hry)
            obtain ⟨cc, ct, f1, f2, f3⟩ := n3
            cases Option.some.inj (f1.symm.trans h0C.1)
            cases Option.some.inj (f2.symm.trans hyC)
            obtain ⟨vm2, hW2, hgo⟩ := ih r hlen' hok' hs (U.setVm (U.vm.noted f.method.cls x.2.2.2 (.cls (g.1 y.2.2.2)))) hW' hc
            refine ⟨vm2, hW2, fun Q P d acts => ?_⟩
            rw [key, if_neg (by rw [hW'.alike.assignable, hcls, f3]; decide), hgo]
            rfl
          · cases hs
      · next hcov =>
        have hcv : covers (⟨x.1, x.2.1, x.2.2.1, x.2.2.2⟩ : ExceptionTableEntry) f.pc = false := by
          cases h9 : covers (⟨x.1, x.2.1, x.2.2.1, x.2.2.2⟩ : ExceptionTableEntry) f.pc with
          | false => rfl
          | true =>
            simp only [covers, Bool.and_eq_true, decide_eq_true_eq] at h9
            rw [o1, o2] at h9
            exact absurd h9 hcov
        obtain ⟨vm2, hW2, hgo⟩ := ih r hlen' hok' hs U hW hc
        exact ⟨vm2, hW2, fun Q P d acts => by rw [W.findHandler_go_skip hcv, hgo]⟩
/-- the handler -/
theorem mw_catch {p : Program} {l : Launch} {e : Env} {R : Room} {s : State} {m : MethodId} {args : Array Value} {below : List Frame} {meth : Method} {c : Code} {T : State} {locs : List Loc} {cells slots d pc' a : Nat} {q : mv_J} {h : mv_H} {f : JFrame} (hok : mv_OK cl tys asg M G) (hj : mv_jok cl G q) (hN : mv_nk nc cl s) (C : mv_ctx cl tys G g E d q p e R s m args meth c) (X : Stand p l e R s m args below meth c T locs cells slots) (hR : mv_rel cl g E.1 h T.heap) (hg : f.method = m) (hfind : mv_find nc E.1 q f.pc h a = some pc') :
    ∃ T' : State, T'.heap = T.heap ∧ Stand p l e R s m args below meth c T' locs cells slots ∧ ∀ target, Steps p.tables e below (T'.setTop { f with pc := pc', stack := [.ref a] }) target → Steps p.tables e below ((T.setTop f).pushFrame (.throwing a)) target := by
  obtain ⟨hx, htr, hts, hKn, hX, hsb, hZ, hnm, hmeth, hcode, hml, hret, hlocks, htab, hfr, hlo⟩ := id C
  have hown := findClass_of_methodNamed hnm
  have hpl : e.platform.magicAccessors = ({} : Platform).magicAccessors := by rw [X.admits.platform]
  unfold mv_find at hfind
  split at hfind
  · next ci hci =>
    obtain ⟨V, hlk⟩ := mv_cof_of hci
    obtain ⟨r0, hr0, cell, c1, c2, c3, -⟩ := hR.at hlk
    obtain ⟨vm', hW', hgo⟩ := mv_seek_w (e := e) (f := f) (a := a) (s := s) hN hKn hts hpl (by rw [hg]; exact hown) hr0 c2 (by rw [c3]; rfl) (mj_hh q) (mj_hr q) hj.2.2.2.2.2.1 hj.2.2.2.2.2.2 hfind ((T.setTop f).pushFrame (.throwing a)) (by rw [Stand.throwing_vm]; exact X.warmed) (by rw [Stand.throwing_heap]; exact c1)
    have X' : Stand p l e R s m args below meth c (T.setVm vm') locs cells slots := X.noted hW'
    refine ⟨T.setVm vm', rfl, X', fun target hs => ?_⟩
    subst hg
    refine mv_caught X.here (vm' := vm') ?_ hs
    intro Q E d acts
    rw [W.findHandler_eq (meth := meth) (code := c) (by rw [Stand.throwing_vm]; exact X.method') X.code, htab]
    exact hgo Q E d acts
  · cases hfind
end MVC
end
section
section MVS2
variable {G : List Cond} {cl : List mv_K} {tys : List FieldType} {asg nc : List (Nat × Nat)} {M : List mv_J} {g : mv_G} {E : mv_E}
set_option maxHeartbeats 8000000 in
theorem mv_sim (hok : mv_OK cl tys asg M G) : ∀ (n d j : Nat) (f : mv_F) (h : mv_H) (r : mv_R) (h' : mv_H), mv_run E cl tys asg nc M n d j f h = some (r, h') → ∀ {q : mv_J}, M[j]? = some q → ∀ {p : Program} {l : Launch} {e : Env} {R : Room} {s : State} {m : MethodId} {args : Array Value} {below : List Frame} {meth : Method} {c : Code} {H : Heap} {locs : List Loc} {ls : Array Slot} {n0 z0 : Nat},
    mv_ctx cl tys G g E d q p e R s m args meth c → mv_nk nc cl s → mv_rel cl g E.1 h H → mv_fr E.1 s.heap H locs → mv_lrel ls (mj_n q) f.2.1 → n0 ≤ h.length → z0 ≤ mv_sz cl h → h'.length - n0 ≤ R.cells → mv_sz cl h' - z0 ≤ R.slots →
    W p l e R s m args below meth c H locs (h.length - n0) (mv_sz cl h - z0) (mv_End cl g E.1 h' s below (h'.length - n0) (mv_sz cl h' - z0) r) (F0 m f.1 ls f.2.2) := by
  intro n
  induction n with
  | zero => intro d j f h r h' hr; cases hr
  | succ n ih =>
    intro d j f h r h' hr q hq p l e R s m args below meth c H locs ls n0 z0 C hN hR hF hl hn0 hz0 hr1 hr2
    obtain ⟨hx, htr, hts, hK, hX, hsb, hZ, hnm, hmeth, hcode, hml, hret, hlocks, htab, hfr, hlo⟩ := id C
    have hown := findClass_of_methodNamed hnm
    have hin : meth.name = (mj_y q).name := (name_of_methodNamed hnm hmeth).1
    rw [mv_run] at hr
    simp only [hq] at hr
    split at hr
    · cases hr
    next x hx1 =>
    obtain ⟨len, real, i⟩ := x
    obtain ⟨hdec, hrow⟩ := (hok.2.2 _ _ hq).2 _ _ _ _ hx1
    have hjok := (hok.2.2 _ _ hq).1
    dsimp only at hr
    split at hr
    · next v hv =>
      cases hr
      have hd1 : decode (mj_b q) f.1 = .ok (i, 1) := by
        cases i with
        | return_ =>
          obtain ⟨e1, e2, -⟩ := hrow
          obtain ⟨rfl, rfl⟩ := mv_abs_ret e1 e2 (by simp)
          exact hdec
        | ireturn =>
          obtain ⟨e1, e2, -⟩ := hrow
          obtain ⟨rfl, rfl⟩ := mv_abs_ret e1 e2 (by simp)
          exact hdec
        | lreturn =>
          obtain ⟨e1, e2, -⟩ := hrow
          obtain ⟨rfl, rfl⟩ := mv_abs_ret e1 e2 (by simp)
          exact hdec
        | areturn =>
          obtain ⟨e1, e2, -⟩ := hrow
          obtain ⟨rfl, rfl⟩ := mv_abs_ret e1 e2 (by simp)
          exact hdec
        | _ => exact absurd hv (by simp [mv_ret])
      exact mv_ret_w hx hcode hret hlocks hd1 hv hR hF
    split at hr
    · next z hz =>
      split at hr
      rotate_left
      · cases hr
      next hd5 =>
      cases hr
      unfold mv_thr at hz
      split at hz
      · next ci hvv =>
        split at hz
        · next K hK1 =>
          split at hz
          · next hS =>
            cases hz
            obtain ⟨_, _, r6, _, _, _, g3, g4, _⟩ := id hrow
            cases Option.some.inj (g3.symm.trans hK1)
            have e1 : mv_cz cl (Sum.inr (ci, mv_def K) : mv_C) = 6 := by simp only [mv_cz, hK1, g4]
            rw [List.length_append, List.length_singleton] at hr1 ⊢
            rw [mv_sz_app, e1] at hr2 ⊢
            exact mw_throw hok C hR hF hl.1 hd5 hn0 hz0 hK1 hr1 hr2 hS hdec hrow
          · cases hz
        · cases hz
      · cases hz
    split at hr
    · next u hu =>
      split at hr
      · cases hr
      · next d' =>
        obtain ⟨a1, a2, a3, a4, a5, a6⟩ := mv_inv_of hu
        have hj' := (hok.2.2 _ _ a1).1
        split at hr
        · cases hr
        · next v h1 h1e =>
          have mo1 := mv_run_mono _ _ _ _ _ _ _ h1e
          have mo2 := mv_run_mono _ _ _ _ _ _ _ hr
          intro T hT X
          have hR' : mv_rel cl g E.1 h T.heap := by rw [hT]; exact hR
          have hF' : mv_fr E.1 s.heap T.heap locs := by rw [hT]; exact hF
          obtain ⟨vm₁, mk, t, X₁, q9, st9⟩ := mv_enter hok C hN hR' hF' hl.1 hn0 hz0 mo1.1 mo1.2 (by omega) (by omega) hdec hrow hu X (fun C2 N2 R2 F2 L2 i1 i2 i3 i4 => ih _ _ _ _ _ _ h1e a1 C2 N2 R2 F2 L2 i1 i2 i3 i4)
          obtain ⟨T1, locs1, X1, hR1, hF1, rfl⟩ := mc_back X₁ (f := F0 m f.1 ls u.2.2.2) rfl (by rw [hcode]; exact hdec) hF' q9
          have X1' : Stand p l e R s m args below meth c T1 locs1 (h1.length - n0) (mv_sz cl h1 - z0) := by
            rw [show h1.length - n0 = h.length - n0 + (h1.length - h.length) by omega, show mv_sz cl h1 - z0 = mv_sz cl h - z0 + (mv_sz cl h1 - mv_sz cl h) by omega]
            exact X1
          obtain ⟨t2, st2, q2⟩ := ih _ _ _ _ _ _ hr hq C hN hR1 hF1 hl (by omega) (by omega) hr1 hr2 T1 rfl X1'
          exact ⟨t2, st9 t2 st2, q2⟩
        · next a h1 h1e =>
          have mo1 := mv_run_mono _ _ _ _ _ _ _ h1e
          have mo2 : h1.length ≤ h'.length ∧ mv_sz cl h1 ≤ mv_sz cl h' := by
            split at hr
            · cases hr; exact ⟨Nat.le_refl _, Nat.le_refl _⟩
            · split at hr
              · exact mv_run_mono _ _ _ _ _ _ _ hr
              · cases hr
          intro T hT X
          have hR' : mv_rel cl g E.1 h T.heap := by rw [hT]; exact hR
          have hF' : mv_fr E.1 s.heap T.heap locs := by rw [hT]; exact hF
          obtain ⟨vm₁, mk, t, X₁, q9, st9⟩ := mv_enter hok C hN hR' hF' hl.1 hn0 hz0 mo1.1 mo1.2 (by omega) (by omega) hdec hrow hu X (fun C2 N2 R2 F2 L2 i1 i2 i3 i4 => ih _ _ _ _ _ _ h1e a1 C2 N2 R2 F2 L2 i1 i2 i3 i4)
          obtain ⟨T1, locs1, X1, hR1, hF1, rfl⟩ := mc_thrown X₁ (f := F0 m f.1 ls u.2.2.2) rfl hF' q9
          have X1' : Stand p l e R s m args below meth c T1 locs1 (h1.length - n0) (mv_sz cl h1 - z0) := by
            rw [show h1.length - n0 = h.length - n0 + (h1.length - h.length) by omega, show mv_sz cl h1 - z0 = mv_sz cl h - z0 + (mv_sz cl h1 - mv_sz cl h) by omega]
            exact X1
          split at hr
          · next hnil =>
            cases hr
            have hh0 : mj_hh q = [] := List.eq_nil_of_length_eq_zero (by rw [hjok.2.2.2.2.2.1, hnil]; rfl)
            obtain ⟨t2, st2, q2⟩ := mc_leave X1' a (f := F0 m f.1 ls u.2.2.2) rfl rfl rfl hlocks (fun z hz => by rw [htab, hh0] at hz; cases hz) hR1 hF1
            exact ⟨t2, st9 t2 st2, q2⟩
          · split at hr
            · next pc' hpc =>
              obtain ⟨T2, hT2, X2, st2⟩ := mw_catch hok hjok hN C X1' hR1 (f := F0 m f.1 ls u.2.2.2) rfl hpc
              obtain ⟨t3, st3, q3⟩ := ih _ _ _ _ _ _ hr hq C hN (H := T2.heap) (by rw [hT2]; exact hR1) (by rw [hT2]; exact hF1) hl (by omega) (by omega) hr1 hr2 T2 rfl X2
              exact ⟨t3, st9 t3 (st2 t3 st3), q3⟩
            · cases hr
    · split at hr
      · next z hz =>
        obtain ⟨f2, h2⟩ := z
        dsimp only at hr hz
        have mo1 := mv_step_mono hz
        have mo2 := mv_run_mono _ _ _ _ _ _ _ hr
        have hrow2 : mv_lnk cl tys G (mj_y q) f.1 len real i := by
          cases i with
          | invokestatic j2 => exact absurd hz (by simp [mv_step, mv_pure])
          | invokevirtual j2 => exact absurd hz (by simp [mv_step, mv_pure])
          | invokespecial j2 => exact absurd hz (by simp [mv_step, mv_pure])
          | instanceof j2 => exact absurd hz (by simp [mv_step, mv_pure])
          | _ => exact hrow
        refine mv_step_w hx hcode hml hts hok.1 hown hin hK hX hZ.1.1 hsb (by omega) (by omega) hdec hrow2 hz hl hn0 hz0 (by omega) (by omega) hR hF (fun H1 locs1 ls1 hR1 hF1 hl1 => ?_)
        exact ih _ _ _ _ _ _ hr hq C hN hR1 hF1 hl1 (by omega) (by omega) hr1 hr2
      · cases hr
end MVS2
end
section
/-! the tables are checked by a program; what it says is enough -/
section MVB
variable {cl : List mv_K} {tys : List FieldType} {asg : List (Nat × Nat)} {M : List mv_J} {Tb : List Cond}
def mb_at (Tb : List Cond) (k : Nat) (w : Cond) : Bool := decide (Tb[k]? = some w) && mv_gw w
theorem mb_mem {k : Nat} {w : Cond} (h : mb_at Tb k w = true) : w ∈ Tb.filter mv_gw := by
  simp only [mb_at, Bool.and_eq_true, decide_eq_true_eq] at h
  exact List.mem_filter.mpr ⟨List.mem_of_getElem? h.1, h.2⟩
def mb_all (Tb : List Cond) : List Nat → List Cond → Bool
  | k :: ks, w :: ws => mb_at Tb k w && mb_all Tb ks ws
  | _, [] => true
  | [], _ :: _ => false
theorem mb_all_mem : ∀ {ks : List Nat} {ws : List Cond}, mb_all Tb ks ws = true → ∀ w ∈ ws, w ∈ Tb.filter mv_gw
  | k :: ks, v :: ws, h, w, hw => by
    simp only [mb_all, Bool.and_eq_true] at h
    rcases List.mem_cons.mp hw with rfl | hw
    · exact mb_mem h.1
    · exact mb_all_mem h.2 w hw
  | _, [], _, w, hw => by cases hw
  | [], v :: ws, h, _, _ => by cases h
/-- where a field's link stands, and where it is said that two names are one field -/
def mb_fl (cl : List mv_K) (Tb : List Cond) (own : String) (idx n : Nat) (ks : List Nat) : Bool := match cl[n / 64]? with
  | some r => decide (n % 64 < r.2.2.1) && (match ks with
    | [k1] => mb_at Tb k1 (.fieldLink own idx (r.2.1 (n % 64)).1 (r.2.1 (n % 64)).2.1 (r.2.1 (n % 64)).2.2.1)
    | [k1, k2] => (match Tb[k2]? with
      | some (.sameField ref o nm ds) => mb_at Tb k1 (.fieldLink own idx ref (r.2.1 (n % 64)).2.1 (r.2.1 (n % 64)).2.2.1) && mb_at Tb k2 (.sameField ref (r.2.1 (n % 64)).1 (r.2.1 (n % 64)).2.1 (r.2.1 (n % 64)).2.2.1)
      | _ => false)
    | _ => false)
  | none => false
theorem mb_fl_ok {own : String} {idx n : Nat} {ks : List Nat} (h : mb_fl cl Tb own idx n ks = true) : mv_fl cl (Tb.filter mv_gw) own idx n := by
  unfold mb_fl at h
  split at h
  · next r hr =>
    rw [Bool.and_eq_true, decide_eq_true_eq] at h
    obtain ⟨h1, h2⟩ := h
    split at h2
    · exact ⟨r, hr, h1, _, mb_mem h2, Or.inl rfl⟩
    · split at h2
      · rw [Bool.and_eq_true] at h2
        exact ⟨r, hr, h1, _, mb_mem h2.1, Or.inr (mb_mem h2.2)⟩
      · cases h2
    · cases h2
  · cases h
def mb_nm : List String := ["java/lang/RuntimeException", "java/lang/Exception"]
def mb_row (cl : List mv_K) (tys : List FieldType) (Tb : List Cond) (M : List mv_J) (q : mv_J) (pc len : Nat) (real i : Instr) (ks : List Nat) : Bool := match i with
  | .getfield n => (match real with
    | .getfield idx => decide (len = 3) && mb_fl cl Tb (mj_y q).cls idx n ks
    | _ => false)
  | .putfield n => (match real with
    | .putfield idx => decide (len = 3) && mb_fl cl Tb (mj_y q).cls idx n ks && (match cl[n / 64]? with
      | some r => !(r.2.1 (n % 64)).2.2.2 || (decide ((mj_y q).name = "<init>") && decide ((r.2.1 (n % 64)).1 = (mj_y q).cls))
      | none => false)
    | _ => false)
  | .new ci => (match real, cl[ci]? with
    | .new idx, some r => decide (len = 3) && mb_all Tb ks [.classLink (mj_y q).cls idx r.1, .instantiable r.1 r.2.2.2.1, .initialized r.1]
    | _, _ => false)
  | .newarray at_ => decide (real = .newarray at_) && decide (len = 2) && decide (tys[mv_kd at_]? = some (newarray.typeOf at_)) && mb_all Tb ks [.arrayClass (newarray.typeOf at_)]
  | .anewarray t => (match real, tys[t]? with
    | .anewarray idx, some (.object C) => decide (len = 3) && mb_all Tb ks [.classLink (mj_y q).cls idx C, .arrayOver (.object C)]
    | _, _ => false)
  | .arraylength => decide (real = .arraylength) && decide (len = 1)
  | .iaload => decide (real = .iaload) && decide (len = 1)
  | .baload => decide (real = .baload) && decide (len = 1)
  | .laload => decide (real = .laload) && decide (len = 1)
  | .aaload => decide (real = .aaload) && decide (len = 1)
  | .iastore => decide (real = .iastore) && decide (len = 1)
  | .bastore => decide (real = .bastore) && decide (len = 1)
  | .lastore => decide (real = .lastore) && decide (len = 1)
  | .aastore => decide (real = .aastore) && decide (len = 1)
  | .checkcast ci => (match real, cl[ci]? with
    | .checkcast idx, some r => decide (len = 3) && mb_all Tb ks [.classLink (mj_y q).cls idx r.1]
    | _, _ => false)
  | .ldc_w n => (match real with
    | .ldc idx => decide (len = 2) && mb_all Tb ks [.constant (mj_y q).cls idx (Int32.ofNat n)]
    | .ldc_w idx => decide (len = 3) && mb_all Tb ks [.constant (mj_y q).cls idx (Int32.ofNat n)]
    | _ => false)
  | .getstatic _ => (match real with
    | .getstatic idx => decide (len = 3) && mb_all Tb ks [.fieldLink (mj_y q).cls idx "java/util/ArrayList" "DEFAULTCAPACITY_EMPTY_ELEMENTDATA" "[Ljava/lang/Object;"]
    | _ => false)
  | .ldc _ => (match real with
    | .ldc idx => decide (len = 2) && mb_all Tb ks [.classLink (mj_y q).cls idx "[Ljava/lang/Object;"]
    | _ => false)
  | .d2i => (match real with
    | .invokevirtual idx => decide (len = 3) && mb_all Tb ks [.methodLink (mj_y q).cls idx mv_gc, .declares mv_gc, .selects "[Ljava/lang/Object;" mv_gc mv_gc, .instanceMethod mv_gc, .native mv_gc]
    | _ => false)
  | .d2l => (match real with
    | .invokestatic idx => decide (len = 3) && mb_all Tb ks [.methodLink (mj_y q).cls idx arraycopyName, .native arraycopyName, .static arraycopyName, .initialized "java/lang/System"]
    | _ => false)
  | .ldc2_w n => (match real with
    | .ldc2_w idx => decide (len = 3) && mb_all Tb ks [.constantLong (mj_y q).cls idx (Int64.ofNat n)]
    | _ => false)
  | .monitorexit => (match real with
    | .invokespecial idx => decide (len = 3) && mb_all Tb ks [.methodLink (mj_y q).cls idx Lib.objectInit, .instanceMethod Lib.objectInit, .code Lib.objectInit ⟨#[0xb1]⟩ 1 none]
    | _ => false)
  | .monitorenter => (match real with
    | .invokestatic idx => decide (len = 3) && mb_all Tb ks [.methodLink (mj_y q).cls idx arraycopyName, .native arraycopyName, .static arraycopyName, .initialized "java/lang/System"]
    | _ => false)
  | .invokestatic j => (match real, M[j]? with
    | .invokestatic idx, some q' => decide (len = 3) && mb_all Tb ks [.methodLink (mj_y q).cls idx (mj_y q'), .static (mj_y q')] && decide ((parseMethodDescriptor (mj_y q').desc).map (fun d => d.parameters.length) = some (mj_a q'))
    | _, _ => false)
  | .invokevirtual j => (match real, M[j]? with
    | .invokevirtual idx, some q' => decide (len = 3) && mb_all Tb ks [.methodLink (mj_y q).cls idx (mj_y q'), .instanceMethod (mj_y q'), .selects (mj_y q').cls (mj_y q') (mj_y q')] && (match cl[mj_k q']? with
      | some r => decide (r.1 = (mj_y q').cls)
      | none => false) && decide ((parseMethodDescriptor (mj_y q').desc).map (fun d => d.parameters.length + 1) = some (mj_a q'))
    | _, _ => false)
  | .invokespecial j => (match real, M[j]? with
    | .invokespecial idx, some q' => decide (len = 3) && (match ks with
      | k :: _ => mb_at Tb k (.methodLink (mj_y q).cls idx (mj_y q')) || mb_at Tb k (.methodLinkNest (mj_y q).cls idx (mj_y q') "PlugTree")
      | [] => false) && mb_all Tb (ks.drop 1) [.instanceMethod (mj_y q'), .code (mj_y q') (mj_b q') (mj_n q') none] && decide ((mj_y q').name = "<init>") && decide ((parseMethodDescriptor (mj_y q').desc).map (fun d => d.parameters.length + 1) = some (mj_a q'))
    | _, _ => false)
  | .instanceof ci => (match real, cl[ci]?, decode (mj_b q) (pc + 4) with
    | .new idx, some r, .ok (.invokespecial ic, 3) => decide (len = 3) && decide (r.2.2.2.1 = 6) && decide (r.2.2.1 = 0) && decide (mj_hh q = []) && decide (decode (mj_b q) (pc + 3) = .ok (.dup, 1)) && decide (decode (mj_b q) (pc + 7) = .ok (.athrow, 1)) && mb_all Tb ks (.classLink (mj_y q).cls idx r.1 :: .initialized r.1 :: mv_atoms (mj_y q).cls ic r.1 mb_nm) && Bundle.fit r.1 && mb_nm.all Bundle.fit
    | _, _, _ => false)
  | i => decide (i = mv_abs pc real) && mv_lok real len && mv_nn i
set_option maxHeartbeats 4000000 in
theorem mb_row_ok {q : mv_J} {pc len : Nat} {real i : Instr} {ks : List Nat} (h : mb_row cl tys Tb M q pc len real i ks = true) : mv_row cl tys (Tb.filter mv_gw) M q pc len real i := by
  have two : ∀ {a b : Prop} [Decidable a] [Decidable b], (decide a && decide b) = true → a ∧ b := by
    intro a b _ _ h
    simpa using h
  cases i with
  | getfield n =>
    simp only [mb_row] at h
    split at h
    · next idx =>
      rw [Bool.and_eq_true, decide_eq_true_eq] at h
      exact ⟨idx, rfl, h.1, mb_fl_ok h.2⟩
    · cases h
  | putfield n =>
    simp only [mb_row] at h
    split at h
    · next idx =>
      simp only [Bool.and_eq_true, decide_eq_true_eq] at h
      obtain ⟨⟨h1, h2⟩, h3⟩ := h
      refine ⟨idx, rfl, h1, mb_fl_ok h2, fun r hr hf => ?_⟩
      rw [hr] at h3
      simp only [hf, Bool.not_true, Bool.false_or, Bool.and_eq_true, decide_eq_true_eq] at h3
      exact h3
    · cases h
  | new ci =>
    simp only [mb_row] at h
    split at h
    · next idx r hr =>
      rw [Bool.and_eq_true, decide_eq_true_eq] at h
      have hm := mb_all_mem h.2
      exact ⟨idx, r, rfl, h.1, hr, hm _ (by simp), hm _ (by simp), hm _ (by simp)⟩
    · cases h
  | newarray at_ =>
    simp only [mb_row, Bool.and_eq_true, decide_eq_true_eq] at h
    obtain ⟨⟨⟨h1, h2⟩, h3⟩, h4⟩ := h
    exact ⟨h1, h2, h3, mb_all_mem h4 _ (by simp)⟩
  | anewarray t =>
    simp only [mb_row] at h
    split at h
    · next idx C hC =>
      rw [Bool.and_eq_true, decide_eq_true_eq] at h
      have hm := mb_all_mem h.2
      exact ⟨idx, C, rfl, h.1, hC, hm _ (by simp), hm _ (by simp)⟩
    · cases h
  | arraylength => exact two h
  | iaload => exact two h
  | baload => exact two h
  | laload => exact two h
  | aaload => exact two h
  | iastore => exact two h
  | bastore => exact two h
  | lastore => exact two h
  | aastore => exact two h
  | checkcast ci =>
    simp only [mb_row] at h
    split at h
    · next idx r hr =>
      rw [Bool.and_eq_true, decide_eq_true_eq] at h
      exact ⟨idx, r, rfl, h.1, hr, mb_all_mem h.2 _ (by simp)⟩
    · cases h
  | ldc_w n =>
    simp only [mb_row] at h
    split at h
    · next idx =>
      rw [Bool.and_eq_true, decide_eq_true_eq] at h
      exact Or.inl ⟨idx, rfl, h.1, mb_all_mem h.2 _ (by simp)⟩
    · next idx =>
      rw [Bool.and_eq_true, decide_eq_true_eq] at h
      exact Or.inr ⟨idx, rfl, h.1, mb_all_mem h.2 _ (by simp)⟩
    · cases h
  | getstatic n =>
    simp only [mb_row] at h
    split at h
    · next idx =>
      rw [Bool.and_eq_true, decide_eq_true_eq] at h
      exact ⟨idx, rfl, h.1, mb_all_mem h.2 _ (by simp)⟩
    · cases h
  | ldc n =>
    simp only [mb_row] at h
    split at h
    · next idx =>
      rw [Bool.and_eq_true, decide_eq_true_eq] at h
      exact ⟨idx, rfl, h.1, mb_all_mem h.2 _ (by simp)⟩
    · cases h
  | d2i =>
    simp only [mb_row] at h
    split at h
    · next idx =>
      rw [Bool.and_eq_true, decide_eq_true_eq] at h
      have hm := mb_all_mem h.2
      exact ⟨idx, rfl, h.1, hm _ (by simp), hm _ (by simp), hm _ (by simp), hm _ (by simp), hm _ (by simp)⟩
    · cases h
  | d2l =>
    simp only [mb_row] at h
    split at h
    · next idx =>
      rw [Bool.and_eq_true, decide_eq_true_eq] at h
      have hm := mb_all_mem h.2
      exact ⟨idx, rfl, h.1, hm _ (by simp), hm _ (by simp), hm _ (by simp), hm _ (by simp)⟩
    · cases h
  | ldc2_w n =>
    simp only [mb_row] at h
    split at h
    · next idx =>
      rw [Bool.and_eq_true, decide_eq_true_eq] at h
      exact ⟨idx, rfl, h.1, mb_all_mem h.2 _ (by simp)⟩
    · cases h
  | monitorexit =>
    simp only [mb_row] at h
    split at h
    · next idx =>
      rw [Bool.and_eq_true, decide_eq_true_eq] at h
      have hm := mb_all_mem h.2
      exact ⟨idx, rfl, h.1, hm _ (by simp), hm _ (by simp), hm _ (by simp)⟩
    · cases h
  | monitorenter =>
    simp only [mb_row] at h
    split at h
    · next idx =>
      rw [Bool.and_eq_true, decide_eq_true_eq] at h
      have hm := mb_all_mem h.2
      exact ⟨idx, rfl, h.1, hm _ (by simp), hm _ (by simp), hm _ (by simp), hm _ (by simp)⟩
    · cases h
  | invokestatic j =>
    simp only [mb_row] at h
    split at h
    · next idx q' hq' =>
      simp only [Bool.and_eq_true, decide_eq_true_eq] at h
      have hm := mb_all_mem h.1.2
      exact ⟨idx, q', rfl, h.1.1, hq', hm _ (by simp), hm _ (by simp), h.2⟩
    · cases h
  | invokevirtual j =>
    simp only [mb_row] at h
    split at h
    · next idx q' hq' =>
      simp only [Bool.and_eq_true, decide_eq_true_eq] at h
      obtain ⟨⟨⟨h1, h2⟩, h3⟩, h4⟩ := h
      have hm := mb_all_mem h2
      split at h3
      · next r hr => exact ⟨idx, q', r, rfl, h1, hq', hm _ (by simp), hm _ (by simp), hm _ (by simp), hr, of_decide_eq_true h3, h4⟩
      · cases h3
    · cases h
  | invokespecial j =>
    simp only [mb_row] at h
    split at h
    · next idx q' hq' =>
      simp only [Bool.and_eq_true, decide_eq_true_eq] at h
      obtain ⟨⟨⟨⟨h1, h0⟩, h2⟩, h3⟩, h4⟩ := h
      have hm := mb_all_mem h2
      refine ⟨idx, q', rfl, h1, hq', ?_, hm _ (by simp), h3, hm _ (by simp), h4⟩
      split at h0
      · rw [Bool.or_eq_true] at h0
        rcases h0 with h0 | h0
        · exact Or.inl (mb_mem h0)
        · exact Or.inr ⟨_, mb_mem h0⟩
      · cases h0
    · cases h
  | instanceof ci =>
    simp only [mb_row] at h
    split at h
    · next idx r ic hr hic =>
      simp only [Bool.and_eq_true, decide_eq_true_eq] at h
      obtain ⟨⟨⟨⟨⟨⟨⟨⟨h1, h2⟩, h3⟩, h4⟩, h5⟩, h6⟩, h7⟩, h8⟩, h9⟩ := h
      have hm := mb_all_mem h7
      exact ⟨idx, ic, r, mb_nm, rfl, h1, hr, h2, h3, h4, h5, hic, h6, hm _ (by simp), hm _ (by simp), by decide, h8, fun n hn => List.all_eq_true.mp h9 n hn, fun w hw => hm w (List.mem_cons_of_mem _ (List.mem_cons_of_mem _ hw))⟩
    · cases h
  | _ =>
    simp only [mb_row, Bool.and_eq_true, decide_eq_true_eq] at h
    exact ⟨h.1.1, h.1.2, h.2⟩
def mb_rows (cl : List mv_K) (tys : List FieldType) (Tb : List Cond) (M : List mv_J) (q : mv_J) : Nat → List (Option (Nat × Instr × Instr × List Nat)) → Bool
  | _, [] => true
  | pc, none :: r => mb_rows cl tys Tb M q (pc + 1) r
  | pc, some x :: r => decide (decode (mj_b q) pc = .ok (x.2.1, x.1)) && mb_row cl tys Tb M q pc x.1 x.2.1 x.2.2.1 x.2.2.2 && mb_rows cl tys Tb M q (pc + 1) r
theorem mb_rows_ok {q : mv_J} : ∀ (rs : List (Option (Nat × Instr × Instr × List Nat))) (pc : Nat), mb_rows cl tys Tb M q pc rs = true → ∀ (k : Nat) (x : Nat × Instr × Instr × List Nat), rs[k]? = some (some x) → decode (mj_b q) (pc + k) = .ok (x.2.1, x.1) ∧ mv_row cl tys (Tb.filter mv_gw) M q (pc + k) x.1 x.2.1 x.2.2.1
  | [], pc, h, k, x, hx => by simp at hx
  | none :: r, pc, h, k, x, hx => by
    cases k with
    | zero => simp at hx
    | succ k =>
      have := mb_rows_ok r (pc + 1) h k x (by simpa using hx)
      rwa [show pc + (k + 1) = pc + 1 + k by omega]
  | some y :: r, pc, h, k, x, hx => by
    simp only [mb_rows, Bool.and_eq_true, decide_eq_true_eq] at h
    cases k with
    | zero =>
      simp only [List.getElem?_cons_zero, Option.some.injEq] at hx
      subst hx
      exact ⟨h.1.1, mb_row_ok h.1.2⟩
    | succ k =>
      have := mb_rows_ok r (pc + 1) h.2 k x (by simpa using hx)
      rwa [show pc + (k + 1) = pc + 1 + k by omega]
def mb_hs (cl : List mv_K) (Tb : List Cond) (own : String) : List (Nat × Nat × Nat × Nat) → List (Nat × Nat × Nat × Nat) → List Nat → Bool
  | [], [], _ => true
  | a :: r, b :: t, k :: ks => decide (a.1 = b.1) && decide (a.2.1 = b.2.1) && decide (a.2.2.1 = b.2.2.1) && decide (a.2.2.2 ≠ 0) && (match cl[b.2.2.2]? with
    | some K => mb_at Tb k (.classLink own a.2.2.2 K.1)
    | none => false) && mb_hs cl Tb own r t ks
  | _, _, _ => false
theorem mb_hs_ok {own : String} : ∀ {hh hr : List (Nat × Nat × Nat × Nat)} {ks : List Nat}, mb_hs cl Tb own hh hr ks = true → hh.length = hr.length ∧ ∀ (i : Nat) (a b : Nat × Nat × Nat × Nat), hh[i]? = some a → hr[i]? = some b → mv_hok cl (Tb.filter mv_gw) own a b
  | [], [], ks, _ => ⟨rfl, fun i a b h _ => by simp at h⟩
  | a :: r, b :: t, k :: ks, h => by
    simp only [mb_hs, Bool.and_eq_true, decide_eq_true_eq] at h
    obtain ⟨⟨⟨⟨⟨h1, h2⟩, h3⟩, h4⟩, h5⟩, h6⟩ := h
    obtain ⟨i1, i2⟩ := mb_hs_ok h6
    refine ⟨by simp [i1], fun i x y hx hy => ?_⟩
    cases i with
    | zero =>
      simp only [List.getElem?_cons_zero, Option.some.injEq] at hx hy
      subst hx; subst hy
      split at h5
      · next K hK => exact ⟨h1, h2, h3, h4, K, hK, mb_mem h5⟩
      · cases h5
    | succ i => exact i2 i x y (by simpa using hx) (by simpa using hy)
  | [], b :: t, ks, h => by cases ks <;> cases h
  | a :: r, [], ks, h => by cases ks <;> cases h
  | a :: r, b :: t, [], h => by cases h
def mb_meth (cl : List mv_K) (tys : List FieldType) (Tb : List Cond) (M : List mv_J) (q : mv_J) (kc ki : Nat) (kh : List Nat) : Bool :=
  (if mj_hh q = [] then mb_at Tb kc (.code (mj_y q) (mj_b q) (mj_n q) (mj_r q)) else mb_at Tb kc (.codeWith (mj_y q) (mj_b q) (mj_n q) (mj_r q) (mj_hh q))) && mb_at Tb ki (.initialized (mj_y q).cls) && plainFor (mj_y q) && decide ((mj_y q).cls ≠ "java/lang/invoke/MethodHandle") && decide ((mj_y q).cls ≠ "java/lang/invoke/VarHandle") && decide (mj_n q ≤ 15) && mb_hs cl Tb (mj_y q).cls (mj_hh q) (mj_hr q) kh && mb_rows cl tys Tb M q 0 (mj_c q)
theorem mb_split {q : mv_J} : ∀ (k : Nat) (rs : List (Option (Nat × Instr × Instr × List Nat))) (pc : Nat), mb_rows cl tys Tb M q pc (rs.take k) = true → mb_rows cl tys Tb M q (pc + k) (rs.drop k) = true → mb_rows cl tys Tb M q pc rs = true
  | 0, rs, pc, _, h => h
  | k + 1, [], pc, _, _ => rfl
  | k + 1, none :: r, pc, h1, h2 => mb_split k r (pc + 1) h1 (by rwa [show pc + 1 + k = pc + (k + 1) by omega])
  | k + 1, some x :: r, pc, h1, h2 => by
    simp only [List.take_succ_cons, mb_rows, Bool.and_eq_true] at h1
    simp only [mb_rows, Bool.and_eq_true]
    exact ⟨h1.1, mb_split k r (pc + 1) h1.2 (by rwa [show pc + 1 + k = pc + (k + 1) by omega])⟩
def mb_meth0 (cl : List mv_K) (Tb : List Cond) (q : mv_J) (kc ki : Nat) (kh : List Nat) : Bool :=
  (if mj_hh q = [] then mb_at Tb kc (.code (mj_y q) (mj_b q) (mj_n q) (mj_r q)) else mb_at Tb kc (.codeWith (mj_y q) (mj_b q) (mj_n q) (mj_r q) (mj_hh q))) && mb_at Tb ki (.initialized (mj_y q).cls) && plainFor (mj_y q) && decide ((mj_y q).cls ≠ "java/lang/invoke/MethodHandle") && decide ((mj_y q).cls ≠ "java/lang/invoke/VarHandle") && decide (mj_n q ≤ 15) && mb_hs cl Tb (mj_y q).cls (mj_hh q) (mj_hr q) kh
theorem mb_meth_of {q : mv_J} {kc ki : Nat} {kh : List Nat} (h0 : mb_meth0 cl Tb q kc ki kh = true) (h1 : mb_rows cl tys Tb M q 0 (mj_c q) = true) : mb_meth cl tys Tb M q kc ki kh = true := by
  have e : mb_meth cl tys Tb M q kc ki kh = (mb_meth0 cl Tb q kc ki kh && mb_rows cl tys Tb M q 0 (mj_c q)) := rfl
  rw [e, h0, h1]
  rfl
theorem mb_meth_ok {q : mv_J} {kc ki : Nat} {kh : List Nat} (h : mb_meth cl tys Tb M q kc ki kh = true) : mv_jok cl (Tb.filter mv_gw) q ∧ ∀ pc len real i, mv_at q pc = some (len, real, i) → decode (mj_b q) pc = .ok (real, len) ∧ mv_row cl tys (Tb.filter mv_gw) M q pc len real i := by
  simp only [mb_meth, Bool.and_eq_true, decide_eq_true_eq] at h
  obtain ⟨⟨⟨⟨⟨⟨⟨h1, h2⟩, h3⟩, h4⟩, h5⟩, h6⟩, h7⟩, h8⟩ := h
  obtain ⟨i1, i2⟩ := mb_hs_ok h7
  refine ⟨⟨?_, mb_mem h2, h3, ⟨h4, h5⟩, h6, i1, i2⟩, fun pc len real i hat => ?_⟩
  · split at h1
    · next hn => exact Or.inl ⟨hn, mb_mem h1⟩
    · exact Or.inr (mb_mem h1)
  · unfold mv_at at hat
    split at hat
    · next x hx =>
      cases hat
      have := mb_rows_ok _ _ h8 pc x hx
      rwa [Nat.zero_add] at this
    · cases hat
def mb_cl (Tb : List Cond) (r : mv_K) (ks : List Nat) : Bool := mb_all Tb ks (u_ws r.1 r.2.1 r.2.2.1) && (List.range r.2.2.1).all (fun k => match r.2.2.2.2[k]? with
  | some ty => decide (parseFieldDescriptor (r.2.1 k).2.2.1 = some ty)
  | none => false) && (List.range r.2.2.1).all (fun a => (List.range r.2.2.1).all fun b => decide (a = b) || decide ((r.2.1 a).2.1 ≠ (r.2.1 b).2.1))
theorem mb_cl_ok {r : mv_K} {ks : List Nat} (h : mb_cl Tb r ks = true) : mv_clok (Tb.filter mv_gw) r := by
  simp only [mb_cl, Bool.and_eq_true, List.all_eq_true, List.mem_range, Bool.or_eq_true, decide_eq_true_eq] at h
  obtain ⟨⟨h1, h2⟩, h3⟩ := h
  refine ⟨mb_all_mem h1, fun k hk => ?_, fun a ha b hb hne => ?_⟩
  · have := h2 k hk
    split at this
    · next ty hty => exact ⟨ty, hty, of_decide_eq_true this⟩
    · cases this
  · rcases h3 a ha b hb with h | h
    · exact absurd h hne
    · exact h
end MVB
end
section
/-! TABLES, written by wip/whole/gen.py out of the Statement: classes, kinds of arrays, methods with their decoded rows -/
def mt_th_PT_150152 : List Nat := [381, 58, 55, 403, 412, 415, 418, 420, 404, 405, 75, 76, 406, 411, 416, 432, 393, 433, 395, 434, 397, 407, 409, 399, 422, 423, 424, 425, 384, 425, 426, 427, 428, 386, 428, 429, 430, 404, 388, 421, 382, 383, 390, 391, 392, 394, 396, 398, 402, 401, 400]
def mt_th_PT_84086 : List Nat := [450, 59, 55, 403, 412, 415, 418, 420, 404, 405, 75, 76, 406, 411, 416, 432, 393, 433, 395, 434, 397, 407, 409, 399, 460, 461, 462, 425, 384, 425, 426, 427, 428, 386, 428, 429, 430, 404, 388, 459, 451, 452, 453, 414, 454, 455, 456, 457, 402, 401, 458]
def mk_PT : mv_K := ("PlugTree", (fun k => match k with
  | 0 => ("PlugTree", "bridges", "[LPlugTree$Bridge;", true)
  | 1 => ("PlugTree", "types", "[LPlugTree$Type;", true)
  | 2 => ("PlugTree", "cards", "[LPlugTree$Card;", true)
  | 3 => ("PlugTree", "requests", "Ljava/util/ArrayList;", true)
  | 4 => ("PlugTree", "inside", "LPlugTree$Stretches;", true)
  | 5 => ("PlugTree", "beside", "LPlugTree$Stretches;", true)
  | 6 => ("PlugTree", "trial", "LPlugTree$Stretches;", true)
  | 7 => ("PlugTree", "places", "[I", true)
  | 8 => ("PlugTree", "bridgeCount", "I", false)
  | 9 => ("PlugTree", "typeCount", "I", false)
  | 10 => ("PlugTree", "cardCount", "I", false)
  | 11 => ("PlugTree", "fresh", "LPlugTree$Card;", false)
  | 12 => ("PlugTree", "checked", "Z", false)
  | _ => ("PlugTree", "movedRanges", "I", false)
  ), 14, 14, [.array (.object "PlugTree$Bridge"), .array (.object "PlugTree$Type"), .array (.object "PlugTree$Card"), .object "java/util/ArrayList", .object "PlugTree$Stretches", .object "PlugTree$Stretches", .object "PlugTree$Stretches", .array .int, .int, .int, .int, .object "PlugTree$Card", .boolean, .int])
def mk_Br : mv_K := ("PlugTree$Bridge", (fun k => match k with
  | 0 => ("PlugTree$Bridge", "number", "I", true)
  | 1 => ("PlugTree$Bridge", "parent", "LPlugTree$Bridge;", true)
  | 2 => ("PlugTree$Bridge", "limit", "I", true)
  | 3 => ("PlugTree$Bridge", "depth", "I", true)
  | 4 => ("PlugTree$Bridge", "bridgeIn", "[LPlugTree$Bridge;", true)
  | 5 => ("PlugTree$Bridge", "cardIn", "[LPlugTree$Card;", true)
  | 6 => ("PlugTree$Bridge", "begin", "I", false)
  | 7 => ("PlugTree$Bridge", "end", "I", false)
  | _ => ("PlugTree$Bridge", "block", "I", false)
  ), 9, 9, [.int, .object "PlugTree$Bridge", .int, .int, .array (.object "PlugTree$Bridge"), .array (.object "PlugTree$Card"), .int, .int, .int])
def mk_Ty : mv_K := ("PlugTree$Type", (fun k => match k with
  | 0 => ("PlugTree$Type", "sizes", "[I", true)
  | 1 => ("PlugTree$Type", "order", "[I", true)
  | 2 => ("PlugTree$Type", "power", "I", true)
  | _ => ("PlugTree$Type", "pauses", "Z", true)
  ), 4, 4, [.array .int, .array .int, .int, .boolean])
def mk_Ca : mv_K := ("PlugTree$Card", (fun k => match k with
  | 0 => ("PlugTree$Card", "bridge", "LPlugTree$Bridge;", true)
  | 1 => ("PlugTree$Card", "slot", "I", true)
  | 2 => ("PlugTree$Card", "type", "LPlugTree$Type;", true)
  | 3 => ("PlugTree$Card", "begins", "[I", true)
  | 4 => ("PlugTree$Card", "queue", "[LPlugTree$Request;", true)
  | 5 => ("PlugTree$Card", "number", "I", false)
  | 6 => ("PlugTree$Card", "state", "I", false)
  | 7 => ("PlugTree$Card", "reason", "I", false)
  | 8 => ("PlugTree$Card", "unfinished", "I", false)
  | 9 => ("PlugTree$Card", "pieces", "I", false)
  | _ => ("PlugTree$Card", "x", "I", false)
  ), 11, 11, [.object "PlugTree$Bridge", .int, .object "PlugTree$Type", .array .int, .array (.object "PlugTree$Request"), .int, .int, .int, .int, .int, .int])
def mk_Rq : mv_K := ("PlugTree$Request", (fun k => match k with
  | 0 => ("PlugTree$Request", "op", "I", true)
  | 1 => ("PlugTree$Request", "word", "I", true)
  | _ => ("PlugTree$Request", "outcome", "J", false)
  ), 3, 3, [.int, .int, .long])
def mk_St : mv_K := ("PlugTree$Stretches", (fun k => match k with
  | 0 => ("PlugTree$Stretches", "begins", "[I", true)
  | 1 => ("PlugTree$Stretches", "ends", "[I", true)
  | _ => ("PlugTree$Stretches", "count", "I", false)
  ), 3, 3, [.array .int, .array .int, .int])
def mk_Mo : mv_K := ("PlugTreeModel", (fun k => match k with
  | 0 => ("PlugTreeModel", "code", "I", false)
  | 1 => ("PlugTreeModel", "bridges", "I", false)
  | 2 => ("PlugTreeModel", "slots", "[I", true)
  | 3 => ("PlugTreeModel", "over", "[I", true)
  | 4 => ("PlugTreeModel", "limits", "[I", true)
  | 5 => ("PlugTreeModel", "begins", "[I", true)
  | 6 => ("PlugTreeModel", "ends", "[I", true)
  | 7 => ("PlugTreeModel", "blocks", "[I", true)
  | 8 => ("PlugTreeModel", "types", "I", false)
  | 9 => ("PlugTreeModel", "sizes", "[I", true)
  | 10 => ("PlugTreeModel", "powers", "[I", true)
  | 11 => ("PlugTreeModel", "pauses", "[Z", true)
  | 12 => ("PlugTreeModel", "cards", "I", false)
  | 13 => ("PlugTreeModel", "typeOf", "[I", true)
  | 14 => ("PlugTreeModel", "bridgeOf", "[I", true)
  | 15 => ("PlugTreeModel", "states", "[I", true)
  | 16 => ("PlugTreeModel", "reasons", "[I", true)
  | 17 => ("PlugTreeModel", "ranges", "[I", true)
  | 18 => ("PlugTreeModel", "plans", "[I", true)
  | 19 => ("PlugTreeModel", "pieces", "[I", true)
  | 20 => ("PlugTreeModel", "x", "[I", true)
  | 21 => ("PlugTreeModel", "coming", "I", false)
  | 22 => ("PlugTreeModel", "checked", "Z", false)
  | 23 => ("PlugTreeModel", "moved", "I", false)
  | 24 => ("PlugTreeModel", "tickets", "I", false)
  | 25 => ("PlugTreeModel", "ticketCard", "[I", true)
  | 26 => ("PlugTreeModel", "ops", "[I", true)
  | 27 => ("PlugTreeModel", "words", "[I", true)
  | 28 => ("PlugTreeModel", "results", "[J", true)
  | 29 => ("PlugTreeModel", "used", "[Z", true)
  | _ => ("PlugTreeModel", "above", "[Z", true)
  ), 31, 31, [.int, .int, .array .int, .array .int, .array .int, .array .int, .array .int, .array .int, .int, .array .int, .array .int, .array .boolean, .int, .array .int, .array .int, .array .int, .array .int, .array .int, .array .int, .array .int, .array .int, .int, .boolean, .int, .int, .array .int, .array .int, .array .int, .array .long, .array .boolean, .array .boolean])
def mk_Al : mv_K := ("java/util/ArrayList", (fun k => match k with
  | 0 => ("java/util/ArrayList", "elementData", "[Ljava/lang/Object;", false)
  | 1 => ("java/util/ArrayList", "size", "I", false)
  | _ => ("java/util/AbstractList", "modCount", "I", false)
  ), 3, 3, [.array (.object "java/lang/Object"), .int, .int])
def mk_Ia : mv_K := ("java/lang/IllegalArgumentException", (fun k => match k with
  | _ => ("", "", "", false)
  ), 0, 6, [])
def mk_Is : mv_K := ("java/lang/IllegalStateException", (fun k => match k with
  | _ => ("", "", "", false)
  ), 0, 6, [])
def mt_cl : List mv_K := [mk_PT, mk_Br, mk_Ty, mk_Ca, mk_Rq, mk_St, mk_Mo, mk_Al, mk_Ia, mk_Is]
def mt_ty : List FieldType := [.int, .boolean, .long, .object "PlugTree$Bridge", .object "PlugTree$Type", .object "PlugTree$Card", .object "PlugTree$Request", .object "java/lang/Object"]
def mt_as : List (Nat × Nat) := [(1, 3), (2, 4), (3, 5), (4, 6), (4, 7)]
def mt_nc : List (Nat × Nat) := [(9, 8), (8, 9)]
def mj_Ac_init : mv_J := (⟨"java/util/AbstractCollection", "<init>", "()V"⟩, prog_19_method_1_code, 1, none, [], [], 1, 99, [
  some (1, .aload_n 0, .aload_n 0, []), some (3, .invokespecial 1, .monitorexit, [94, 75, 76]), none, none, some (1, .return_, .return_, [])])
def mj_Ab_init : mv_J := (⟨"java/util/AbstractList", "<init>", "()V"⟩, prog_20_method_1_code, 1, none, [], [], 1, 99, [
  some (1, .aload_n 0, .aload_n 0, []), some (3, .invokespecial 1, .invokespecial 0, [91, 92, 93]), none, none, some (1, .aload_n 0, .aload_n 0, []), some (1, .iconst 0, .iconst 0, []), 
  some (3, .putfield 7, .putfield 450, [99]), none, none, some (1, .return_, .return_, [])])
def mj_Al_init : mv_J := (⟨"java/util/ArrayList", "<init>", "()V"⟩, prog_21_method_2_code, 1, none, [], [], 1, 7, [
  some (1, .aload_n 0, .aload_n 0, []), some (3, .invokespecial 1, .invokespecial 1, [88, 89, 90]), none, none, some (1, .aload_n 0, .aload_n 0, []), some (3, .getstatic 39, .getstatic 0, [95]), 
  none, none, some (3, .putfield 9, .putfield 448, [97]), none, none, some (1, .return_, .return_, [])])
def mj_Al_size : mv_J := (⟨"java/util/ArrayList", "size", "()I"⟩, prog_21_method_8_code, 1, some .int, [], [], 1, 7, [
  some (1, .aload_n 0, .aload_n 0, []), some (3, .getfield 48, .getfield 449, [98]), none, none, some (1, .ireturn, .ireturn, [])])
def mj_Al_add : mv_J := (⟨"java/util/ArrayList", "add", "(Ljava/lang/Object;)Z"⟩, prog_21_method_25_code, 2, some .boolean, [], [], 2, 7, [
  some (1, .aload_n 0, .aload_n 0, []), some (1, .dup, .dup, []), some (3, .getfield 63, .getfield 450, [100, 101]), none, none, some (1, .iconst 1, .iconst 1, []), 
  some (1, .iadd, .iadd, []), some (3, .putfield 63, .putfield 450, [100, 101]), none, none, some (1, .aload_n 0, .aload_n 0, []), some (1, .aload_n 1, .aload_n 1, []), 
  some (1, .aload_n 0, .aload_n 0, []), some (3, .getfield 9, .getfield 448, [97]), none, none, some (1, .aload_n 0, .aload_n 0, []), some (3, .getfield 48, .getfield 449, [98]), 
  none, none, some (3, .invokevirtual 131, .invokevirtual 5, [619, 621, 19]), none, none, some (1, .iconst 1, .iconst 1, []), some (1, .ireturn, .ireturn, [])
  ])
def mj_Al_add_5 : mv_J := (⟨"java/util/ArrayList", "add", "(Ljava/lang/Object;[Ljava/lang/Object;I)V"⟩, prog_21_method_24_code, 4, none, [], [], 4, 7, [
  some (1, .iload_n 3, .iload_n 3, []), some (1, .aload_n 2, .aload_n 2, []), some (1, .arraylength, .arraylength, []), some (3, .if_icmp .ne 8, .if_icmp .ne 11, []), 
  none, none, some (1, .aload_n 0, .aload_n 0, []), some (3, .invokevirtual 129, .invokevirtual 6, [623, 625, 20]), none, none, some (1, .astore_n 2, .astore_n 2, []), 
  some (1, .aload_n 2, .aload_n 2, []), some (1, .iload_n 3, .iload_n 3, []), some (1, .aload_n 1, .aload_n 1, []), some (1, .aastore, .aastore, []), some (1, .aload_n 0, .aload_n 0, []), 
  some (1, .iload_n 3, .iload_n 3, []), some (1, .iconst 1, .iconst 1, []), some (1, .iadd, .iadd, []), some (3, .putfield 48, .putfield 449, [98]), none, 
  none, some (1, .return_, .return_, [])])
def mj_Al_grow : mv_J := (⟨"java/util/ArrayList", "grow", "()[Ljava/lang/Object;"⟩, prog_21_method_7_code, 1, (Option.some (Jvm.ClassFile.FieldType.array (Jvm.ClassFile.FieldType.object "java/lang/Object"))), [], [], 1, 7, [
  some (1, .aload_n 0, .aload_n 0, []), some (1, .aload_n 0, .aload_n 0, []), some (3, .getfield 48, .getfield 449, [98]), none, none, some (1, .iconst 1, .iconst 1, []), 
  some (1, .iadd, .iadd, []), some (3, .invokevirtual 69, .invokevirtual 7, [627, 629, 21]), none, none, some (1, .areturn, .areturn, [])])
def mj_Al_grow_7 : mv_J := (⟨"java/util/ArrayList", "grow", "(I)[Ljava/lang/Object;"⟩, prog_21_method_6_code, 4, (Option.some (Jvm.ClassFile.FieldType.array (Jvm.ClassFile.FieldType.object "java/lang/Object"))), [], [], 2, 7, [
  some (1, .aload_n 0, .aload_n 0, []), some (3, .getfield 9, .getfield 448, [97]), none, none, some (1, .arraylength, .arraylength, []), some (1, .istore_n 2, .istore_n 2, []), 
  some (1, .iload_n 2, .iload_n 2, []), some (3, .ifCond .gt 13, .ifCond .gt 20, []), none, none, some (1, .aload_n 0, .aload_n 0, []), some (3, .getfield 9, .getfield 448, [97]), 
  none, none, some (3, .getstatic 39, .getstatic 0, [95]), none, none, some (3, .if_acmp .eq 28, .if_acmp .eq 45, []), none, none, some (1, .iload_n 2, .iload_n 2, []), 
  some (1, .iload_n 1, .iload_n 1, []), some (1, .iload_n 2, .iload_n 2, []), some (1, .isub, .isub, []), some (1, .iload_n 2, .iload_n 2, []), some (1, .iconst 1, .iconst 1, []), 
  some (1, .ishr, .ishr, []), some (3, .invokestatic 73, .invokestatic 15, [631, 632]), none, none, some (1, .istore_n 3, .istore_n 3, []), some (1, .aload_n 0, .aload_n 0, []), 
  some (1, .aload_n 0, .aload_n 0, []), some (3, .getfield 9, .getfield 448, [97]), none, none, some (1, .iload_n 3, .iload_n 3, []), some (3, .invokestatic 66, .invokestatic 10, [641, 642]), 
  none, none, some (1, .dup_x1, .dup_x1, []), some (3, .putfield 9, .putfield 448, [97]), none, none, some (1, .areturn, .areturn, []), some (1, .aload_n 0, .aload_n 0, []), 
  some (2, .bipush 10, .bipush 10, []), none, some (1, .iload_n 1, .iload_n 1, []), some (3, .invokestatic 79, .invokestatic 13, [668, 635]), none, none, 
  some (3, .anewarray 7, .anewarray 7, [669, 662]), none, none, some (1, .dup_x1, .dup_x1, []), some (3, .putfield 9, .putfield 448, [97]), none, none, 
  some (1, .areturn, .areturn, [])])
def mj_Al_get : mv_J := (⟨"java/util/ArrayList", "get", "(I)Ljava/lang/Object;"⟩, prog_21_method_20_code, 2, some (.object "java/lang/Object"), [], [], 2, 7, [
  some (1, .iload_n 1, .iload_n 1, []), some (1, .aload_n 0, .aload_n 0, []), some (3, .getfield 48, .getfield 449, [98]), none, none, some (3, .invokestatic 118, .invokestatic 12, [696, 697]), 
  none, none, some (1, .pop, .pop, []), some (1, .aload_n 0, .aload_n 0, []), some (1, .iload_n 1, .iload_n 1, []), some (3, .invokevirtual 123, .invokevirtual 9, [702, 703, 704]), 
  none, none, some (1, .areturn, .areturn, [])])
def mj_Al_elementData : mv_J := (⟨"java/util/ArrayList", "elementData", "(I)Ljava/lang/Object;"⟩, prog_21_method_18_code, 2, some (.object "java/lang/Object"), [], [], 2, 7, [
  some (1, .aload_n 0, .aload_n 0, []), some (3, .getfield 9, .getfield 448, [97]), none, none, some (1, .iload_n 1, .iload_n 1, []), some (1, .aaload, .aaload, []), 
  some (1, .areturn, .areturn, [])])
def mj_As_copyOf : mv_J := (⟨"java/util/Arrays", "copyOf", "([Ljava/lang/Object;I)[Ljava/lang/Object;"⟩, prog_22_method_119_code, 2, (Option.some (Jvm.ClassFile.FieldType.array (Jvm.ClassFile.FieldType.object "java/lang/Object"))), [], [], 2, 99, [
  some (1, .aload_n 0, .aload_n 0, []), some (1, .iload_n 1, .iload_n 1, []), some (1, .aload_n 0, .aload_n 0, []), some (3, .invokevirtual 86, .d2i, [644, 1027, 1026, 645, 657]), 
  none, none, some (3, .invokestatic 300, .invokestatic 11, [658, 659]), none, none, some (1, .areturn, .areturn, [])])
def mj_As_copyOf_11 : mv_J := (⟨"java/util/Arrays", "copyOf", "([Ljava/lang/Object;ILjava/lang/Class;)[Ljava/lang/Object;"⟩, prog_22_method_120_code, 4, (Option.some (Jvm.ClassFile.FieldType.array (Jvm.ClassFile.FieldType.object "java/lang/Object"))), [], [], 3, 99, [
  some (1, .aload_n 2, .aload_n 2, []), some (2, .ldc 110, .ldc 0, [661]), none, some (3, .if_acmp .ne 10, .if_acmp .ne 13, []), none, none, some (1, .iload_n 1, .iload_n 1, []), 
  some (3, .anewarray 2, .anewarray 7, [663, 662]), none, none, some (3, .goto 14, .goto 24, []), none, none, some (1, .aload_n 2, .aload_n 2, []), none, 
  none, none, some (1, .iload_n 1, .iload_n 1, []), none, none, none, none, none, none, some (1, .astore_n 3, .astore_n 3, []), some (1, .aload_n 0, .aload_n 0, []), 
  some (1, .iconst 0, .iconst 0, []), some (1, .aload_n 3, .aload_n 3, []), some (1, .iconst 0, .iconst 0, []), some (1, .aload_n 0, .aload_n 0, []), some (1, .arraylength, .arraylength, []), 
  some (1, .iload_n 1, .iload_n 1, []), some (3, .invokestatic 304, .invokestatic 14, [664, 665]), none, none, some (3, .invokestatic 150, .d2l, [667, 281, 280, 62]), 
  none, none, some (1, .aload_n 3, .aload_n 3, []), some (1, .areturn, .areturn, [])])
def mj_Ob_checkIndex : mv_J := (⟨"java/util/Objects", "checkIndex", "(II)I"⟩, prog_25_method_17_code, 2, some .int, [], [], 2, 99, [
  some (1, .iload_n 0, .iload_n 0, []), some (1, .iload_n 1, .iload_n 1, []), some (1, .aconst_null, .aconst_null, []), some (3, .invokestatic 105, .invokestatic 16, [699, 700]), 
  none, none, some (1, .ireturn, .ireturn, [])])
def mj_Ma_max : mv_J := (⟨"java/lang/Math", "max", "(II)I"⟩, prog_15_method_65_code, 2, some .int, [], [], 2, 99, [
  some (1, .iload_n 0, .iload_n 0, []), some (1, .iload_n 1, .iload_n 1, []), some (3, .if_icmp .lt 7, .if_icmp .lt 9, []), none, none, some (1, .iload_n 0, .iload_n 0, []), 
  some (3, .goto 4, .goto 10, []), none, none, some (1, .iload_n 1, .iload_n 1, []), some (1, .ireturn, .ireturn, [])])
def mj_Ma_min : mv_J := (⟨"java/lang/Math", "min", "(II)I"⟩, prog_15_method_69_code, 2, some .int, [], [], 2, 99, [
  some (1, .iload_n 0, .iload_n 0, []), some (1, .iload_n 1, .iload_n 1, []), some (3, .if_icmp .gt 7, .if_icmp .gt 9, []), none, none, some (1, .iload_n 0, .iload_n 0, []), 
  some (3, .goto 4, .goto 10, []), none, none, some (1, .iload_n 1, .iload_n 1, []), some (1, .ireturn, .ireturn, [])])
def mj_Su_newLength : mv_J := (⟨"jdk/internal/util/ArraysSupport", "newLength", "(III)I"⟩, prog_28_method_27_code, 4, some .int, [], [], 3, 99, [
  some (1, .iload_n 0, .iload_n 0, []), some (1, .iload_n 1, .iload_n 1, []), some (1, .iload_n 2, .iload_n 2, []), some (3, .invokestatic 194, .invokestatic 13, [634, 635]), 
  none, none, some (1, .iadd, .iadd, []), some (1, .istore_n 3, .istore_n 3, []), some (1, .iconst 0, .iconst 0, []), some (1, .iload_n 3, .iload_n 3, []), 
  some (3, .if_icmp .ge 11, .if_icmp .ge 21, []), none, none, some (1, .iload_n 3, .iload_n 3, []), some (2, .ldc 200, .ldc_w 2147483639, [637]), none, 
  some (3, .if_icmp .gt 5, .if_icmp .gt 21, []), none, none, some (1, .iload_n 3, .iload_n 3, []), some (1, .ireturn, .ireturn, []), some (1, .iload_n 0, .iload_n 0, []), 
  some (1, .iload_n 1, .iload_n 1, []), none, none, none, some (1, .ireturn, .ireturn, [])])
def mj_Pr_checkIndex : mv_J := (⟨"jdk/internal/util/Preconditions", "checkIndex", "(IILjava/util/function/BiFunction;)I"⟩, prog_29_method_11_code, 3, some .int, [], [], 3, 99, [
  some (1, .iload_n 0, .iload_n 0, []), some (3, .ifCond .lt 8, .ifCond .lt 9, []), none, none, some (1, .iload_n 0, .iload_n 0, []), some (1, .iload_n 1, .iload_n 1, []), 
  some (3, .if_icmp .lt 10, .if_icmp .lt 16, []), none, none, some (1, .aload_n 2, .aload_n 2, []), some (1, .iload_n 0, .iload_n 0, []), some (1, .iload_n 1, .iload_n 1, []), 
  none, none, none, some (1, .athrow, .athrow, []), some (1, .iload_n 0, .iload_n 0, []), some (1, .ireturn, .ireturn, [])])
def mj_Rq_init : mv_J := (⟨"PlugTree$Request", "<init>", "(II)V"⟩, prog_4_method_1_code, 3, none, [], [], 3, 4, [
  some (1, .aload_n 0, .aload_n 0, []), some (3, .invokespecial 3, .monitorexit, [599, 75, 76]), none, none, some (1, .aload_n 0, .aload_n 0, []), some (3, .ldc2_w 9, .ldc2_w 1099511627776, [600]), 
  none, none, some (3, .putfield 11, .putfield 258, [605]), none, none, some (1, .aload_n 0, .aload_n 0, []), some (1, .iload_n 1, .iload_n 1, []), some (3, .putfield 17, .putfield 256, [601]), 
  none, none, some (1, .aload_n 0, .aload_n 0, []), some (1, .iload_n 2, .iload_n 2, []), some (3, .putfield 21, .putfield 257, [603]), none, none, some (1, .return_, .return_, [])
  ])
def mj_Ty_sumOfSizes : mv_J := (⟨"PlugTree$Type", "sumOfSizes", "()I"⟩, prog_6_method_4_code, 1, some .int, [], [], 1, 2, [
  some (1, .aload_n 0, .aload_n 0, []), some (3, .getfield 9, .getfield 128, [483]), none, none, some (1, .iconst 0, .iconst 0, []), some (1, .iaload, .iaload, []), 
  some (1, .aload_n 0, .aload_n 0, []), some (3, .getfield 9, .getfield 128, [483]), none, none, some (1, .iconst 1, .iconst 1, []), some (1, .iaload, .iaload, []), 
  some (1, .iadd, .iadd, []), some (1, .aload_n 0, .aload_n 0, []), some (3, .getfield 9, .getfield 128, [483]), none, none, some (1, .iconst 2, .iconst 2, []), 
  some (1, .iaload, .iaload, []), some (1, .iadd, .iadd, []), some (1, .ireturn, .ireturn, [])])
def mj_Ty_init : mv_J := (⟨"PlugTree$Type", "<init>", "(IIIIZ)V"⟩, prog_6_method_1_code, 7, none, [], [], 6, 2, [
  some (1, .aload_n 0, .aload_n 0, []), some (3, .invokespecial 3, .monitorexit, [476, 75, 76]), none, none, some (1, .aload_n 0, .aload_n 0, []), some (1, .iconst 3, .iconst 3, []), 
  some (2, .newarray .int, .newarray .int, [125]), none, some (3, .putfield 9, .putfield 128, [483]), none, none, some (1, .aload_n 0, .aload_n 0, []), 
  some (1, .iconst 3, .iconst 3, []), some (2, .newarray .int, .newarray .int, [125]), none, some (3, .putfield 15, .putfield 129, [487]), none, none, 
  some (1, .aload_n 0, .aload_n 0, []), some (3, .getfield 9, .getfield 128, [483]), none, none, some (1, .iconst 0, .iconst 0, []), some (1, .iload_n 1, .iload_n 1, []), 
  some (3, .invokestatic 18, .invokestatic 20, [477, 478]), none, none, some (1, .iastore, .iastore, []), some (1, .aload_n 0, .aload_n 0, []), some (3, .getfield 9, .getfield 128, [483]), 
  none, none, some (1, .iconst 1, .iconst 1, []), some (1, .iload_n 2, .iload_n 2, []), some (3, .invokestatic 18, .invokestatic 20, [477, 478]), none, 
  none, some (1, .iastore, .iastore, []), some (1, .aload_n 0, .aload_n 0, []), some (3, .getfield 9, .getfield 128, [483]), none, none, some (1, .iconst 2, .iconst 2, []), 
  some (1, .iload_n 3, .iload_n 3, []), some (3, .invokestatic 18, .invokestatic 20, [477, 478]), none, none, some (1, .iastore, .iastore, []), some (1, .aload_n 0, .aload_n 0, []), 
  some (2, .iload 4, .iload 4, []), none, some (3, .putfield 22, .putfield 130, [489]), none, none, some (1, .aload_n 0, .aload_n 0, []), some (2, .iload 5, .iload 5, []), 
  none, some (3, .putfield 26, .putfield 131, [491]), none, none, some (1, .iconst 0, .iconst 0, []), some (2, .istore 6, .istore 6, []), none, some (2, .iload 6, .iload 6, []), 
  none, some (1, .iconst 3, .iconst 3, []), some (3, .if_icmp .ge 25, .if_icmp .ge 91, []), none, none, some (1, .aload_n 0, .aload_n 0, []), some (3, .getfield 15, .getfield 129, [487]), 
  none, none, some (2, .iload 6, .iload 6, []), none, some (1, .aload_n 0, .aload_n 0, []), some (3, .getfield 9, .getfield 128, [483]), none, none, some (3, .invokestatic 30, .invokestatic 21, [480, 481]), 
  none, none, some (2, .iload 6, .iload 6, []), none, some (1, .iastore, .iastore, []), some (3, .iinc 6 1, .iinc 6 1, []), none, none, some (3, .goto (-25), .goto 63, []), 
  none, none, some (1, .return_, .return_, [])])
def mj_Ty_sizeOf : mv_J := (⟨"PlugTree$Type", "sizeOf", "(I)I"⟩, prog_6_method_2_code, 1, some .int, [], [], 1, 2, [
  some (1, .iload_n 0, .iload_n 0, []), some (3, .ifCond .ge 7, .ifCond .ge 8, []), none, none, some (1, .iconst 0, .iconst 0, []), some (3, .goto 6, .goto 11, []), 
  none, none, some (1, .iconst 1, .iconst 1, []), some (1, .iload_n 0, .iload_n 0, []), some (1, .ishl, .ishl, []), some (1, .ireturn, .ireturn, [])])
def mj_Ty_rankOf : mv_J := (⟨"PlugTree$Type", "rankOf", "(I[I)I"⟩, prog_6_method_3_code, 4, some .int, [], [], 2, 2, [
  some (1, .iconst 0, .iconst 0, []), some (1, .istore_n 2, .istore_n 2, []), some (1, .iconst 0, .iconst 0, []), some (1, .istore_n 3, .istore_n 3, []), 
  some (1, .iload_n 3, .iload_n 3, []), some (1, .iconst 3, .iconst 3, []), some (3, .if_icmp .ge 35, .if_icmp .ge 41, []), none, none, some (1, .aload_n 1, .aload_n 1, []), 
  some (1, .iload_n 3, .iload_n 3, []), some (1, .iaload, .iaload, []), some (1, .aload_n 1, .aload_n 1, []), some (1, .iload_n 0, .iload_n 0, []), some (1, .iaload, .iaload, []), 
  some (3, .if_icmp .gt 17, .if_icmp .gt 32, []), none, none, some (1, .aload_n 1, .aload_n 1, []), some (1, .iload_n 3, .iload_n 3, []), some (1, .iaload, .iaload, []), 
  some (1, .aload_n 1, .aload_n 1, []), some (1, .iload_n 0, .iload_n 0, []), some (1, .iaload, .iaload, []), some (3, .if_icmp .ne 11, .if_icmp .ne 35, []), 
  none, none, some (1, .iload_n 3, .iload_n 3, []), some (1, .iload_n 0, .iload_n 0, []), some (3, .if_icmp .ge 6, .if_icmp .ge 35, []), none, none, some (3, .iinc 2 1, .iinc 2 1, []), 
  none, none, some (3, .iinc 3 1, .iinc 3 1, []), none, none, some (3, .goto (-34), .goto 4, []), none, none, some (1, .iload_n 2, .iload_n 2, []), some (1, .ireturn, .ireturn, [])
  ])
def mj_Br_init : mv_J := (⟨"PlugTree$Bridge", "<init>", "(ILPlugTree$Bridge;I)V"⟩, prog_2_method_1_code, 4, none, [], [], 4, 1, [
  some (1, .aload_n 0, .aload_n 0, []), some (3, .invokespecial 3, .monitorexit, [130, 75, 76]), none, none, some (1, .aload_n 0, .aload_n 0, []), some (1, .iconst 4, .iconst 4, []), 
  some (3, .anewarray 9, .anewarray 3, [131, 78]), none, none, some (3, .putfield 11, .putfield 68, [141]), none, none, some (1, .aload_n 0, .aload_n 0, []), 
  some (1, .iconst 4, .iconst 4, []), some (3, .anewarray 15, .anewarray 5, [132, 82]), none, none, some (3, .putfield 17, .putfield 69, [144]), none, 
  none, some (1, .aload_n 0, .aload_n 0, []), some (1, .iload_n 1, .iload_n 1, []), some (3, .putfield 21, .putfield 64, [133]), none, none, some (1, .aload_n 0, .aload_n 0, []), 
  some (1, .aload_n 2, .aload_n 2, []), some (3, .putfield 25, .putfield 65, [135]), none, none, some (1, .aload_n 0, .aload_n 0, []), some (1, .iload_n 3, .iload_n 3, []), 
  some (3, .putfield 29, .putfield 66, [137]), none, none, some (1, .aload_n 0, .aload_n 0, []), some (1, .aload_n 2, .aload_n 2, []), some (3, .ifnonnull 7, .ifnonnull 44, []), 
  none, none, some (1, .iconst 0, .iconst 0, []), some (3, .goto 9, .goto 50, []), none, none, some (1, .aload_n 2, .aload_n 2, []), some (3, .getfield 32, .getfield 67, [139]), 
  none, none, some (1, .iconst 1, .iconst 1, []), some (1, .iadd, .iadd, []), some (3, .putfield 32, .putfield 67, [139]), none, none, some (1, .return_, .return_, [])
  ])
def mj_Br_isClosed : mv_J := (⟨"PlugTree$Bridge", "isClosed", "()Z"⟩, prog_2_method_3_code, 1, some .boolean, [], [], 1, 1, [
  some (1, .aload_n 0, .aload_n 0, []), some (3, .getfield 35, .getfield 70, [149]), none, none, some (1, .aload_n 0, .aload_n 0, []), some (3, .getfield 38, .getfield 71, [153]), 
  none, none, some (3, .if_icmp .ne 7, .if_icmp .ne 15, []), none, none, some (1, .iconst 1, .iconst 1, []), some (3, .goto 4, .goto 16, []), none, none, 
  some (1, .iconst 0, .iconst 0, []), some (1, .ireturn, .ireturn, [])])
def mj_Br_isAtOrBelow : mv_J := (⟨"PlugTree$Bridge", "isAtOrBelow", "(LPlugTree$Bridge;)Z"⟩, prog_2_method_4_code, 3, some .boolean, [], [], 2, 1, [
  some (1, .aload_n 0, .aload_n 0, []), some (1, .astore_n 2, .astore_n 2, []), some (1, .aload_n 2, .aload_n 2, []), some (3, .ifnull 18, .ifnull 21, []), 
  none, none, some (1, .aload_n 2, .aload_n 2, []), some (1, .aload_n 1, .aload_n 1, []), some (3, .if_acmp .ne 5, .if_acmp .ne 13, []), none, none, some (1, .iconst 1, .iconst 1, []), 
  some (1, .ireturn, .ireturn, []), some (1, .aload_n 2, .aload_n 2, []), some (3, .getfield 25, .getfield 65, [135]), none, none, some (1, .astore_n 2, .astore_n 2, []), 
  some (3, .goto (-16), .goto 2, []), none, none, some (1, .iconst 0, .iconst 0, []), some (1, .ireturn, .ireturn, [])])
def mj_Br_sumToLay : mv_J := (⟨"PlugTree$Bridge", "sumToLay", "()I"⟩, prog_2_method_5_code, 3, some .int, [], [], 1, 1, [
  some (1, .iconst 0, .iconst 0, []), some (1, .istore_n 1, .istore_n 1, []), some (1, .iconst 0, .iconst 0, []), some (1, .istore_n 2, .istore_n 2, []), 
  some (1, .iload_n 2, .iload_n 2, []), some (1, .iconst 4, .iconst 4, []), some (3, .if_icmp .ge 57, .if_icmp .ge 63, []), none, none, some (1, .aload_n 0, .aload_n 0, []), 
  some (3, .getfield 17, .getfield 69, [144]), none, none, some (1, .iload_n 2, .iload_n 2, []), some (1, .aaload, .aaload, []), some (3, .ifnull 21, .ifnull 36, []), 
  none, none, some (1, .iload_n 1, .iload_n 1, []), some (1, .aload_n 0, .aload_n 0, []), some (3, .getfield 17, .getfield 69, [144]), none, none, some (1, .iload_n 2, .iload_n 2, []), 
  some (1, .aaload, .aaload, []), some (3, .getfield 41, .getfield 194, [521]), none, none, some (3, .invokevirtual 45, .invokevirtual 18, [317, 318, 319]), 
  none, none, some (1, .iadd, .iadd, []), some (1, .istore_n 1, .istore_n 1, []), some (3, .goto 24, .goto 57, []), none, none, some (1, .aload_n 0, .aload_n 0, []), 
  some (3, .getfield 11, .getfield 68, [141]), none, none, some (1, .iload_n 2, .iload_n 2, []), some (1, .aaload, .aaload, []), some (3, .ifnull 15, .ifnull 57, []), 
  none, none, some (1, .iload_n 1, .iload_n 1, []), some (1, .aload_n 0, .aload_n 0, []), some (3, .getfield 11, .getfield 68, [141]), none, none, some (1, .iload_n 2, .iload_n 2, []), 
  some (1, .aaload, .aaload, []), some (3, .getfield 51, .getfield 72, [154]), none, none, some (1, .iadd, .iadd, []), some (1, .istore_n 1, .istore_n 1, []), 
  some (3, .iinc 2 1, .iinc 2 1, []), none, none, some (3, .goto (-56), .goto 4, []), none, none, some (1, .iload_n 1, .iload_n 1, []), some (1, .ireturn, .ireturn, [])
  ])
def mj_Br_isSlotEmpty : mv_J := (⟨"PlugTree$Bridge", "isSlotEmpty", "(I)Z"⟩, prog_2_method_2_code, 2, some .boolean, [], [], 2, 1, [
  some (1, .aload_n 0, .aload_n 0, []), some (3, .getfield 11, .getfield 68, [141]), none, none, some (1, .iload_n 1, .iload_n 1, []), some (1, .aaload, .aaload, []), 
  some (3, .ifnonnull 16, .ifnonnull 22, []), none, none, some (1, .aload_n 0, .aload_n 0, []), some (3, .getfield 17, .getfield 69, [144]), none, none, 
  some (1, .iload_n 1, .iload_n 1, []), some (1, .aaload, .aaload, []), some (3, .ifnonnull 7, .ifnonnull 22, []), none, none, some (1, .iconst 1, .iconst 1, []), 
  some (3, .goto 4, .goto 23, []), none, none, some (1, .iconst 0, .iconst 0, []), some (1, .ireturn, .ireturn, [])])
def mj_Ca_takeOut : mv_J := (⟨"PlugTree$Card", "takeOut", "(I)V"⟩, prog_3_method_4_code, 2, none, [], [], 2, 3, [
  some (1, .aload_n 0, .aload_n 0, []), some (3, .getfield 25, .getfield 192, [516]), none, none, some (3, .getfield 41, .getfield 69, [146]), none, none, 
  some (1, .aload_n 0, .aload_n 0, []), some (3, .getfield 29, .getfield 193, [518]), none, none, some (1, .aconst_null, .aconst_null, []), some (1, .aastore, .aastore, []), 
  some (1, .aload_n 0, .aload_n 0, []), some (1, .iload_n 1, .iload_n 1, []), some (3, .putfield 21, .putfield 198, [529]), none, none, some (1, .return_, .return_, [])
  ])
def mj_Ca_isThere : mv_J := (⟨"PlugTree$Card", "isThere", "()Z"⟩, prog_3_method_2_code, 1, some .boolean, [], [], 1, 3, [
  some (1, .aload_n 0, .aload_n 0, []), some (3, .getfield 21, .getfield 198, [529]), none, none, some (1, .iconst 1, .iconst 1, []), some (3, .if_icmp .eq 19, .if_icmp .eq 24, []), 
  none, none, some (1, .aload_n 0, .aload_n 0, []), some (3, .getfield 21, .getfield 198, [529]), none, none, some (1, .iconst 2, .iconst 2, []), some (3, .if_icmp .eq 11, .if_icmp .eq 24, []), 
  none, none, some (1, .aload_n 0, .aload_n 0, []), some (3, .getfield 21, .getfield 198, [529]), none, none, some (1, .iconst 3, .iconst 3, []), some (3, .if_icmp .ne 7, .if_icmp .ne 28, []), 
  none, none, some (1, .iconst 1, .iconst 1, []), some (3, .goto 4, .goto 29, []), none, none, some (1, .iconst 0, .iconst 0, []), some (1, .ireturn, .ireturn, [])
  ])
def mj_Ca_holds : mv_J := (⟨"PlugTree$Card", "holds", "(I)Z"⟩, prog_3_method_3_code, 3, some .boolean, [], [], 2, 3, [
  some (1, .iconst 0, .iconst 0, []), some (1, .istore_n 2, .istore_n 2, []), some (1, .iload_n 2, .iload_n 2, []), some (1, .iconst 3, .iconst 3, []), 
  some (3, .if_icmp .ge 41, .if_icmp .ge 45, []), none, none, some (1, .iload_n 1, .iload_n 1, []), some (1, .aload_n 0, .aload_n 0, []), some (3, .getfield 9, .getfield 195, [523]), 
  none, none, some (1, .iload_n 2, .iload_n 2, []), some (1, .iaload, .iaload, []), some (3, .if_icmp .lt 25, .if_icmp .lt 39, []), none, none, some (1, .iload_n 1, .iload_n 1, []), 
  some (1, .aload_n 0, .aload_n 0, []), some (3, .getfield 9, .getfield 195, [523]), none, none, some (1, .iload_n 2, .iload_n 2, []), some (1, .iaload, .iaload, []), 
  some (1, .aload_n 0, .aload_n 0, []), some (3, .getfield 32, .getfield 194, [519]), none, none, some (3, .getfield 36, .getfield 128, [485]), none, none, 
  some (1, .iload_n 2, .iload_n 2, []), some (1, .iaload, .iaload, []), some (1, .iadd, .iadd, []), some (3, .if_icmp .ge 5, .if_icmp .ge 39, []), none, 
  none, some (1, .iconst 1, .iconst 1, []), some (1, .ireturn, .ireturn, []), some (3, .iinc 2 1, .iinc 2 1, []), none, none, some (3, .goto (-40), .goto 2, []), 
  none, none, some (1, .iconst 0, .iconst 0, []), some (1, .ireturn, .ireturn, [])])
def mj_Ca_init : mv_J := (⟨"PlugTree$Card", "<init>", "(LPlugTree$Bridge;ILPlugTree$Type;)V"⟩, prog_3_method_1_code, 4, none, [], [], 4, 3, [
  some (1, .aload_n 0, .aload_n 0, []), some (3, .invokespecial 3, .monitorexit, [513, 75, 76]), none, none, some (1, .aload_n 0, .aload_n 0, []), some (1, .iconst 3, .iconst 3, []), 
  some (2, .newarray .int, .newarray .int, [125]), none, some (3, .putfield 9, .putfield 195, [523]), none, none, some (1, .aload_n 0, .aload_n 0, []), 
  some (2, .bipush 8, .bipush 8, []), none, some (3, .anewarray 15, .anewarray 6, [514, 515]), none, none, some (3, .putfield 17, .putfield 196, [526]), 
  none, none, some (1, .aload_n 0, .aload_n 0, []), some (1, .iconst 0, .iconst 0, []), some (3, .putfield 21, .putfield 198, [529]), none, none, some (1, .aload_n 0, .aload_n 0, []), 
  some (1, .aload_n 1, .aload_n 1, []), some (3, .putfield 25, .putfield 192, [516]), none, none, some (1, .aload_n 0, .aload_n 0, []), some (1, .iload_n 2, .iload_n 2, []), 
  some (3, .putfield 29, .putfield 193, [518]), none, none, some (1, .aload_n 0, .aload_n 0, []), some (1, .aload_n 3, .aload_n 3, []), some (3, .putfield 32, .putfield 194, [519]), 
  none, none, some (1, .return_, .return_, [])])
def mj_Ca_loseFrom : mv_J := (⟨"PlugTree$Card", "loseFrom", "(I)I"⟩, prog_3_method_5_code, 4, some .int, [], [], 2, 3, [
  some (1, .iconst 0, .iconst 0, []), some (1, .istore_n 2, .istore_n 2, []), some (1, .iload_n 1, .iload_n 1, []), some (1, .istore_n 3, .istore_n 3, []), 
  some (1, .iload_n 3, .iload_n 3, []), some (1, .aload_n 0, .aload_n 0, []), some (3, .getfield 47, .getfield 200, [532]), none, none, some (3, .if_icmp .ge 31, .if_icmp .ge 40, []), 
  none, none, some (1, .aload_n 0, .aload_n 0, []), some (3, .getfield 17, .getfield 196, [526]), none, none, some (1, .iload_n 3, .iload_n 3, []), some (1, .aaload, .aaload, []), 
  some (3, .ldc2_w 50, .ldc2_w 2199023255552, [575]), none, none, some (3, .putfield 52, .putfield 258, [606]), none, none, some (1, .aload_n 0, .aload_n 0, []), 
  some (3, .getfield 17, .getfield 196, [526]), none, none, some (1, .iload_n 3, .iload_n 3, []), some (1, .aconst_null, .aconst_null, []), some (1, .aastore, .aastore, []), 
  some (3, .iinc 2 1, .iinc 2 1, []), none, none, some (3, .iinc 3 1, .iinc 3 1, []), none, none, some (3, .goto (-33), .goto 4, []), none, none, some (1, .aload_n 0, .aload_n 0, []), 
  some (1, .dup, .dup, []), some (3, .getfield 47, .getfield 200, [532]), none, none, some (1, .iload_n 2, .iload_n 2, []), some (1, .isub, .isub, []), 
  some (3, .putfield 47, .putfield 200, [532]), none, none, some (1, .aload_n 0, .aload_n 0, []), some (3, .getfield 47, .getfield 200, [532]), none, none, 
  some (3, .ifCond .ne 8, .ifCond .ne 62, []), none, none, some (1, .aload_n 0, .aload_n 0, []), some (1, .iconst 0, .iconst 0, []), some (3, .putfield 56, .putfield 201, [534]), 
  none, none, some (1, .iload_n 2, .iload_n 2, []), some (1, .ireturn, .ireturn, [])])
def mj_Ca_doPiece : mv_J := (⟨"PlugTree$Card", "doPiece", "()Z"⟩, prog_3_method_6_code, 1, some .boolean, [], [], 1, 3, [
  some (1, .aload_n 0, .aload_n 0, []), some (3, .getfield 56, .getfield 201, [534]), none, none, some (3, .ifCond .ne 36, .ifCond .ne 40, []), none, none, 
  some (1, .aload_n 0, .aload_n 0, []), some (3, .getfield 21, .getfield 198, [529]), none, none, some (1, .iconst 1, .iconst 1, []), some (3, .if_icmp .ne 28, .if_icmp .ne 40, []), 
  none, none, some (1, .aload_n 0, .aload_n 0, []), some (3, .getfield 47, .getfield 200, [532]), none, none, some (3, .ifCond .le 21, .ifCond .le 40, []), 
  none, none, some (1, .aload_n 0, .aload_n 0, []), some (1, .aload_n 0, .aload_n 0, []), some (3, .getfield 17, .getfield 196, [526]), none, none, some (1, .iconst 0, .iconst 0, []), 
  some (1, .aaload, .aaload, []), some (3, .getfield 59, .getfield 256, [602]), none, none, some (2, .bipush 8, .bipush 8, []), none, some (1, .irem, .irem, []), 
  some (1, .iconst 1, .iconst 1, []), some (1, .iadd, .iadd, []), some (3, .putfield 56, .putfield 201, [534]), none, none, some (1, .aload_n 0, .aload_n 0, []), 
  some (3, .getfield 56, .getfield 201, [534]), none, none, some (3, .ifCond .ne 5, .ifCond .ne 49, []), none, none, some (1, .iconst 0, .iconst 0, []), 
  some (1, .ireturn, .ireturn, []), some (1, .aload_n 0, .aload_n 0, []), some (1, .dup, .dup, []), some (3, .getfield 56, .getfield 201, [534]), none, 
  none, some (1, .iconst 1, .iconst 1, []), some (1, .isub, .isub, []), some (3, .putfield 56, .putfield 201, [534]), none, none, some (1, .aload_n 0, .aload_n 0, []), 
  some (3, .getfield 56, .getfield 201, [534]), none, none, some (3, .ifCond .ne 7, .ifCond .ne 70, []), none, none, some (1, .aload_n 0, .aload_n 0, []), 
  some (3, .invokevirtual 62, .invokevirtual 33, [681, 682, 683]), none, none, some (1, .iconst 1, .iconst 1, []), some (1, .ireturn, .ireturn, [])])
def mj_Ca_finishFirst : mv_J := (⟨"PlugTree$Card", "finishFirst", "()V"⟩, prog_3_method_7_code, 3, none, [], [], 1, 3, [
  some (1, .aload_n 0, .aload_n 0, []), some (3, .getfield 17, .getfield 196, [526]), none, none, some (1, .iconst 0, .iconst 0, []), some (1, .aaload, .aaload, []), 
  some (1, .astore_n 1, .astore_n 1, []), some (1, .aload_n 0, .aload_n 0, []), some (2, .bipush 31, .bipush 31, []), none, some (1, .aload_n 0, .aload_n 0, []), 
  some (3, .getfield 65, .getfield 202, [536]), none, none, some (1, .imul, .imul, []), some (1, .aload_n 1, .aload_n 1, []), some (3, .getfield 68, .getfield 257, [604]), 
  none, none, some (1, .iadd, .iadd, []), some (3, .putfield 65, .putfield 202, [536]), none, none, some (1, .aload_n 1, .aload_n 1, []), some (1, .aload_n 0, .aload_n 0, []), 
  some (3, .getfield 65, .getfield 202, [536]), none, none, some (1, .aload_n 1, .aload_n 1, []), some (3, .getfield 59, .getfield 256, [602]), none, none, 
  some (1, .iadd, .iadd, []), some (1, .i2l, .i2l, []), some (3, .putfield 52, .putfield 258, [606]), none, none, some (1, .aload_n 0, .aload_n 0, []), 
  some (1, .dup, .dup, []), some (3, .getfield 47, .getfield 200, [532]), none, none, some (1, .iconst 1, .iconst 1, []), some (1, .isub, .isub, []), some (3, .putfield 47, .putfield 200, [532]), 
  none, none, some (1, .iconst 0, .iconst 0, []), some (1, .istore_n 2, .istore_n 2, []), some (1, .iload_n 2, .iload_n 2, []), some (1, .aload_n 0, .aload_n 0, []), 
  some (3, .getfield 47, .getfield 200, [532]), none, none, some (3, .if_icmp .ge 23, .if_icmp .ge 77, []), none, none, some (1, .aload_n 0, .aload_n 0, []), 
  some (3, .getfield 17, .getfield 196, [526]), none, none, some (1, .iload_n 2, .iload_n 2, []), some (1, .aload_n 0, .aload_n 0, []), some (3, .getfield 17, .getfield 196, [526]), 
  none, none, some (1, .iload_n 2, .iload_n 2, []), some (1, .iconst 1, .iconst 1, []), some (1, .iadd, .iadd, []), some (1, .aaload, .aaload, []), some (1, .aastore, .aastore, []), 
  some (3, .iinc 2 1, .iinc 2 1, []), none, none, some (3, .goto (-25), .goto 49, []), none, none, some (1, .aload_n 0, .aload_n 0, []), some (3, .getfield 17, .getfield 196, [526]), 
  none, none, some (1, .aload_n 0, .aload_n 0, []), some (3, .getfield 47, .getfield 200, [532]), none, none, some (1, .aconst_null, .aconst_null, []), 
  some (1, .aastore, .aastore, []), some (1, .return_, .return_, [])])
def mj_St_init : mv_J := (⟨"PlugTree$Stretches", "<init>", "()V"⟩, prog_5_method_1_code, 1, none, [], [], 1, 5, [
  some (1, .aload_n 0, .aload_n 0, []), some (3, .invokespecial 3, .monitorexit, [114, 75, 76]), none, none, some (1, .aload_n 0, .aload_n 0, []), some (2, .bipush 12, .bipush 12, []), 
  none, some (2, .newarray .int, .newarray .int, [125]), none, some (3, .putfield 11, .putfield 320, [115]), none, none, some (1, .aload_n 0, .aload_n 0, []), 
  some (2, .bipush 12, .bipush 12, []), none, some (2, .newarray .int, .newarray .int, [125]), none, some (3, .putfield 15, .putfield 321, [116]), none, 
  none, some (1, .return_, .return_, [])])
def mj_St_gather : mv_J := (⟨"PlugTree$Stretches", "gather", "(LPlugTree$Bridge;LPlugTree$Bridge;)V"⟩, prog_5_method_2_code, 6, none, [], [], 3, 5, [
  some (1, .aload_n 0, .aload_n 0, []), some (1, .iconst 0, .iconst 0, []), some (3, .putfield 18, .putfield 322, [117]), none, none, some (1, .iconst 0, .iconst 0, []), 
  some (1, .istore_n 3, .istore_n 3, []), some (1, .iload_n 3, .iload_n 3, []), some (1, .iconst 4, .iconst 4, []), some (3, .if_icmp .ge 77, .if_icmp .ge 86, []), 
  none, none, some (1, .aload_n 1, .aload_n 1, []), some (3, .getfield 22, .getfield 68, [142]), none, none, some (1, .iload_n 3, .iload_n 3, []), some (1, .aaload, .aaload, []), 
  some (2, .astore 4, .astore 4, []), none, some (2, .aload 4, .aload 4, []), none, some (3, .ifnull 31, .ifnull 53, []), none, none, some (2, .aload 4, .aload 4, []), 
  none, some (1, .aload_n 2, .aload_n 2, []), some (3, .if_acmp .eq 25, .if_acmp .eq 53, []), none, none, some (2, .aload 4, .aload 4, []), none, some (3, .invokevirtual 28, .invokevirtual 23, [238, 239, 240]), 
  none, none, some (3, .ifCond .ne 17, .ifCond .ne 53, []), none, none, some (1, .aload_n 0, .aload_n 0, []), some (2, .aload 4, .aload 4, []), none, some (3, .getfield 32, .getfield 70, [148]), 
  none, none, some (2, .aload 4, .aload 4, []), none, some (3, .getfield 35, .getfield 71, [152]), none, none, some (3, .invokevirtual 38, .invokevirtual 36, [242, 243, 244]), 
  none, none, some (1, .aload_n 1, .aload_n 1, []), some (3, .getfield 42, .getfield 69, [145]), none, none, some (1, .iload_n 3, .iload_n 3, []), some (1, .aaload, .aaload, []), 
  some (2, .astore 5, .astore 5, []), none, some (2, .aload 5, .aload 5, []), none, some (3, .ifnull 17, .ifnull 80, []), none, none, some (2, .aload 5, .aload 5, []), 
  none, some (3, .invokevirtual 46, .invokevirtual 28, [246, 247, 248]), none, none, some (3, .ifCond .eq 9, .ifCond .eq 80, []), none, none, some (1, .aload_n 0, .aload_n 0, []), 
  some (2, .aload 5, .aload 5, []), none, some (3, .invokevirtual 51, .invokevirtual 37, [250, 251, 252]), none, none, some (3, .iinc 3 1, .iinc 3 1, []), 
  none, none, some (3, .goto (-76), .goto 7, []), none, none, some (1, .return_, .return_, [])])
def mj_St_add : mv_J := (⟨"PlugTree$Stretches", "add", "(II)V"⟩, prog_5_method_5_code, 4, none, [], [], 3, 5, [
  some (1, .aload_n 0, .aload_n 0, []), some (3, .getfield 18, .getfield 322, [117]), none, none, some (2, .bipush 12, .bipush 12, []), none, some (3, .if_icmp .ne 4, .if_icmp .ne 10, []), 
  none, none, some (1, .return_, .return_, []), some (1, .aload_n 0, .aload_n 0, []), some (3, .getfield 18, .getfield 322, [117]), none, none, some (1, .istore_n 3, .istore_n 3, []), 
  some (1, .iload_n 3, .iload_n 3, []), some (3, .ifCond .le 49, .ifCond .le 65, []), none, none, some (1, .aload_n 0, .aload_n 0, []), some (3, .getfield 11, .getfield 320, [115]), 
  none, none, some (1, .iload_n 3, .iload_n 3, []), some (1, .iconst 1, .iconst 1, []), some (1, .isub, .isub, []), some (1, .iaload, .iaload, []), some (1, .iload_n 1, .iload_n 1, []), 
  some (3, .if_icmp .le 37, .if_icmp .le 65, []), none, none, some (1, .aload_n 0, .aload_n 0, []), some (3, .getfield 11, .getfield 320, [115]), none, 
  none, some (1, .iload_n 3, .iload_n 3, []), some (1, .aload_n 0, .aload_n 0, []), some (3, .getfield 11, .getfield 320, [115]), none, none, some (1, .iload_n 3, .iload_n 3, []), 
  some (1, .iconst 1, .iconst 1, []), some (1, .isub, .isub, []), some (1, .iaload, .iaload, []), some (1, .iastore, .iastore, []), some (1, .aload_n 0, .aload_n 0, []), 
  some (3, .getfield 15, .getfield 321, [116]), none, none, some (1, .iload_n 3, .iload_n 3, []), some (1, .aload_n 0, .aload_n 0, []), some (3, .getfield 15, .getfield 321, [116]), 
  none, none, some (1, .iload_n 3, .iload_n 3, []), some (1, .iconst 1, .iconst 1, []), some (1, .isub, .isub, []), some (1, .iaload, .iaload, []), some (1, .iastore, .iastore, []), 
  some (3, .iinc 3 (-1), .iinc 3 (-1), []), none, none, some (3, .goto (-47), .goto 15, []), none, none, some (1, .aload_n 0, .aload_n 0, []), some (3, .getfield 11, .getfield 320, [115]), 
  none, none, some (1, .iload_n 3, .iload_n 3, []), some (1, .iload_n 1, .iload_n 1, []), some (1, .iastore, .iastore, []), some (1, .aload_n 0, .aload_n 0, []), 
  some (3, .getfield 15, .getfield 321, [116]), none, none, some (1, .iload_n 3, .iload_n 3, []), some (1, .iload_n 2, .iload_n 2, []), some (1, .iastore, .iastore, []), 
  some (1, .aload_n 0, .aload_n 0, []), some (1, .dup, .dup, []), some (3, .getfield 18, .getfield 322, [117]), none, none, some (1, .iconst 1, .iconst 1, []), 
  some (1, .iadd, .iadd, []), some (3, .putfield 18, .putfield 322, [117]), none, none, some (1, .return_, .return_, [])])
def mj_St_addRanges : mv_J := (⟨"PlugTree$Stretches", "addRanges", "(LPlugTree$Card;)V"⟩, prog_5_method_3_code, 3, none, [], [], 2, 5, [
  some (1, .iconst 0, .iconst 0, []), some (1, .istore_n 2, .istore_n 2, []), some (1, .iload_n 2, .iload_n 2, []), some (1, .iconst 3, .iconst 3, []), 
  some (3, .if_icmp .ge 47, .if_icmp .ge 51, []), none, none, some (1, .aload_n 1, .aload_n 1, []), some (3, .getfield 55, .getfield 194, [520]), none, 
  none, some (3, .getfield 59, .getfield 128, [484]), none, none, some (1, .iload_n 2, .iload_n 2, []), some (1, .iaload, .iaload, []), some (3, .ifCond .le 29, .ifCond .le 45, []), 
  none, none, some (1, .aload_n 0, .aload_n 0, []), some (1, .aload_n 1, .aload_n 1, []), some (3, .getfield 64, .getfield 195, [524]), none, none, some (1, .iload_n 2, .iload_n 2, []), 
  some (1, .iaload, .iaload, []), some (1, .aload_n 1, .aload_n 1, []), some (3, .getfield 64, .getfield 195, [524]), none, none, some (1, .iload_n 2, .iload_n 2, []), 
  some (1, .iaload, .iaload, []), some (1, .aload_n 1, .aload_n 1, []), some (3, .getfield 55, .getfield 194, [520]), none, none, some (3, .getfield 59, .getfield 128, [484]), 
  none, none, some (1, .iload_n 2, .iload_n 2, []), some (1, .iaload, .iaload, []), some (1, .iadd, .iadd, []), some (3, .invokevirtual 38, .invokevirtual 36, [242, 243, 244]), 
  none, none, some (3, .iinc 2 1, .iinc 2 1, []), none, none, some (3, .goto (-46), .goto 2, []), none, none, some (1, .return_, .return_, [])])
def mj_St_become : mv_J := (⟨"PlugTree$Stretches", "become", "(LPlugTree$Stretches;)V"⟩, prog_5_method_4_code, 2, none, [], [], 2, 5, [
  some (1, .aload_n 1, .aload_n 1, []), some (3, .getfield 11, .getfield 320, [115]), none, none, some (1, .iconst 0, .iconst 0, []), some (1, .aload_n 0, .aload_n 0, []), 
  some (3, .getfield 11, .getfield 320, [115]), none, none, some (1, .iconst 0, .iconst 0, []), some (2, .bipush 12, .bipush 12, []), none, some (3, .invokestatic 65, .monitorenter, [279, 281, 280, 62]), 
  none, none, some (1, .aload_n 1, .aload_n 1, []), some (3, .getfield 15, .getfield 321, [116]), none, none, some (1, .iconst 0, .iconst 0, []), some (1, .aload_n 0, .aload_n 0, []), 
  some (3, .getfield 15, .getfield 321, [116]), none, none, some (1, .iconst 0, .iconst 0, []), some (2, .bipush 12, .bipush 12, []), none, some (3, .invokestatic 65, .monitorenter, [279, 281, 280, 62]), 
  none, none, some (1, .aload_n 0, .aload_n 0, []), some (1, .aload_n 1, .aload_n 1, []), some (3, .getfield 18, .getfield 322, [117]), none, none, some (3, .putfield 18, .putfield 322, [117]), 
  none, none, some (1, .return_, .return_, [])])
def mj_St_placeFor : mv_J := (⟨"PlugTree$Stretches", "placeFor", "(III)I"⟩, prog_5_method_7_code, 10, some .int, [], [], 4, 5, [
  some (1, .iconst (-1), .iconst (-1), []), some (2, .istore 4, .istore 4, []), none, some (1, .iconst 0, .iconst 0, []), some (2, .istore 5, .istore 5, []), 
  none, some (1, .iconst 0, .iconst 0, []), some (2, .istore 6, .istore 6, []), none, some (2, .iload 6, .iload 6, []), none, some (1, .aload_n 0, .aload_n 0, []), 
  some (3, .getfield 18, .getfield 322, [117]), none, none, some (3, .if_icmp .gt 98, .if_icmp .gt 113, []), none, none, some (2, .iload 6, .iload 6, []), 
  none, some (3, .ifCond .le 15, .ifCond .le 35, []), none, none, some (1, .aload_n 0, .aload_n 0, []), some (3, .getfield 15, .getfield 321, [116]), none, 
  none, some (2, .iload 6, .iload 6, []), none, some (1, .iconst 1, .iconst 1, []), some (1, .isub, .isub, []), some (1, .iaload, .iaload, []), some (3, .goto 4, .goto 36, []), 
  none, none, some (1, .iload_n 2, .iload_n 2, []), some (2, .istore 7, .istore 7, []), none, some (2, .iload 6, .iload 6, []), none, some (1, .aload_n 0, .aload_n 0, []), 
  some (3, .getfield 18, .getfield 322, [117]), none, none, some (3, .if_icmp .ge 13, .if_icmp .ge 57, []), none, none, some (1, .aload_n 0, .aload_n 0, []), 
  some (3, .getfield 11, .getfield 320, [115]), none, none, some (2, .iload 6, .iload 6, []), none, some (1, .iaload, .iaload, []), some (3, .goto 4, .goto 58, []), 
  none, none, some (1, .iload_n 3, .iload_n 3, []), some (2, .istore 8, .istore 8, []), none, some (2, .iload 7, .iload 7, []), none, some (1, .iload_n 1, .iload_n 1, []), 
  some (1, .iadd, .iadd, []), some (1, .iconst 1, .iconst 1, []), some (1, .isub, .isub, []), some (1, .iload_n 1, .iload_n 1, []), some (1, .ineg, .ineg, []), 
  some (1, .iand, .iand, []), some (2, .istore 9, .istore 9, []), none, some (2, .iload 9, .iload 9, []), none, some (1, .iload_n 1, .iload_n 1, []), some (1, .iadd, .iadd, []), 
  some (2, .iload 8, .iload 8, []), none, some (3, .if_icmp .gt 30, .if_icmp .gt 107, []), none, none, some (2, .iload 4, .iload 4, []), none, some (1, .iconst (-1), .iconst (-1), []), 
  some (3, .if_icmp .eq 13, .if_icmp .eq 96, []), none, none, some (2, .iload 8, .iload 8, []), none, some (2, .iload 7, .iload 7, []), none, some (1, .isub, .isub, []), 
  some (2, .iload 5, .iload 5, []), none, some (3, .if_icmp .ge 14, .if_icmp .ge 107, []), none, none, some (2, .iload 9, .iload 9, []), none, some (2, .istore 4, .istore 4, []), 
  none, some (2, .iload 8, .iload 8, []), none, some (2, .iload 7, .iload 7, []), none, some (1, .isub, .isub, []), some (2, .istore 5, .istore 5, []), 
  none, some (3, .iinc 6 1, .iinc 6 1, []), none, none, some (3, .goto (-101), .goto 9, []), none, none, some (2, .iload 4, .iload 4, []), none, some (1, .ireturn, .ireturn, [])
  ])
def mj_St_isFree : mv_J := (⟨"PlugTree$Stretches", "isFree", "(II)Z"⟩, prog_5_method_6_code, 4, some .boolean, [], [], 3, 5, [
  some (1, .iconst 0, .iconst 0, []), some (1, .istore_n 3, .istore_n 3, []), some (1, .iload_n 3, .iload_n 3, []), some (1, .aload_n 0, .aload_n 0, []), 
  some (3, .getfield 18, .getfield 322, [117]), none, none, some (3, .if_icmp .ge 31, .if_icmp .ge 38, []), none, none, some (1, .aload_n 0, .aload_n 0, []), 
  some (3, .getfield 11, .getfield 320, [115]), none, none, some (1, .iload_n 3, .iload_n 3, []), some (1, .iaload, .iaload, []), some (1, .iload_n 2, .iload_n 2, []), 
  some (3, .if_icmp .ge 15, .if_icmp .ge 32, []), none, none, some (1, .iload_n 1, .iload_n 1, []), some (1, .aload_n 0, .aload_n 0, []), some (3, .getfield 15, .getfield 321, [116]), 
  none, none, some (1, .iload_n 3, .iload_n 3, []), some (1, .iaload, .iaload, []), some (3, .if_icmp .ge 5, .if_icmp .ge 32, []), none, none, some (1, .iconst 0, .iconst 0, []), 
  some (1, .ireturn, .ireturn, []), some (3, .iinc 3 1, .iinc 3 1, []), none, none, some (3, .goto (-33), .goto 2, []), none, none, some (1, .iconst 1, .iconst 1, []), 
  some (1, .ireturn, .ireturn, [])])
def mj_PT_init : mv_J := (⟨"PlugTree", "<init>", "()V"⟩, prog_1_method_1_code, 1, none, [], [], 1, 0, [
  some (1, .aload_n 0, .aload_n 0, []), some (3, .invokespecial 1, .monitorexit, [74, 75, 76]), none, none, some (1, .aload_n 0, .aload_n 0, []), some (2, .bipush 8, .bipush 8, []), 
  none, some (3, .anewarray 9, .anewarray 3, [77, 78]), none, none, some (3, .putfield 11, .putfield 0, [175]), none, none, some (1, .aload_n 0, .aload_n 0, []), 
  some (2, .bipush 16, .bipush 16, []), none, some (3, .anewarray 15, .anewarray 4, [79, 80]), none, none, some (3, .putfield 17, .putfield 1, [176]), 
  none, none, some (1, .aload_n 0, .aload_n 0, []), some (2, .bipush 40, .bipush 40, []), none, some (3, .anewarray 21, .anewarray 5, [81, 82]), none, 
  none, some (3, .putfield 23, .putfield 2, [177]), none, none, some (1, .aload_n 0, .aload_n 0, []), some (3, .new 27, .new 7, [83, 84, 51]), none, none, 
  some (1, .dup, .dup, []), some (3, .invokespecial 29, .invokespecial 2, [85, 86, 87]), none, none, some (3, .putfield 30, .putfield 3, [178]), none, 
  none, some (1, .aload_n 0, .aload_n 0, []), some (3, .new 34, .new 5, [109, 110, 52]), none, none, some (1, .dup, .dup, []), some (3, .invokespecial 36, .invokespecial 34, [111, 112, 113]), 
  none, none, some (3, .putfield 37, .putfield 4, [179]), none, none, some (1, .aload_n 0, .aload_n 0, []), some (3, .new 34, .new 5, [109, 110, 52]), 
  none, none, some (1, .dup, .dup, []), some (3, .invokespecial 36, .invokespecial 34, [111, 112, 113]), none, none, some (3, .putfield 41, .putfield 5, [180]), 
  none, none, some (1, .aload_n 0, .aload_n 0, []), some (3, .new 34, .new 5, [109, 110, 52]), none, none, some (1, .dup, .dup, []), some (3, .invokespecial 36, .invokespecial 34, [111, 112, 113]), 
  none, none, some (3, .putfield 44, .putfield 6, [181]), none, none, some (1, .aload_n 0, .aload_n 0, []), some (1, .iconst 3, .iconst 3, []), some (2, .newarray .int, .newarray .int, [125]), 
  none, some (3, .putfield 47, .putfield 7, [182]), none, none, some (1, .aload_n 0, .aload_n 0, []), some (3, .getfield 11, .getfield 0, [175]), none, 
  none, some (1, .iconst 0, .iconst 0, []), some (3, .new 9, .new 1, [77, 126, 53]), none, none, some (1, .dup, .dup, []), some (1, .iconst 0, .iconst 0, []), 
  some (1, .aconst_null, .aconst_null, []), some (3, .sipush 1000, .sipush 1000, []), none, none, some (3, .invokespecial 51, .invokespecial 22, [127, 128, 129]), 
  none, none, some (1, .aastore, .aastore, []), some (1, .aload_n 0, .aload_n 0, []), some (3, .getfield 11, .getfield 0, [175]), none, none, some (1, .iconst 0, .iconst 0, []), 
  some (1, .aaload, .aaload, []), some (3, .sipush 4096, .sipush 4096, []), none, none, some (3, .putfield 54, .putfield 71, [151]), none, none, some (1, .aload_n 0, .aload_n 0, []), 
  some (1, .iconst 1, .iconst 1, []), some (3, .putfield 58, .putfield 8, [183]), none, none, some (1, .return_, .return_, [])])
def mj_PT_step : mv_J := (⟨"PlugTree", "step", "()Z"⟩, prog_1_method_5_code, 2, some .boolean, [], [], 1, 0, [
  some (1, .aload_n 0, .aload_n 0, []), some (3, .invokevirtual 112, .invokevirtual 43, [222, 224, 0]), none, none, some (1, .istore_n 1, .istore_n 1, []), 
  some (1, .aload_n 0, .aload_n 0, []), some (3, .getfield 80, .getfield 11, [186]), none, none, some (3, .ifnonnull 5, .ifnonnull 14, []), none, none, 
  some (1, .iload_n 1, .iload_n 1, []), some (1, .ireturn, .ireturn, []), some (1, .aload_n 0, .aload_n 0, []), some (3, .getfield 108, .getfield 12, [187]), 
  none, none, some (3, .ifCond .ne 13, .ifCond .ne 31, []), none, none, some (1, .aload_n 0, .aload_n 0, []), some (1, .aload_n 0, .aload_n 0, []), some (3, .getfield 80, .getfield 11, [186]), 
  none, none, some (3, .invokevirtual 116, .invokevirtual 44, [230, 232, 1]), none, none, some (1, .iconst 1, .iconst 1, []), some (1, .ireturn, .ireturn, []), 
  some (1, .aload_n 0, .aload_n 0, []), some (3, .invokevirtual 120, .invokevirtual 56, [329, 331, 12]), none, none, some (3, .ifCond .eq 5, .ifCond .eq 40, []), 
  none, none, some (1, .iload_n 1, .iload_n 1, []), some (1, .ireturn, .ireturn, []), some (1, .aload_n 0, .aload_n 0, []), some (1, .aload_n 0, .aload_n 0, []), 
  some (3, .getfield 80, .getfield 11, [186]), none, none, some (3, .invokevirtual 123, .invokevirtual 57, [333, 335, 13]), none, none, some (1, .iconst 1, .iconst 1, []), 
  some (1, .ireturn, .ireturn, [])])
def mj_PT_dismissLeaving : mv_J := (⟨"PlugTree", "dismissLeaving", "()Z"⟩, prog_1_method_23_code, 3, some .boolean, [], [], 1, 0, [
  some (1, .iconst 0, .iconst 0, []), some (1, .istore_n 1, .istore_n 1, []), some (1, .iconst 0, .iconst 0, []), some (1, .istore_n 2, .istore_n 2, []), 
  some (1, .iload_n 2, .iload_n 2, []), some (1, .aload_n 0, .aload_n 0, []), some (3, .getfield 96, .getfield 10, [185]), none, none, some (3, .if_icmp .ge 46, .if_icmp .ge 55, []), 
  none, none, some (1, .aload_n 0, .aload_n 0, []), some (3, .getfield 23, .getfield 2, [177]), none, none, some (1, .iload_n 2, .iload_n 2, []), some (1, .aaload, .aaload, []), 
  some (3, .getfield 133, .getfield 198, [530]), none, none, some (1, .iconst 3, .iconst 3, []), some (3, .if_icmp .ne 27, .if_icmp .ne 49, []), none, 
  none, some (1, .aload_n 0, .aload_n 0, []), some (3, .getfield 23, .getfield 2, [177]), none, none, some (1, .iload_n 2, .iload_n 2, []), some (1, .aaload, .aaload, []), 
  some (3, .getfield 147, .getfield 201, [535]), none, none, some (3, .ifCond .ne 15, .ifCond .ne 49, []), none, none, some (1, .aload_n 0, .aload_n 0, []), 
  some (3, .getfield 23, .getfield 2, [177]), none, none, some (1, .iload_n 2, .iload_n 2, []), some (1, .aaload, .aaload, []), some (1, .iconst 4, .iconst 4, []), 
  some (3, .invokevirtual 140, .invokevirtual 27, [226, 227, 228]), none, none, some (1, .iconst 1, .iconst 1, []), some (1, .istore_n 1, .istore_n 1, []), 
  some (3, .iinc 2 1, .iinc 2 1, []), none, none, some (3, .goto (-48), .goto 4, []), none, none, some (1, .iload_n 1, .iload_n 1, []), some (1, .ireturn, .ireturn, [])
  ])
def mj_PT_examine : mv_J := (⟨"PlugTree", "examine", "(LPlugTree$Card;)V"⟩, prog_1_method_24_code, 2, none, [], [], 2, 0, [
  some (1, .aload_n 0, .aload_n 0, []), some (3, .getfield 37, .getfield 4, [179]), none, none, some (1, .aload_n 1, .aload_n 1, []), some (3, .getfield 213, .getfield 192, [517]), 
  none, none, some (1, .aconst_null, .aconst_null, []), some (3, .invokevirtual 217, .invokevirtual 35, [234, 235, 236]), none, none, some (1, .aload_n 0, .aload_n 0, []), 
  some (1, .aload_n 1, .aload_n 1, []), some (3, .invokevirtual 221, .invokevirtual 45, [254, 256, 2]), none, none, some (3, .ifCond .eq 12, .ifCond .eq 29, []), 
  none, none, some (1, .aload_n 0, .aload_n 0, []), some (1, .aload_n 1, .aload_n 1, []), some (1, .iconst 1, .iconst 1, []), some (3, .invokevirtual 225, .invokevirtual 47, [267, 269, 4]), 
  none, none, some (3, .goto 87, .goto 113, []), none, none, some (1, .aload_n 0, .aload_n 0, []), some (1, .aload_n 1, .aload_n 1, []), some (1, .aload_n 1, .aload_n 1, []), 
  some (3, .getfield 213, .getfield 192, [517]), none, none, some (3, .getfield 199, .getfield 70, [150]), none, none, some (1, .aload_n 1, .aload_n 1, []), 
  some (3, .getfield 213, .getfield 192, [517]), none, none, some (3, .getfield 54, .getfield 71, [151]), none, none, some (3, .invokevirtual 229, .invokevirtual 48, [271, 273, 5]), 
  none, none, some (3, .ifCond .ne 11, .ifCond .ne 59, []), none, none, some (1, .aload_n 0, .aload_n 0, []), some (1, .aload_n 1, .aload_n 1, []), some (3, .invokevirtual 233, .invokevirtual 49, [287, 289, 6]), 
  none, none, some (3, .ifCond .eq 11, .ifCond .eq 67, []), none, none, some (1, .aload_n 0, .aload_n 0, []), some (1, .aload_n 1, .aload_n 1, []), some (3, .invokevirtual 236, .invokevirtual 51, [300, 302, 8]), 
  none, none, some (3, .goto 49, .goto 113, []), none, none, some (1, .aload_n 0, .aload_n 0, []), some (3, .invokevirtual 239, .invokevirtual 52, [305, 307, 9]), 
  none, none, some (3, .ifCond .ne 12, .ifCond .ne 83, []), none, none, some (1, .aload_n 0, .aload_n 0, []), some (1, .aload_n 1, .aload_n 1, []), some (1, .iconst 2, .iconst 2, []), 
  some (3, .invokevirtual 225, .invokevirtual 47, [267, 269, 4]), none, none, some (3, .goto 33, .goto 113, []), none, none, some (1, .aload_n 0, .aload_n 0, []), 
  some (3, .invokevirtual 242, .invokevirtual 53, [309, 311, 10]), none, none, some (3, .sipush 4096, .sipush 4096, []), none, none, some (3, .if_icmp .le 12, .if_icmp .le 102, []), 
  none, none, some (1, .aload_n 0, .aload_n 0, []), some (1, .aload_n 1, .aload_n 1, []), some (1, .iconst 3, .iconst 3, []), some (3, .invokevirtual 225, .invokevirtual 47, [267, 269, 4]), 
  none, none, some (3, .goto 14, .goto 113, []), none, none, some (1, .aload_n 0, .aload_n 0, []), some (1, .iconst 1, .iconst 1, []), some (1, .iconst 2, .iconst 2, []), 
  some (3, .invokevirtual 136, .invokevirtual 55, [325, 327, 11]), none, none, some (1, .aload_n 0, .aload_n 0, []), some (1, .iconst 1, .iconst 1, []), 
  some (3, .putfield 108, .putfield 12, [187]), none, none, some (1, .return_, .return_, [])])
def mj_PT_exceedsPower : mv_J := (⟨"PlugTree", "exceedsPower", "(LPlugTree$Card;)Z"⟩, prog_1_method_27_code, 3, some .boolean, [], [], 2, 0, [
  some (1, .aload_n 1, .aload_n 1, []), some (3, .getfield 213, .getfield 192, [517]), none, none, some (1, .astore_n 2, .astore_n 2, []), some (1, .aload_n 2, .aload_n 2, []), 
  some (3, .ifnull 33, .ifnull 39, []), none, none, some (1, .aload_n 0, .aload_n 0, []), some (1, .aload_n 2, .aload_n 2, []), some (3, .invokevirtual 205, .invokevirtual 46, [258, 260, 3]), 
  none, none, some (1, .aload_n 1, .aload_n 1, []), some (3, .getfield 189, .getfield 194, [522]), none, none, some (3, .getfield 251, .getfield 130, [490]), 
  none, none, some (1, .iadd, .iadd, []), some (1, .aload_n 2, .aload_n 2, []), some (3, .getfield 254, .getfield 66, [138]), none, none, some (3, .if_icmp .le 5, .if_icmp .le 31, []), 
  none, none, some (1, .iconst 1, .iconst 1, []), some (1, .ireturn, .ireturn, []), some (1, .aload_n 2, .aload_n 2, []), some (3, .getfield 257, .getfield 65, [136]), 
  none, none, some (1, .astore_n 2, .astore_n 2, []), some (3, .goto (-31), .goto 5, []), none, none, some (1, .iconst 0, .iconst 0, []), some (1, .ireturn, .ireturn, [])
  ])
def mj_PT_powerUsed : mv_J := (⟨"PlugTree", "powerUsed", "(LPlugTree$Bridge;)I"⟩, prog_1_method_28_code, 4, some .int, [], [], 2, 0, [
  some (1, .iconst 0, .iconst 0, []), some (1, .istore_n 2, .istore_n 2, []), some (1, .iconst 0, .iconst 0, []), some (1, .istore_n 3, .istore_n 3, []), 
  some (1, .iload_n 3, .iload_n 3, []), some (1, .aload_n 0, .aload_n 0, []), some (3, .getfield 96, .getfield 10, [185]), none, none, some (3, .if_icmp .ge 52, .if_icmp .ge 61, []), 
  none, none, some (1, .aload_n 0, .aload_n 0, []), some (3, .getfield 23, .getfield 2, [177]), none, none, some (1, .iload_n 3, .iload_n 3, []), some (1, .aaload, .aaload, []), 
  some (3, .invokevirtual 186, .invokevirtual 28, [262, 247, 248]), none, none, some (3, .ifCond .eq 34, .ifCond .eq 55, []), none, none, some (1, .aload_n 0, .aload_n 0, []), 
  some (3, .getfield 23, .getfield 2, [177]), none, none, some (1, .iload_n 3, .iload_n 3, []), some (1, .aaload, .aaload, []), some (3, .getfield 213, .getfield 192, [517]), 
  none, none, some (1, .aload_n 1, .aload_n 1, []), some (3, .invokevirtual 260, .invokevirtual 24, [263, 264, 265]), none, none, some (3, .ifCond .eq 18, .ifCond .eq 55, []), 
  none, none, some (1, .iload_n 2, .iload_n 2, []), some (1, .aload_n 0, .aload_n 0, []), some (3, .getfield 23, .getfield 2, [177]), none, none, some (1, .iload_n 3, .iload_n 3, []), 
  some (1, .aaload, .aaload, []), some (3, .getfield 189, .getfield 194, [522]), none, none, some (3, .getfield 251, .getfield 130, [490]), none, none, 
  some (1, .iadd, .iadd, []), some (1, .istore_n 2, .istore_n 2, []), some (3, .iinc 3 1, .iinc 3 1, []), none, none, some (3, .goto (-54), .goto 4, []), 
  none, none, some (1, .iload_n 2, .iload_n 2, []), some (1, .ireturn, .ireturn, [])])
def mj_PT_refuse : mv_J := (⟨"PlugTree", "refuse", "(LPlugTree$Card;I)V"⟩, prog_1_method_25_code, 3, none, [], [], 3, 0, [
  some (1, .aload_n 1, .aload_n 1, []), some (1, .iconst 5, .iconst 5, []), some (3, .invokevirtual 140, .invokevirtual 27, [226, 227, 228]), none, none, 
  some (1, .aload_n 1, .aload_n 1, []), some (1, .iload_n 2, .iload_n 2, []), some (3, .putfield 183, .putfield 199, [531]), none, none, some (1, .aload_n 0, .aload_n 0, []), 
  some (1, .aconst_null, .aconst_null, []), some (3, .putfield 80, .putfield 11, [186]), none, none, some (1, .return_, .return_, [])])
def mj_PT_fits : mv_J := (⟨"PlugTree", "fits", "(LPlugTree$Card;II)Z"⟩, prog_1_method_29_code, 8, some .boolean, [], [], 4, 0, [
  some (1, .aload_n 0, .aload_n 0, []), some (3, .getfield 44, .getfield 6, [181]), none, none, some (1, .aload_n 0, .aload_n 0, []), some (3, .getfield 37, .getfield 4, [179]), 
  none, none, some (3, .invokevirtual 264, .invokevirtual 38, [275, 276, 277]), none, none, some (1, .iconst 0, .iconst 0, []), some (2, .istore 4, .istore 4, []), 
  none, some (2, .iload 4, .iload 4, []), none, some (1, .iconst 3, .iconst 3, []), some (3, .if_icmp .ge 91, .if_icmp .ge 108, []), none, none, some (1, .aload_n 1, .aload_n 1, []), 
  some (3, .getfield 189, .getfield 194, [522]), none, none, some (3, .getfield 268, .getfield 129, [488]), none, none, some (2, .iload 4, .iload 4, []), 
  none, some (1, .iaload, .iaload, []), some (2, .istore 5, .istore 5, []), none, some (1, .aload_n 1, .aload_n 1, []), some (3, .getfield 189, .getfield 194, [522]), 
  none, none, some (3, .getfield 193, .getfield 128, [486]), none, none, some (2, .iload 5, .iload 5, []), none, some (1, .iaload, .iaload, []), some (2, .istore 6, .istore 6, []), 
  none, some (2, .iload 6, .iload 6, []), none, some (3, .ifCond .le 17, .ifCond .le 63, []), none, none, some (1, .aload_n 0, .aload_n 0, []), some (3, .getfield 44, .getfield 6, [181]), 
  none, none, some (2, .iload 6, .iload 6, []), none, some (1, .iload_n 2, .iload_n 2, []), some (1, .iload_n 3, .iload_n 3, []), some (3, .invokevirtual 271, .invokevirtual 39, [282, 283, 284]), 
  none, none, some (3, .goto 4, .goto 64, []), none, none, some (1, .iconst 0, .iconst 0, []), some (2, .istore 7, .istore 7, []), none, some (2, .iload 7, .iload 7, []), 
  none, some (1, .iconst (-1), .iconst (-1), []), some (3, .if_icmp .ne 5, .if_icmp .ne 74, []), none, none, some (1, .iconst 0, .iconst 0, []), some (1, .ireturn, .ireturn, []), 
  some (1, .aload_n 0, .aload_n 0, []), some (3, .getfield 47, .getfield 7, [182]), none, none, some (2, .iload 5, .iload 5, []), none, some (2, .iload 7, .iload 7, []), 
  none, some (1, .iastore, .iastore, []), some (2, .iload 6, .iload 6, []), none, some (3, .ifCond .le 17, .ifCond .le 102, []), none, none, some (1, .aload_n 0, .aload_n 0, []), 
  some (3, .getfield 44, .getfield 6, [181]), none, none, some (2, .iload 7, .iload 7, []), none, some (2, .iload 7, .iload 7, []), none, some (2, .iload 6, .iload 6, []), 
  none, some (1, .iadd, .iadd, []), some (3, .invokevirtual 275, .invokevirtual 36, [286, 243, 244]), none, none, some (3, .iinc 4 1, .iinc 4 1, []), none, 
  none, some (3, .goto (-91), .goto 14, []), none, none, some (1, .iconst 1, .iconst 1, []), some (1, .ireturn, .ireturn, [])])
def mj_PT_grows : mv_J := (⟨"PlugTree", "grows", "(LPlugTree$Card;)Z"⟩, prog_1_method_30_code, 5, some .boolean, [], [], 2, 0, [
  some (1, .aload_n 1, .aload_n 1, []), some (3, .getfield 213, .getfield 192, [517]), none, none, some (1, .astore_n 2, .astore_n 2, []), some (1, .aload_n 2, .aload_n 2, []), 
  some (3, .getfield 257, .getfield 65, [136]), none, none, some (1, .astore_n 3, .astore_n 3, []), some (1, .aload_n 3, .aload_n 3, []), some (3, .ifnonnull 5, .ifnonnull 16, []), 
  none, none, some (1, .iconst 0, .iconst 0, []), some (1, .ireturn, .ireturn, []), some (1, .aload_n 0, .aload_n 0, []), some (3, .getfield 41, .getfield 5, [180]), 
  none, none, some (1, .aload_n 3, .aload_n 3, []), some (1, .aload_n 2, .aload_n 2, []), some (3, .invokevirtual 217, .invokevirtual 35, [234, 235, 236]), 
  none, none, some (1, .aload_n 2, .aload_n 2, []), some (3, .invokevirtual 277, .invokevirtual 23, [291, 239, 240]), none, none, some (3, .ifCond .ne 21, .ifCond .ne 50, []), 
  none, none, some (1, .aload_n 0, .aload_n 0, []), some (1, .aload_n 1, .aload_n 1, []), some (1, .aload_n 2, .aload_n 2, []), some (3, .getfield 199, .getfield 70, [150]), 
  none, none, some (1, .aload_n 2, .aload_n 2, []), some (3, .getfield 54, .getfield 71, [151]), none, none, some (1, .aload_n 3, .aload_n 3, []), some (3, .getfield 54, .getfield 71, [151]), 
  none, none, some (3, .invokevirtual 280, .invokevirtual 50, [292, 294, 7]), none, none, some (1, .ireturn, .ireturn, []), some (1, .aload_n 3, .aload_n 3, []), 
  some (3, .getfield 199, .getfield 70, [150]), none, none, some (2, .istore 4, .istore 4, []), none, some (2, .iload 4, .iload 4, []), none, some (1, .aload_n 3, .aload_n 3, []), 
  some (3, .getfield 54, .getfield 71, [151]), none, none, some (3, .if_icmp .ge 27, .if_icmp .ge 89, []), none, none, some (1, .aload_n 0, .aload_n 0, []), 
  some (1, .aload_n 1, .aload_n 1, []), some (2, .iload 4, .iload 4, []), none, some (2, .iload 4, .iload 4, []), none, some (1, .aload_n 3, .aload_n 3, []), 
  some (3, .getfield 54, .getfield 71, [151]), none, none, some (3, .invokevirtual 280, .invokevirtual 50, [292, 294, 7]), none, none, some (3, .ifCond .eq 5, .ifCond .eq 83, []), 
  none, none, some (1, .iconst 1, .iconst 1, []), some (1, .ireturn, .ireturn, []), some (3, .iinc 4 64, .iinc 4 64, []), none, none, some (3, .goto (-30), .goto 56, []), 
  none, none, some (1, .iconst 0, .iconst 0, []), some (1, .ireturn, .ireturn, [])])
def mj_PT_growsFrom : mv_J := (⟨"PlugTree", "growsFrom", "(LPlugTree$Card;III)Z"⟩, prog_1_method_31_code, 6, some .boolean, [], [], 5, 0, [
  some (1, .iload_n 3, .iload_n 3, []), some (2, .istore 5, .istore 5, []), none, some (2, .iload 5, .iload 5, []), none, some (2, .iload 4, .iload 4, []), 
  none, some (3, .if_icmp .ge 62, .if_icmp .ge 69, []), none, none, some (1, .aload_n 0, .aload_n 0, []), some (3, .getfield 41, .getfield 5, [180]), none, 
  none, some (2, .iload 5, .iload 5, []), none, some (2, .iload 5, .iload 5, []), none, some (2, .bipush 64, .bipush 64, []), none, some (1, .iadd, .iadd, []), 
  some (3, .invokevirtual 284, .invokevirtual 40, [296, 297, 298]), none, none, some (3, .ifCond .eq 45, .ifCond .eq 69, []), none, none, some (1, .aload_n 0, .aload_n 0, []), 
  some (1, .aload_n 1, .aload_n 1, []), some (1, .iload_n 2, .iload_n 2, []), some (2, .iload 5, .iload 5, []), none, some (2, .bipush 64, .bipush 64, []), 
  none, some (1, .iadd, .iadd, []), some (3, .invokevirtual 229, .invokevirtual 48, [271, 273, 5]), none, none, some (3, .ifCond .eq 25, .ifCond .eq 63, []), 
  none, none, some (1, .aload_n 1, .aload_n 1, []), some (3, .getfield 213, .getfield 192, [517]), none, none, some (1, .iload_n 2, .iload_n 2, []), some (3, .putfield 199, .putfield 70, [150]), 
  none, none, some (1, .aload_n 1, .aload_n 1, []), some (3, .getfield 213, .getfield 192, [517]), none, none, some (2, .iload 5, .iload 5, []), none, 
  some (2, .bipush 64, .bipush 64, []), none, some (1, .iadd, .iadd, []), some (3, .putfield 54, .putfield 71, [151]), none, none, some (1, .iconst 1, .iconst 1, []), 
  some (1, .ireturn, .ireturn, []), some (3, .iinc 5 64, .iinc 5 64, []), none, none, some (3, .goto (-63), .goto 3, []), none, none, some (1, .iconst 0, .iconst 0, []), 
  some (1, .ireturn, .ireturn, [])])
def mj_PT_settleIn : mv_J := (⟨"PlugTree", "settleIn", "(LPlugTree$Card;)V"⟩, prog_1_method_26_code, 2, none, [], [], 2, 0, [
  some (1, .aload_n 0, .aload_n 0, []), some (3, .getfield 47, .getfield 7, [182]), none, none, some (1, .iconst 0, .iconst 0, []), some (1, .aload_n 1, .aload_n 1, []), 
  some (3, .getfield 196, .getfield 195, [525]), none, none, some (1, .iconst 0, .iconst 0, []), some (1, .iconst 3, .iconst 3, []), some (3, .invokestatic 245, .monitorenter, [304, 281, 280, 62]), 
  none, none, some (1, .aload_n 1, .aload_n 1, []), some (1, .iconst 1, .iconst 1, []), some (3, .putfield 133, .putfield 198, [530]), none, none, some (1, .aload_n 0, .aload_n 0, []), 
  some (1, .aconst_null, .aconst_null, []), some (3, .putfield 80, .putfield 11, [186]), none, none, some (1, .return_, .return_, [])])
def mj_PT_canAllPause : mv_J := (⟨"PlugTree", "canAllPause", "()Z"⟩, prog_1_method_32_code, 2, some .boolean, [], [], 1, 0, [
  some (1, .iconst 0, .iconst 0, []), some (1, .istore_n 1, .istore_n 1, []), some (1, .iload_n 1, .iload_n 1, []), some (1, .aload_n 0, .aload_n 0, []), 
  some (3, .getfield 96, .getfield 10, [185]), none, none, some (3, .if_icmp .ge 38, .if_icmp .ge 45, []), none, none, some (1, .aload_n 0, .aload_n 0, []), 
  some (3, .getfield 23, .getfield 2, [177]), none, none, some (1, .iload_n 1, .iload_n 1, []), some (1, .aaload, .aaload, []), some (3, .invokevirtual 186, .invokevirtual 28, [262, 247, 248]), 
  none, none, some (3, .ifCond .eq 20, .ifCond .eq 39, []), none, none, some (1, .aload_n 0, .aload_n 0, []), some (3, .getfield 23, .getfield 2, [177]), 
  none, none, some (1, .iload_n 1, .iload_n 1, []), some (1, .aaload, .aaload, []), some (3, .getfield 189, .getfield 194, [522]), none, none, some (3, .getfield 288, .getfield 131, [492]), 
  none, none, some (3, .ifCond .ne 5, .ifCond .ne 39, []), none, none, some (1, .iconst 0, .iconst 0, []), some (1, .ireturn, .ireturn, []), some (3, .iinc 1 1, .iinc 1 1, []), 
  none, none, some (3, .goto (-40), .goto 2, []), none, none, some (1, .iconst 1, .iconst 1, []), some (1, .ireturn, .ireturn, [])])
def mj_PT_measureBlocks : mv_J := (⟨"PlugTree", "measureBlocks", "()I"⟩, prog_1_method_35_code, 3, some .int, [], [], 1, 0, [
  some (1, .iconst 0, .iconst 0, []), some (1, .istore_n 1, .istore_n 1, []), some (1, .aload_n 0, .aload_n 0, []), some (3, .getfield 58, .getfield 8, [183]), 
  none, none, some (1, .iconst 1, .iconst 1, []), some (1, .isub, .isub, []), some (1, .istore_n 2, .istore_n 2, []), some (1, .iload_n 2, .iload_n 2, []), 
  some (3, .ifCond .lt 32, .ifCond .lt 42, []), none, none, some (1, .aload_n 0, .aload_n 0, []), some (3, .getfield 11, .getfield 0, [175]), none, none, 
  some (1, .iload_n 2, .iload_n 2, []), some (1, .aaload, .aaload, []), some (3, .invokevirtual 291, .invokevirtual 25, [313, 314, 315]), none, none, some (1, .istore_n 1, .istore_n 1, []), 
  some (1, .aload_n 0, .aload_n 0, []), some (3, .getfield 11, .getfield 0, [175]), none, none, some (1, .iload_n 2, .iload_n 2, []), some (1, .aaload, .aaload, []), 
  some (1, .iload_n 1, .iload_n 1, []), some (3, .invokestatic 294, .invokestatic 54, [321, 322]), none, none, some (3, .putfield 297, .putfield 72, [155]), 
  none, none, some (3, .iinc 2 (-1), .iinc 2 (-1), []), none, none, some (3, .goto (-30), .goto 9, []), none, none, some (1, .iload_n 1, .iload_n 1, []), 
  some (1, .ireturn, .ireturn, [])])
def mj_PT_blockFor : mv_J := (⟨"PlugTree", "blockFor", "(I)I"⟩, prog_1_method_36_code, 2, some .int, [], [], 1, 0, [
  some (1, .iload_n 0, .iload_n 0, []), some (3, .ifCond .ne 5, .ifCond .ne 6, []), none, none, some (1, .iconst 0, .iconst 0, []), some (1, .ireturn, .ireturn, []), 
  some (2, .bipush 64, .bipush 64, []), none, some (1, .istore_n 1, .istore_n 1, []), some (1, .iload_n 1, .iload_n 1, []), some (1, .iload_n 0, .iload_n 0, []), 
  some (3, .if_icmp .ge 17, .if_icmp .ge 28, []), none, none, some (1, .iload_n 1, .iload_n 1, []), some (3, .ldc_w 300, .ldc_w 1048576, [324]), none, 
  none, some (3, .if_icmp .ge 10, .if_icmp .ge 28, []), none, none, some (1, .iload_n 1, .iload_n 1, []), some (1, .iconst 2, .iconst 2, []), some (1, .imul, .imul, []), 
  some (1, .istore_n 1, .istore_n 1, []), some (3, .goto (-16), .goto 9, []), none, none, some (1, .iload_n 1, .iload_n 1, []), some (1, .ireturn, .ireturn, [])
  ])
def mj_PT_turnAll : mv_J := (⟨"PlugTree", "turnAll", "(II)V"⟩, prog_1_method_34_code, 4, none, [], [], 3, 0, [
  some (1, .iconst 0, .iconst 0, []), some (1, .istore_n 3, .istore_n 3, []), some (1, .iload_n 3, .iload_n 3, []), some (1, .aload_n 0, .aload_n 0, []), 
  some (3, .getfield 96, .getfield 10, [185]), none, none, some (3, .if_icmp .ge 32, .if_icmp .ge 39, []), none, none, some (1, .aload_n 0, .aload_n 0, []), 
  some (3, .getfield 23, .getfield 2, [177]), none, none, some (1, .iload_n 3, .iload_n 3, []), some (1, .aaload, .aaload, []), some (3, .getfield 133, .getfield 198, [530]), 
  none, none, some (1, .iload_n 1, .iload_n 1, []), some (3, .if_icmp .ne 13, .if_icmp .ne 33, []), none, none, some (1, .aload_n 0, .aload_n 0, []), some (3, .getfield 23, .getfield 2, [177]), 
  none, none, some (1, .iload_n 3, .iload_n 3, []), some (1, .aaload, .aaload, []), some (1, .iload_n 2, .iload_n 2, []), some (3, .putfield 133, .putfield 198, [530]), 
  none, none, some (3, .iinc 3 1, .iinc 3 1, []), none, none, some (3, .goto (-34), .goto 2, []), none, none, some (1, .return_, .return_, [])])
def mj_PT_isSomeRequestStarted : mv_J := (⟨"PlugTree", "isSomeRequestStarted", "()Z"⟩, prog_1_method_33_code, 2, some .boolean, [], [], 1, 0, [
  some (1, .iconst 0, .iconst 0, []), some (1, .istore_n 1, .istore_n 1, []), some (1, .iload_n 1, .iload_n 1, []), some (1, .aload_n 0, .aload_n 0, []), 
  some (3, .getfield 96, .getfield 10, [185]), none, none, some (3, .if_icmp .ge 23, .if_icmp .ge 30, []), none, none, some (1, .aload_n 0, .aload_n 0, []), 
  some (3, .getfield 23, .getfield 2, [177]), none, none, some (1, .iload_n 1, .iload_n 1, []), some (1, .aaload, .aaload, []), some (3, .getfield 147, .getfield 201, [535]), 
  none, none, some (3, .ifCond .le 5, .ifCond .le 24, []), none, none, some (1, .iconst 1, .iconst 1, []), some (1, .ireturn, .ireturn, []), some (3, .iinc 1 1, .iinc 1 1, []), 
  none, none, some (3, .goto (-25), .goto 2, []), none, none, some (1, .iconst 0, .iconst 0, []), some (1, .ireturn, .ireturn, [])])
def mj_PT_moveAll : mv_J := (⟨"PlugTree", "moveAll", "(LPlugTree$Card;)V"⟩, prog_1_method_37_code, 3, none, [], [], 2, 0, [
  some (1, .aload_n 0, .aload_n 0, []), some (3, .invokevirtual 242, .invokevirtual 53, [309, 311, 10]), none, none, some (1, .pop, .pop, []), some (1, .aload_n 0, .aload_n 0, []), 
  some (1, .iconst 0, .iconst 0, []), some (3, .putfield 210, .putfield 13, [188]), none, none, some (1, .iconst 1, .iconst 1, []), some (1, .istore_n 2, .istore_n 2, []), 
  some (1, .iload_n 2, .iload_n 2, []), some (1, .aload_n 0, .aload_n 0, []), some (3, .getfield 58, .getfield 8, [183]), none, none, some (3, .if_icmp .ge 29, .if_icmp .ge 46, []), 
  none, none, some (1, .aload_n 0, .aload_n 0, []), some (3, .getfield 11, .getfield 0, [175]), none, none, some (1, .iload_n 2, .iload_n 2, []), some (1, .aaload, .aaload, []), 
  some (1, .iconst 0, .iconst 0, []), some (3, .putfield 199, .putfield 70, [150]), none, none, some (1, .aload_n 0, .aload_n 0, []), some (3, .getfield 11, .getfield 0, [175]), 
  none, none, some (1, .iload_n 2, .iload_n 2, []), some (1, .aaload, .aaload, []), some (1, .iconst 0, .iconst 0, []), some (3, .putfield 54, .putfield 71, [151]), 
  none, none, some (3, .iinc 2 1, .iinc 2 1, []), none, none, some (3, .goto (-31), .goto 12, []), none, none, some (1, .iconst 0, .iconst 0, []), some (1, .istore_n 2, .istore_n 2, []), 
  some (1, .iload_n 2, .iload_n 2, []), some (1, .aload_n 0, .aload_n 0, []), some (3, .getfield 58, .getfield 8, [183]), none, none, some (3, .if_icmp .ge 19, .if_icmp .ge 72, []), 
  none, none, some (1, .aload_n 0, .aload_n 0, []), some (1, .aload_n 0, .aload_n 0, []), some (3, .getfield 11, .getfield 0, [175]), none, none, some (1, .iload_n 2, .iload_n 2, []), 
  some (1, .aaload, .aaload, []), some (3, .invokevirtual 301, .invokevirtual 58, [337, 339, 14]), none, none, some (3, .iinc 2 1, .iinc 2 1, []), none, 
  none, some (3, .goto (-21), .goto 48, []), none, none, some (1, .aload_n 0, .aload_n 0, []), some (1, .iconst 2, .iconst 2, []), some (1, .iconst 1, .iconst 1, []), 
  some (3, .invokevirtual 136, .invokevirtual 55, [325, 327, 11]), none, none, some (1, .aload_n 1, .aload_n 1, []), some (1, .iconst 1, .iconst 1, []), 
  some (3, .putfield 133, .putfield 198, [530]), none, none, some (1, .aload_n 0, .aload_n 0, []), some (1, .aconst_null, .aconst_null, []), some (3, .putfield 80, .putfield 11, [186]), 
  none, none, some (1, .return_, .return_, [])])
def mj_PT_layOut : mv_J := (⟨"PlugTree", "layOut", "(LPlugTree$Bridge;)V"⟩, prog_1_method_38_code, 5, none, [], [], 2, 0, [
  some (1, .aload_n 1, .aload_n 1, []), some (3, .getfield 199, .getfield 70, [150]), none, none, some (1, .istore_n 2, .istore_n 2, []), some (3, .sipush 4096, .sipush 4096, []), 
  none, none, some (1, .istore_n 3, .istore_n 3, []), some (1, .iload_n 3, .iload_n 3, []), some (3, .ifCond .le 75, .ifCond .le 85, []), none, none, some (1, .iconst 0, .iconst 0, []), 
  some (2, .istore 4, .istore 4, []), none, some (2, .iload 4, .iload 4, []), none, some (1, .iconst 4, .iconst 4, []), some (3, .if_icmp .ge 59, .if_icmp .ge 78, []), 
  none, none, some (1, .aload_n 1, .aload_n 1, []), some (3, .getfield 102, .getfield 69, [147]), none, none, some (2, .iload 4, .iload 4, []), none, some (1, .aaload, .aaload, []), 
  some (3, .ifnull 20, .ifnull 49, []), none, none, some (1, .aload_n 0, .aload_n 0, []), some (1, .aload_n 1, .aload_n 1, []), some (3, .getfield 102, .getfield 69, [147]), 
  none, none, some (2, .iload 4, .iload 4, []), none, some (1, .aaload, .aaload, []), some (1, .iload_n 3, .iload_n 3, []), some (1, .iload_n 2, .iload_n 2, []), 
  some (3, .invokevirtual 305, .invokevirtual 59, [341, 343, 15]), none, none, some (1, .istore_n 2, .istore_n 2, []), some (3, .goto 26, .goto 72, []), 
  none, none, some (1, .aload_n 1, .aload_n 1, []), some (3, .getfield 87, .getfield 68, [143]), none, none, some (2, .iload 4, .iload 4, []), none, some (1, .aaload, .aaload, []), 
  some (3, .ifnull 16, .ifnull 72, []), none, none, some (1, .aload_n 1, .aload_n 1, []), some (3, .getfield 87, .getfield 68, [143]), none, none, some (2, .iload 4, .iload 4, []), 
  none, some (1, .aaload, .aaload, []), some (1, .iload_n 3, .iload_n 3, []), some (1, .iload_n 2, .iload_n 2, []), some (3, .invokestatic 309, .invokestatic 60, [345, 346]), 
  none, none, some (1, .istore_n 2, .istore_n 2, []), some (3, .iinc 4 1, .iinc 4 1, []), none, none, some (3, .goto (-59), .goto 16, []), none, none, 
  some (1, .iload_n 3, .iload_n 3, []), some (1, .iconst 2, .iconst 2, []), some (1, .idiv, .idiv, []), some (1, .istore_n 3, .istore_n 3, []), some (3, .goto (-73), .goto 9, []), 
  none, none, some (1, .return_, .return_, [])])
def mj_PT_layRanges : mv_J := (⟨"PlugTree", "layRanges", "(LPlugTree$Card;II)I"⟩, prog_1_method_39_code, 6, some .int, [], [], 4, 0, [
  some (1, .iload_n 3, .iload_n 3, []), some (2, .istore 4, .istore 4, []), none, some (1, .iconst 0, .iconst 0, []), some (2, .istore 5, .istore 5, []), 
  none, some (2, .iload 5, .iload 5, []), none, some (1, .iconst 3, .iconst 3, []), some (3, .if_icmp .ge 68, .if_icmp .ge 77, []), none, none, some (1, .aload_n 1, .aload_n 1, []), 
  some (3, .getfield 189, .getfield 194, [522]), none, none, some (3, .getfield 193, .getfield 128, [486]), none, none, some (2, .iload 5, .iload 5, []), 
  none, some (1, .iaload, .iaload, []), some (1, .iload_n 2, .iload_n 2, []), some (3, .if_icmp .ne 48, .if_icmp .ne 71, []), none, none, some (1, .aload_n 1, .aload_n 1, []), 
  some (1, .aload_n 0, .aload_n 0, []), some (3, .getfield 80, .getfield 11, [186]), none, none, some (3, .if_acmp .eq 25, .if_acmp .eq 56, []), none, 
  none, some (1, .aload_n 1, .aload_n 1, []), some (3, .getfield 196, .getfield 195, [525]), none, none, some (2, .iload 5, .iload 5, []), none, some (1, .iaload, .iaload, []), 
  some (2, .iload 4, .iload 4, []), none, some (3, .if_icmp .eq 13, .if_icmp .eq 56, []), none, none, some (1, .aload_n 0, .aload_n 0, []), some (1, .dup, .dup, []), 
  some (3, .getfield 210, .getfield 13, [188]), none, none, some (1, .iconst 1, .iconst 1, []), some (1, .iadd, .iadd, []), some (3, .putfield 210, .putfield 13, [188]), 
  none, none, some (1, .aload_n 1, .aload_n 1, []), some (3, .getfield 196, .getfield 195, [525]), none, none, some (2, .iload 5, .iload 5, []), none, 
  some (2, .iload 4, .iload 4, []), none, some (1, .iastore, .iastore, []), some (2, .iload 4, .iload 4, []), none, some (1, .iload_n 2, .iload_n 2, []), 
  some (1, .iadd, .iadd, []), some (2, .istore 4, .istore 4, []), none, some (3, .iinc 5 1, .iinc 5 1, []), none, none, some (3, .goto (-68), .goto 6, []), 
  none, none, some (2, .iload 4, .iload 4, []), none, some (1, .ireturn, .ireturn, [])])
def mj_PT_layBlock : mv_J := (⟨"PlugTree", "layBlock", "(LPlugTree$Bridge;II)I"⟩, prog_1_method_40_code, 3, some .int, [], [], 3, 0, [
  some (1, .aload_n 0, .aload_n 0, []), some (3, .getfield 297, .getfield 72, [155]), none, none, some (1, .iload_n 1, .iload_n 1, []), some (3, .if_icmp .eq 5, .if_icmp .eq 10, []), 
  none, none, some (1, .iload_n 2, .iload_n 2, []), some (1, .ireturn, .ireturn, []), some (1, .aload_n 0, .aload_n 0, []), some (1, .iload_n 2, .iload_n 2, []), 
  some (3, .putfield 199, .putfield 70, [150]), none, none, some (1, .aload_n 0, .aload_n 0, []), some (1, .iload_n 2, .iload_n 2, []), some (1, .iload_n 1, .iload_n 1, []), 
  some (1, .iadd, .iadd, []), some (3, .putfield 54, .putfield 71, [151]), none, none, some (1, .aload_n 0, .aload_n 0, []), some (3, .getfield 54, .getfield 71, [151]), 
  none, none, some (1, .ireturn, .ireturn, [])])
def mj_PT_settle : mv_J := (⟨"PlugTree", "settle", "()I"⟩, prog_1_method_6_code, 2, some .int, [], [], 1, 0, [
  some (1, .iconst 0, .iconst 0, []), some (1, .istore_n 1, .istore_n 1, []), some (1, .iload_n 1, .iload_n 1, []), some (3, .sipush 512, .sipush 512, []), 
  none, none, some (3, .if_icmp .ge 16, .if_icmp .ge 22, []), none, none, some (1, .aload_n 0, .aload_n 0, []), some (3, .invokevirtual 126, .invokevirtual 42, [352, 219, 220]), 
  none, none, some (3, .ifCond .eq 9, .ifCond .eq 22, []), none, none, some (3, .iinc 1 1, .iinc 1 1, []), none, none, some (3, .goto (-17), .goto 2, []), 
  none, none, some (1, .iload_n 1, .iload_n 1, []), some (1, .ireturn, .ireturn, [])])
def mj_PT_decode : mv_J := (⟨"PlugTree", "decode", "(I)I"⟩, prog_1_method_15_code, 3, some .int, [], [], 2, 0, [
  some (1, .iconst 0, .iconst 0, []), some (1, .istore_n 2, .istore_n 2, []), some (1, .iload_n 2, .iload_n 2, []), some (1, .aload_n 0, .aload_n 0, []), 
  some (3, .getfield 96, .getfield 10, [185]), none, none, some (3, .if_icmp .ge 36, .if_icmp .ge 43, []), none, none, some (1, .aload_n 0, .aload_n 0, []), 
  some (3, .getfield 23, .getfield 2, [177]), none, none, some (1, .iload_n 2, .iload_n 2, []), some (1, .aaload, .aaload, []), some (3, .invokevirtual 186, .invokevirtual 28, [262, 247, 248]), 
  none, none, some (3, .ifCond .eq 18, .ifCond .eq 37, []), none, none, some (1, .aload_n 0, .aload_n 0, []), some (3, .getfield 23, .getfield 2, [177]), 
  none, none, some (1, .iload_n 2, .iload_n 2, []), some (1, .aaload, .aaload, []), some (1, .iload_n 1, .iload_n 1, []), some (3, .invokevirtual 202, .invokevirtual 29, [357, 358, 359]), 
  none, none, some (3, .ifCond .eq 5, .ifCond .eq 37, []), none, none, some (1, .iload_n 2, .iload_n 2, []), some (1, .ireturn, .ireturn, []), some (3, .iinc 2 1, .iinc 2 1, []), 
  none, none, some (3, .goto (-38), .goto 2, []), none, none, some (1, .iconst (-1), .iconst (-1), []), some (1, .ireturn, .ireturn, [])])
def mj_PT_moved : mv_J := (⟨"PlugTree", "moved", "()I"⟩, prog_1_method_18_code, 1, some .int, [], [], 1, 0, [
  some (1, .aload_n 0, .aload_n 0, []), some (3, .getfield 210, .getfield 13, [188]), none, none, some (1, .ireturn, .ireturn, [])])
def mj_PT_bridge : mv_J := (⟨"PlugTree", "bridge", "(III)I"⟩, prog_1_method_2_code, 6, some .int, [], [], 4, 0, [
  some (1, .aload_n 0, .aload_n 0, []), some (1, .iload_n 1, .iload_n 1, []), some (3, .invokevirtual 61, .invokevirtual 65, [374, 376, 16]), none, none, 
  some (2, .astore 4, .astore 4, []), none, some (1, .iload_n 2, .iload_n 2, []), some (3, .invokestatic 65, .invokestatic 67, [443, 444]), none, none, 
  some (1, .iload_n 3, .iload_n 3, []), some (1, .iconst 0, .iconst 0, []), some (3, .sipush 1000, .sipush 1000, []), none, none, some (3, .invokestatic 69, .invokestatic 66, [378, 379]), 
  none, none, some (2, .aload 4, .aload 4, []), none, some (1, .iload_n 2, .iload_n 2, []), some (3, .invokevirtual 73, .invokevirtual 26, [446, 447, 448]), 
  none, none, some (3, .ifCond .eq 28, .ifCond .eq 53, []), none, none, some (1, .aload_n 0, .aload_n 0, []), some (3, .getfield 58, .getfield 8, [183]), 
  none, none, some (2, .bipush 8, .bipush 8, []), none, some (3, .if_icmp .eq 19, .if_icmp .eq 53, []), none, none, some (2, .aload 4, .aload 4, []), none, 
  some (3, .getfield 77, .getfield 67, [140]), none, none, some (1, .iconst 4, .iconst 4, []), some (3, .if_icmp .eq 10, .if_icmp .eq 53, []), none, none, 
  some (1, .aload_n 0, .aload_n 0, []), some (3, .getfield 80, .getfield 11, [186]), none, none, some (3, .ifnull 11, .ifnull 61, []), none, none, some (3, .new 84, .instanceof 9, mt_th_PT_84086), 
  none, none, some (1, .dup, .dup, []), none, none, none, some (1, .athrow, .athrow, []), some (3, .new 9, .new 1, [77, 126, 53]), none, none, some (1, .dup, .dup, []), 
  some (1, .aload_n 0, .aload_n 0, []), some (3, .getfield 58, .getfield 8, [183]), none, none, some (2, .aload 4, .aload 4, []), none, some (1, .iload_n 3, .iload_n 3, []), 
  some (3, .invokespecial 51, .invokespecial 22, [127, 128, 129]), none, none, some (2, .astore 5, .astore 5, []), none, some (2, .aload 4, .aload 4, []), 
  none, some (3, .getfield 87, .getfield 68, [143]), none, none, some (1, .iload_n 2, .iload_n 2, []), some (2, .aload 5, .aload 5, []), none, some (1, .aastore, .aastore, []), 
  some (1, .aload_n 0, .aload_n 0, []), some (3, .getfield 11, .getfield 0, [175]), none, none, some (1, .aload_n 0, .aload_n 0, []), some (3, .getfield 58, .getfield 8, [183]), 
  none, none, some (2, .aload 5, .aload 5, []), none, some (1, .aastore, .aastore, []), some (1, .aload_n 0, .aload_n 0, []), some (1, .dup, .dup, []), 
  some (3, .getfield 58, .getfield 8, [183]), none, none, some (1, .dup_x1, .dup_x1, []), some (1, .iconst 1, .iconst 1, []), some (1, .iadd, .iadd, []), 
  some (3, .putfield 58, .putfield 8, [183]), none, none, some (1, .ireturn, .ireturn, [])])
def mj_PT_bridgeNumbered : mv_J := (⟨"PlugTree", "bridgeNumbered", "(I)LPlugTree$Bridge;"⟩, prog_1_method_21_code, 2, some (.object "PlugTree$Bridge"), [], [], 2, 0, [
  some (1, .iload_n 1, .iload_n 1, []), some (1, .iconst 0, .iconst 0, []), some (1, .aload_n 0, .aload_n 0, []), some (3, .getfield 58, .getfield 8, [183]), 
  none, none, some (1, .iconst 1, .iconst 1, []), some (1, .isub, .isub, []), some (3, .invokestatic 69, .invokestatic 66, [378, 379]), none, none, some (1, .aload_n 0, .aload_n 0, []), 
  some (3, .getfield 11, .getfield 0, [175]), none, none, some (1, .iload_n 1, .iload_n 1, []), some (1, .aaload, .aaload, []), some (1, .areturn, .areturn, [])
  ])
def mj_PT_requireWithin : mv_J := (⟨"PlugTree", "requireWithin", "(III)V"⟩, prog_1_method_19_code, 3, none, [], [], 3, 0, [
  some (1, .iload_n 0, .iload_n 0, []), some (1, .iload_n 1, .iload_n 1, []), some (3, .if_icmp .lt 8, .if_icmp .lt 10, []), none, none, some (1, .iload_n 0, .iload_n 0, []), 
  some (1, .iload_n 2, .iload_n 2, []), some (3, .if_icmp .le 11, .if_icmp .le 18, []), none, none, some (3, .new 150, .instanceof 8, mt_th_PT_150152), 
  none, none, some (1, .dup, .dup, []), none, none, none, some (1, .athrow, .athrow, []), some (1, .return_, .return_, [])])
def mj_PT_requireSlot : mv_J := (⟨"PlugTree", "requireSlot", "(I)V"⟩, prog_1_method_20_code, 1, none, [], [], 1, 0, [
  some (1, .iload_n 0, .iload_n 0, []), some (1, .iconst 0, .iconst 0, []), some (1, .iconst 3, .iconst 3, []), some (3, .invokestatic 69, .invokestatic 66, [378, 379]), 
  none, none, some (1, .return_, .return_, [])])
def mj_PT_type : mv_J := (⟨"PlugTree", "type", "(IIIIZ)I"⟩, prog_1_method_3_code, 6, some .int, [], [], 6, 0, [
  some (1, .iload_n 1, .iload_n 1, []), some (1, .iconst (-1), .iconst (-1), []), some (2, .bipush 10, .bipush 10, []), none, some (3, .invokestatic 69, .invokestatic 66, [378, 379]), 
  none, none, some (1, .iload_n 2, .iload_n 2, []), some (1, .iconst (-1), .iconst (-1), []), some (2, .bipush 10, .bipush 10, []), none, some (3, .invokestatic 69, .invokestatic 66, [378, 379]), 
  none, none, some (1, .iload_n 3, .iload_n 3, []), some (1, .iconst (-1), .iconst (-1), []), some (2, .bipush 10, .bipush 10, []), none, some (3, .invokestatic 69, .invokestatic 66, [378, 379]), 
  none, none, some (2, .iload 4, .iload 4, []), none, some (1, .iconst 0, .iconst 0, []), some (3, .sipush 1000, .sipush 1000, []), none, none, some (3, .invokestatic 69, .invokestatic 66, [378, 379]), 
  none, none, some (1, .aload_n 0, .aload_n 0, []), some (3, .getfield 90, .getfield 9, [184]), none, none, some (2, .bipush 16, .bipush 16, []), none, 
  some (3, .if_icmp .ne 11, .if_icmp .ne 47, []), none, none, some (3, .new 84, .instanceof 9, mt_th_PT_84086), none, none, some (1, .dup, .dup, []), none, 
  none, none, some (1, .athrow, .athrow, []), some (1, .aload_n 0, .aload_n 0, []), some (3, .getfield 17, .getfield 1, [176]), none, none, some (1, .aload_n 0, .aload_n 0, []), 
  some (3, .getfield 90, .getfield 9, [184]), none, none, some (3, .new 15, .new 2, [79, 472, 60]), none, none, some (1, .dup, .dup, []), some (1, .iload_n 1, .iload_n 1, []), 
  some (1, .iload_n 2, .iload_n 2, []), some (1, .iload_n 3, .iload_n 3, []), some (2, .iload 4, .iload 4, []), none, some (2, .iload 5, .iload 5, []), 
  none, some (3, .invokespecial 93, .invokespecial 19, [473, 474, 475]), none, none, some (1, .aastore, .aastore, []), some (1, .aload_n 0, .aload_n 0, []), 
  some (1, .dup, .dup, []), some (3, .getfield 90, .getfield 9, [184]), none, none, some (1, .dup_x1, .dup_x1, []), some (1, .iconst 1, .iconst 1, []), 
  some (1, .iadd, .iadd, []), some (3, .putfield 90, .putfield 9, [184]), none, none, some (1, .ireturn, .ireturn, [])])
def mj_PT_plug : mv_J := (⟨"PlugTree", "plug", "(III)I"⟩, prog_1_method_4_code, 6, some .int, [], [], 4, 0, [
  some (1, .aload_n 0, .aload_n 0, []), some (1, .iload_n 1, .iload_n 1, []), some (3, .invokevirtual 61, .invokevirtual 65, [374, 376, 16]), none, none, 
  some (2, .astore 4, .astore 4, []), none, some (1, .iload_n 2, .iload_n 2, []), some (3, .invokestatic 65, .invokestatic 67, [443, 444]), none, none, 
  some (1, .iload_n 3, .iload_n 3, []), some (1, .iconst 0, .iconst 0, []), some (1, .aload_n 0, .aload_n 0, []), some (3, .getfield 90, .getfield 9, [184]), 
  none, none, some (1, .iconst 1, .iconst 1, []), some (1, .isub, .isub, []), some (3, .invokestatic 69, .invokestatic 66, [378, 379]), none, none, some (2, .aload 4, .aload 4, []), 
  none, some (1, .iload_n 2, .iload_n 2, []), some (3, .invokevirtual 73, .invokevirtual 26, [446, 447, 448]), none, none, some (3, .ifCond .eq 19, .ifCond .eq 47, []), 
  none, none, some (1, .aload_n 0, .aload_n 0, []), some (3, .getfield 96, .getfield 10, [185]), none, none, some (2, .bipush 40, .bipush 40, []), none, 
  some (3, .if_icmp .eq 10, .if_icmp .eq 47, []), none, none, some (1, .aload_n 0, .aload_n 0, []), some (3, .getfield 80, .getfield 11, [186]), none, 
  none, some (3, .ifnull 11, .ifnull 55, []), none, none, some (3, .new 84, .instanceof 9, mt_th_PT_84086), none, none, some (1, .dup, .dup, []), none, 
  none, none, some (1, .athrow, .athrow, []), some (3, .new 21, .new 3, [81, 509, 61]), none, none, some (1, .dup, .dup, []), some (2, .aload 4, .aload 4, []), 
  none, some (1, .iload_n 2, .iload_n 2, []), some (1, .aload_n 0, .aload_n 0, []), some (3, .getfield 17, .getfield 1, [176]), none, none, some (1, .iload_n 3, .iload_n 3, []), 
  some (1, .aaload, .aaload, []), some (3, .invokespecial 99, .invokespecial 30, [510, 511, 512]), none, none, some (2, .astore 5, .astore 5, []), none, 
  some (2, .aload 4, .aload 4, []), none, some (3, .getfield 102, .getfield 69, [147]), none, none, some (1, .iload_n 2, .iload_n 2, []), some (2, .aload 5, .aload 5, []), 
  none, some (1, .aastore, .aastore, []), some (1, .aload_n 0, .aload_n 0, []), some (3, .getfield 23, .getfield 2, [177]), none, none, some (1, .aload_n 0, .aload_n 0, []), 
  some (3, .getfield 96, .getfield 10, [185]), none, none, some (2, .aload 5, .aload 5, []), none, some (1, .aastore, .aastore, []), some (2, .aload 5, .aload 5, []), 
  none, some (1, .aload_n 0, .aload_n 0, []), some (3, .getfield 96, .getfield 10, [185]), none, none, some (3, .putfield 105, .putfield 197, [528]), none, 
  none, some (1, .aload_n 0, .aload_n 0, []), some (2, .aload 5, .aload 5, []), none, some (3, .putfield 80, .putfield 11, [186]), none, none, some (1, .aload_n 0, .aload_n 0, []), 
  some (1, .iconst 0, .iconst 0, []), some (3, .putfield 108, .putfield 12, [187]), none, none, some (1, .aload_n 0, .aload_n 0, []), some (1, .dup, .dup, []), 
  some (3, .getfield 96, .getfield 10, [185]), none, none, some (1, .dup_x1, .dup_x1, []), some (1, .iconst 1, .iconst 1, []), some (1, .iadd, .iadd, []), 
  some (3, .putfield 96, .putfield 10, [185]), none, none, some (1, .ireturn, .ireturn, [])])
def mj_PT_pull : mv_J := (⟨"PlugTree", "pull", "(I)I"⟩, prog_1_method_7_code, 3, some .int, [], [], 2, 0, [
  some (1, .aload_n 0, .aload_n 0, []), some (1, .iload_n 1, .iload_n 1, []), some (3, .invokevirtual 129, .invokevirtual 71, [567, 569, 18]), none, none, 
  some (1, .astore_n 2, .astore_n 2, []), some (1, .aload_n 2, .aload_n 2, []), some (3, .getfield 133, .getfield 198, [530]), none, none, some (1, .iconst 4, .iconst 4, []), 
  some (3, .if_icmp .eq 11, .if_icmp .eq 22, []), none, none, some (1, .aload_n 2, .aload_n 2, []), some (3, .getfield 133, .getfield 198, [530]), none, 
  none, some (1, .iconst 5, .iconst 5, []), some (3, .if_icmp .ne 11, .if_icmp .ne 30, []), none, none, some (3, .new 84, .instanceof 9, mt_th_PT_84086), 
  none, none, some (1, .dup, .dup, []), none, none, none, some (1, .athrow, .athrow, []), some (1, .aload_n 2, .aload_n 2, []), some (1, .aload_n 0, .aload_n 0, []), 
  some (3, .getfield 80, .getfield 11, [186]), none, none, some (3, .if_acmp .ne 21, .if_acmp .ne 56, []), none, none, some (1, .aload_n 0, .aload_n 0, []), 
  some (1, .aconst_null, .aconst_null, []), some (3, .putfield 80, .putfield 11, [186]), none, none, some (1, .aload_n 0, .aload_n 0, []), some (3, .getfield 108, .getfield 12, [187]), 
  none, none, some (3, .ifCond .eq 9, .ifCond .eq 56, []), none, none, some (1, .aload_n 0, .aload_n 0, []), some (1, .iconst 2, .iconst 2, []), some (1, .iconst 1, .iconst 1, []), 
  some (3, .invokevirtual 136, .invokevirtual 55, [325, 327, 11]), none, none, some (1, .aload_n 2, .aload_n 2, []), some (1, .iconst 4, .iconst 4, []), 
  some (3, .invokevirtual 140, .invokevirtual 27, [226, 227, 228]), none, none, some (1, .aload_n 2, .aload_n 2, []), some (1, .iconst 0, .iconst 0, []), 
  some (3, .invokevirtual 143, .invokevirtual 31, [571, 572, 573]), none, none, some (1, .ireturn, .ireturn, [])])
def mj_PT_cardNumbered : mv_J := (⟨"PlugTree", "cardNumbered", "(I)LPlugTree$Card;"⟩, prog_1_method_22_code, 2, some (.object "PlugTree$Card"), [], [], 2, 0, [
  some (1, .iload_n 1, .iload_n 1, []), some (1, .iconst 0, .iconst 0, []), some (1, .aload_n 0, .aload_n 0, []), some (3, .getfield 96, .getfield 10, [185]), 
  none, none, some (1, .iconst 1, .iconst 1, []), some (1, .isub, .isub, []), some (3, .invokestatic 69, .invokestatic 66, [378, 379]), none, none, some (1, .aload_n 0, .aload_n 0, []), 
  some (3, .getfield 23, .getfield 2, [177]), none, none, some (1, .iload_n 1, .iload_n 1, []), some (1, .aaload, .aaload, []), some (1, .areturn, .areturn, [])
  ])
def mj_PT_leave : mv_J := (⟨"PlugTree", "leave", "(I)I"⟩, prog_1_method_8_code, 3, some .int, [], [], 2, 0, [
  some (1, .aload_n 0, .aload_n 0, []), some (1, .iload_n 1, .iload_n 1, []), some (3, .invokevirtual 129, .invokevirtual 71, [567, 569, 18]), none, none, 
  some (1, .astore_n 2, .astore_n 2, []), some (1, .aload_n 2, .aload_n 2, []), some (3, .getfield 133, .getfield 198, [530]), none, none, some (1, .iconst 1, .iconst 1, []), 
  some (3, .if_icmp .eq 11, .if_icmp .eq 22, []), none, none, some (3, .new 84, .instanceof 9, mt_th_PT_84086), none, none, some (1, .dup, .dup, []), none, 
  none, none, some (1, .athrow, .athrow, []), some (1, .aload_n 2, .aload_n 2, []), some (1, .iconst 3, .iconst 3, []), some (3, .putfield 133, .putfield 198, [530]), 
  none, none, some (1, .aload_n 2, .aload_n 2, []), some (1, .aload_n 2, .aload_n 2, []), some (3, .getfield 147, .getfield 201, [535]), none, none, some (3, .ifCond .le 7, .ifCond .le 39, []), 
  none, none, some (1, .iconst 1, .iconst 1, []), some (3, .goto 4, .goto 40, []), none, none, some (1, .iconst 0, .iconst 0, []), some (3, .invokevirtual 143, .invokevirtual 31, [571, 572, 573]), 
  none, none, some (1, .ireturn, .ireturn, [])])
def mj_PT_request : mv_J := (⟨"PlugTree", "request", "(III)I"⟩, prog_1_method_9_code, 7, some .int, [], [], 4, 0, [
  some (1, .aload_n 0, .aload_n 0, []), some (1, .iload_n 1, .iload_n 1, []), some (3, .invokevirtual 129, .invokevirtual 71, [567, 569, 18]), none, none, 
  some (2, .astore 4, .astore 4, []), none, some (1, .iload_n 2, .iload_n 2, []), some (3, .ifCond .ge 11, .ifCond .ge 19, []), none, none, some (3, .new 150, .instanceof 8, mt_th_PT_150152), 
  none, none, some (1, .dup, .dup, []), none, none, none, some (1, .athrow, .athrow, []), some (2, .aload 4, .aload 4, []), none, some (3, .getfield 133, .getfield 198, [530]), 
  none, none, some (1, .iconst 1, .iconst 1, []), some (3, .if_icmp .eq 12, .if_icmp .eq 37, []), none, none, some (2, .aload 4, .aload 4, []), none, some (3, .getfield 133, .getfield 198, [530]), 
  none, none, some (1, .iconst 2, .iconst 2, []), some (3, .if_icmp .ne 7, .if_icmp .ne 41, []), none, none, some (1, .iconst 1, .iconst 1, []), some (3, .goto 4, .goto 42, []), 
  none, none, some (1, .iconst 0, .iconst 0, []), some (2, .istore 5, .istore 5, []), none, some (2, .iload 5, .iload 5, []), none, some (3, .ifCond .eq 26, .ifCond .eq 72, []), 
  none, none, some (2, .aload 4, .aload 4, []), none, some (3, .getfield 153, .getfield 200, [533]), none, none, some (2, .bipush 8, .bipush 8, []), none, 
  some (3, .if_icmp .eq 16, .if_icmp .eq 72, []), none, none, some (1, .aload_n 0, .aload_n 0, []), some (3, .getfield 30, .getfield 3, [178]), none, none, 
  some (3, .invokevirtual 156, .invokevirtual 3, [590, 591, 592]), none, none, some (3, .sipush 512, .sipush 512, []), none, none, some (3, .if_icmp .lt 11, .if_icmp .lt 80, []), 
  none, none, some (3, .new 84, .instanceof 9, mt_th_PT_84086), none, none, some (1, .dup, .dup, []), none, none, none, some (1, .athrow, .athrow, []), 
  some (3, .new 160, .new 4, [594, 595, 63]), none, none, some (1, .dup, .dup, []), some (1, .iload_n 2, .iload_n 2, []), some (1, .iload_n 3, .iload_n 3, []), 
  some (3, .invokespecial 162, .invokespecial 17, [596, 597, 598]), none, none, some (2, .astore 6, .astore 6, []), none, some (2, .aload 4, .aload 4, []), 
  none, some (3, .getfield 164, .getfield 196, [527]), none, none, some (2, .aload 4, .aload 4, []), none, some (3, .getfield 153, .getfield 200, [533]), 
  none, none, some (2, .aload 6, .aload 6, []), none, some (1, .aastore, .aastore, []), some (2, .aload 4, .aload 4, []), none, some (1, .dup, .dup, []), 
  some (3, .getfield 153, .getfield 200, [533]), none, none, some (1, .iconst 1, .iconst 1, []), some (1, .iadd, .iadd, []), some (3, .putfield 153, .putfield 200, [533]), 
  none, none, some (1, .aload_n 0, .aload_n 0, []), some (3, .getfield 30, .getfield 3, [178]), none, none, some (2, .aload 6, .aload 6, []), none, some (3, .invokevirtual 168, .invokevirtual 4, [615, 616, 617]), 
  none, none, some (1, .pop, .pop, []), some (1, .aload_n 0, .aload_n 0, []), some (3, .getfield 30, .getfield 3, [178]), none, none, some (3, .invokevirtual 156, .invokevirtual 3, [590, 591, 592]), 
  none, none, some (1, .iconst 1, .iconst 1, []), some (1, .isub, .isub, []), some (1, .ireturn, .ireturn, [])])
def mj_PT_work : mv_J := (⟨"PlugTree", "work", "(I)Z"⟩, prog_1_method_10_code, 2, some .boolean, [], [], 2, 0, [
  some (1, .aload_n 0, .aload_n 0, []), some (1, .iload_n 1, .iload_n 1, []), some (3, .invokevirtual 129, .invokevirtual 71, [567, 569, 18]), none, none, 
  some (3, .invokevirtual 172, .invokevirtual 32, [677, 678, 679]), none, none, some (1, .ireturn, .ireturn, [])])
def mj_PT_result : mv_J := (⟨"PlugTree", "result", "(I)J"⟩, prog_1_method_11_code, 2, some .long, [], [], 2, 0, [
  some (1, .iload_n 1, .iload_n 1, []), some (1, .iconst 0, .iconst 0, []), some (1, .aload_n 0, .aload_n 0, []), some (3, .getfield 30, .getfield 3, [178]), 
  none, none, some (3, .invokevirtual 156, .invokevirtual 3, [590, 591, 592]), none, none, some (1, .iconst 1, .iconst 1, []), some (1, .isub, .isub, []), 
  some (3, .invokestatic 69, .invokestatic 66, [378, 379]), none, none, some (1, .aload_n 0, .aload_n 0, []), some (3, .getfield 30, .getfield 3, [178]), 
  none, none, some (1, .iload_n 1, .iload_n 1, []), some (3, .invokevirtual 175, .invokevirtual 8, [692, 693, 694]), none, none, some (3, .checkcast 160, .checkcast 4, [594]), 
  none, none, some (3, .getfield 179, .getfield 258, [607]), none, none, some (1, .lreturn, .lreturn, [])])
def mj_PT_card : mv_J := (⟨"PlugTree", "card", "(II)I"⟩, prog_1_method_12_code, 4, some .int, [], [], 3, 0, [
  some (1, .aload_n 0, .aload_n 0, []), some (1, .iload_n 1, .iload_n 1, []), some (3, .invokevirtual 129, .invokevirtual 71, [567, 569, 18]), none, none, 
  some (1, .astore_n 3, .astore_n 3, []), some (1, .iload_n 2, .iload_n 2, []), some (29, .tableswitch 49 0 3 #[29, 34, 39, 44], .tableswitch 56 0 3 #[36, 41, 46, 51], []), 
  none, none, none, none, none, none, none, none, none, none, none, none, none, none, none, none, none, none, none, none, none, none, none, none, none, 
  none, none, none, some (1, .aload_n 3, .aload_n 3, []), some (3, .getfield 133, .getfield 198, [530]), none, none, some (1, .ireturn, .ireturn, []), 
  some (1, .aload_n 3, .aload_n 3, []), some (3, .getfield 183, .getfield 199, [531]), none, none, some (1, .ireturn, .ireturn, []), some (1, .aload_n 3, .aload_n 3, []), 
  some (3, .getfield 153, .getfield 200, [533]), none, none, some (1, .ireturn, .ireturn, []), some (1, .aload_n 3, .aload_n 3, []), some (3, .getfield 147, .getfield 201, [535]), 
  none, none, some (1, .ireturn, .ireturn, []), some (3, .new 150, .instanceof 8, mt_th_PT_150152), none, none, some (1, .dup, .dup, []), none, none, none, 
  some (1, .athrow, .athrow, [])])
def mj_PT_range : mv_J := (⟨"PlugTree", "range", "(II)I"⟩, prog_1_method_13_code, 4, some .int, [], [], 3, 0, [
  some (1, .aload_n 0, .aload_n 0, []), some (1, .iload_n 1, .iload_n 1, []), some (3, .invokevirtual 129, .invokevirtual 71, [567, 569, 18]), none, none, 
  some (1, .astore_n 3, .astore_n 3, []), some (1, .iload_n 2, .iload_n 2, []), some (1, .iconst 0, .iconst 0, []), some (1, .iconst 2, .iconst 2, []), 
  some (3, .invokestatic 69, .invokestatic 66, [378, 379]), none, none, some (1, .aload_n 3, .aload_n 3, []), some (3, .invokevirtual 186, .invokevirtual 28, [262, 247, 248]), 
  none, none, some (3, .ifCond .eq 24, .ifCond .eq 40, []), none, none, some (1, .aload_n 3, .aload_n 3, []), some (3, .getfield 189, .getfield 194, [522]), 
  none, none, some (3, .getfield 193, .getfield 128, [486]), none, none, some (1, .iload_n 2, .iload_n 2, []), some (1, .iaload, .iaload, []), some (3, .ifCond .le 12, .ifCond .le 40, []), 
  none, none, some (1, .aload_n 3, .aload_n 3, []), some (3, .getfield 196, .getfield 195, [525]), none, none, some (1, .iload_n 2, .iload_n 2, []), some (1, .iaload, .iaload, []), 
  some (3, .goto 4, .goto 41, []), none, none, some (1, .iconst (-1), .iconst (-1), []), some (1, .ireturn, .ireturn, [])])
def mj_PT_opening : mv_J := (⟨"PlugTree", "opening", "(IZ)I"⟩, prog_1_method_14_code, 4, some .int, [], [], 3, 0, [
  some (1, .aload_n 0, .aload_n 0, []), some (1, .iload_n 1, .iload_n 1, []), some (3, .invokevirtual 61, .invokevirtual 65, [374, 376, 16]), none, none, 
  some (1, .astore_n 3, .astore_n 3, []), some (1, .iload_n 2, .iload_n 2, []), some (3, .ifCond .eq 10, .ifCond .eq 17, []), none, none, some (1, .aload_n 3, .aload_n 3, []), 
  some (3, .getfield 54, .getfield 71, [151]), none, none, some (3, .goto 7, .goto 21, []), none, none, some (1, .aload_n 3, .aload_n 3, []), some (3, .getfield 199, .getfield 70, [150]), 
  none, none, some (1, .ireturn, .ireturn, [])])
def mj_PT_power : mv_J := (⟨"PlugTree", "power", "(I)I"⟩, prog_1_method_16_code, 2, some .int, [], [], 2, 0, [
  some (1, .aload_n 0, .aload_n 0, []), some (1, .aload_n 0, .aload_n 0, []), some (1, .iload_n 1, .iload_n 1, []), some (3, .invokevirtual 61, .invokevirtual 65, [374, 376, 16]), 
  none, none, some (3, .invokevirtual 205, .invokevirtual 46, [258, 260, 3]), none, none, some (1, .ireturn, .ireturn, [])])
def mj_PT_slot : mv_J := (⟨"PlugTree", "slot", "(II)I"⟩, prog_1_method_17_code, 4, some .int, [], [], 3, 0, [
  some (1, .aload_n 0, .aload_n 0, []), some (1, .iload_n 1, .iload_n 1, []), some (3, .invokevirtual 61, .invokevirtual 65, [374, 376, 16]), none, none, 
  some (1, .astore_n 3, .astore_n 3, []), some (1, .iload_n 2, .iload_n 2, []), some (3, .invokestatic 65, .invokestatic 67, [443, 444]), none, none, some (1, .aload_n 3, .aload_n 3, []), 
  some (3, .getfield 87, .getfield 68, [143]), none, none, some (1, .iload_n 2, .iload_n 2, []), some (1, .aaload, .aaload, []), some (3, .ifnull 13, .ifnull 29, []), 
  none, none, some (1, .aload_n 3, .aload_n 3, []), some (3, .getfield 87, .getfield 68, [143]), none, none, some (1, .iload_n 2, .iload_n 2, []), some (1, .aaload, .aaload, []), 
  some (3, .getfield 209, .getfield 64, [134]), none, none, some (1, .ireturn, .ireturn, []), some (1, .aload_n 3, .aload_n 3, []), some (3, .getfield 102, .getfield 69, [147]), 
  none, none, some (1, .iload_n 2, .iload_n 2, []), some (1, .aaload, .aaload, []), some (3, .ifnull 18, .ifnull 53, []), none, none, some (2, .bipush 100, .bipush 100, []), 
  none, some (1, .aload_n 3, .aload_n 3, []), some (3, .getfield 102, .getfield 69, [147]), none, none, some (1, .iload_n 2, .iload_n 2, []), some (1, .aaload, .aaload, []), 
  some (3, .getfield 105, .getfield 197, [528]), none, none, some (1, .iadd, .iadd, []), some (3, .goto 4, .goto 54, []), none, none, some (1, .iconst (-1), .iconst (-1), []), 
  some (1, .ireturn, .ireturn, [])])
def mj_Mo_init : mv_J := (⟨"PlugTreeModel", "<init>", "()V"⟩, prog_8_method_1_code, 2, none, [], [], 1, 6, [
  some (1, .aload_n 0, .aload_n 0, []), some (3, .invokespecial 1, .monitorexit, [746, 75, 76]), none, none, some (1, .aload_n 0, .aload_n 0, []), some (1, .iconst 1, .iconst 1, []), 
  some (3, .putfield 7, .putfield 385, [748]), none, none, some (1, .aload_n 0, .aload_n 0, []), some (2, .bipush 32, .bipush 32, []), none, some (2, .newarray .int, .newarray .int, [125]), 
  none, some (3, .putfield 13, .putfield 386, [749]), none, none, some (1, .aload_n 0, .aload_n 0, []), some (2, .bipush 8, .bipush 8, []), none, some (2, .newarray .int, .newarray .int, [125]), 
  none, some (3, .putfield 17, .putfield 387, [750]), none, none, some (1, .aload_n 0, .aload_n 0, []), some (2, .bipush 8, .bipush 8, []), none, some (2, .newarray .int, .newarray .int, [125]), 
  none, some (3, .putfield 20, .putfield 388, [751]), none, none, some (1, .aload_n 0, .aload_n 0, []), some (2, .bipush 8, .bipush 8, []), none, some (2, .newarray .int, .newarray .int, [125]), 
  none, some (3, .putfield 23, .putfield 389, [752]), none, none, some (1, .aload_n 0, .aload_n 0, []), some (2, .bipush 8, .bipush 8, []), none, some (2, .newarray .int, .newarray .int, [125]), 
  none, some (3, .putfield 26, .putfield 390, [753]), none, none, some (1, .aload_n 0, .aload_n 0, []), some (2, .bipush 8, .bipush 8, []), none, some (2, .newarray .int, .newarray .int, [125]), 
  none, some (3, .putfield 29, .putfield 391, [754]), none, none, some (1, .aload_n 0, .aload_n 0, []), some (2, .bipush 48, .bipush 48, []), none, some (2, .newarray .int, .newarray .int, [125]), 
  none, some (3, .putfield 32, .putfield 393, [756]), none, none, some (1, .aload_n 0, .aload_n 0, []), some (2, .bipush 16, .bipush 16, []), none, some (2, .newarray .int, .newarray .int, [125]), 
  none, some (3, .putfield 35, .putfield 394, [757]), none, none, some (1, .aload_n 0, .aload_n 0, []), some (2, .bipush 16, .bipush 16, []), none, some (2, .newarray .boolean, .newarray .boolean, [841]), 
  none, some (3, .putfield 38, .putfield 395, [758]), none, none, some (1, .aload_n 0, .aload_n 0, []), some (2, .bipush 40, .bipush 40, []), none, some (2, .newarray .int, .newarray .int, [125]), 
  none, some (3, .putfield 42, .putfield 397, [760]), none, none, some (1, .aload_n 0, .aload_n 0, []), some (2, .bipush 40, .bipush 40, []), none, some (2, .newarray .int, .newarray .int, [125]), 
  none, some (3, .putfield 45, .putfield 398, [761]), none, none, some (1, .aload_n 0, .aload_n 0, []), some (2, .bipush 40, .bipush 40, []), none, some (2, .newarray .int, .newarray .int, [125]), 
  none, some (3, .putfield 48, .putfield 399, [762]), none, none, some (1, .aload_n 0, .aload_n 0, []), some (2, .bipush 40, .bipush 40, []), none, some (2, .newarray .int, .newarray .int, [125]), 
  none, some (3, .putfield 51, .putfield 400, [763]), none, none, some (1, .aload_n 0, .aload_n 0, []), some (2, .bipush 120, .bipush 120, []), none, some (2, .newarray .int, .newarray .int, [125]), 
  none, some (3, .putfield 54, .putfield 401, [764]), none, none, some (1, .aload_n 0, .aload_n 0, []), some (2, .bipush 120, .bipush 120, []), none, some (2, .newarray .int, .newarray .int, [125]), 
  none, some (3, .putfield 57, .putfield 402, [765]), none, none, some (1, .aload_n 0, .aload_n 0, []), some (2, .bipush 40, .bipush 40, []), none, some (2, .newarray .int, .newarray .int, [125]), 
  none, some (3, .putfield 60, .putfield 403, [766]), none, none, some (1, .aload_n 0, .aload_n 0, []), some (2, .bipush 40, .bipush 40, []), none, some (2, .newarray .int, .newarray .int, [125]), 
  none, some (3, .putfield 63, .putfield 404, [767]), none, none, some (1, .aload_n 0, .aload_n 0, []), some (1, .iconst (-1), .iconst (-1), []), some (3, .putfield 66, .putfield 405, [768]), 
  none, none, some (1, .aload_n 0, .aload_n 0, []), some (3, .sipush 512, .sipush 512, []), none, none, some (2, .newarray .int, .newarray .int, [125]), 
  none, some (3, .putfield 69, .putfield 409, [772]), none, none, some (1, .aload_n 0, .aload_n 0, []), some (3, .sipush 512, .sipush 512, []), none, none, 
  some (2, .newarray .int, .newarray .int, [125]), none, some (3, .putfield 72, .putfield 410, [773]), none, none, some (1, .aload_n 0, .aload_n 0, []), 
  some (3, .sipush 512, .sipush 512, []), none, none, some (2, .newarray .int, .newarray .int, [125]), none, some (3, .putfield 75, .putfield 411, [774]), 
  none, none, some (1, .aload_n 0, .aload_n 0, []), some (3, .sipush 512, .sipush 512, []), none, none, some (2, .newarray .long, .newarray .long, [842]), 
  none, some (3, .putfield 78, .putfield 412, [775]), none, none, some (1, .aload_n 0, .aload_n 0, []), some (3, .sipush 4096, .sipush 4096, []), none, 
  none, some (2, .newarray .boolean, .newarray .boolean, [841]), none, some (3, .putfield 82, .putfield 413, [776]), none, none, some (1, .aload_n 0, .aload_n 0, []), 
  some (3, .sipush 4096, .sipush 4096, []), none, none, some (2, .newarray .boolean, .newarray .boolean, [841]), none, some (3, .putfield 85, .putfield 414, [777]), 
  none, none, some (1, .iconst 0, .iconst 0, []), some (1, .istore_n 1, .istore_n 1, []), some (1, .iload_n 1, .iload_n 1, []), some (2, .bipush 32, .bipush 32, []), 
  none, some (3, .if_icmp .ge 16, .if_icmp .ge 225, []), none, none, some (1, .aload_n 0, .aload_n 0, []), some (3, .getfield 13, .getfield 386, [749]), 
  none, none, some (1, .iload_n 1, .iload_n 1, []), some (1, .iconst (-1), .iconst (-1), []), some (1, .iastore, .iastore, []), some (3, .iinc 1 1, .iinc 1 1, []), 
  none, none, some (3, .goto (-16), .goto 206, []), none, none, some (1, .iconst 0, .iconst 0, []), some (1, .istore_n 1, .istore_n 1, []), some (1, .iload_n 1, .iload_n 1, []), 
  some (2, .bipush 8, .bipush 8, []), none, some (3, .if_icmp .ge 16, .if_icmp .ge 246, []), none, none, some (1, .aload_n 0, .aload_n 0, []), some (3, .getfield 17, .getfield 387, [750]), 
  none, none, some (1, .iload_n 1, .iload_n 1, []), some (1, .iconst (-1), .iconst (-1), []), some (1, .iastore, .iastore, []), some (3, .iinc 1 1, .iinc 1 1, []), 
  none, none, some (3, .goto (-16), .goto 227, []), none, none, some (1, .aload_n 0, .aload_n 0, []), some (3, .getfield 20, .getfield 388, [751]), none, 
  none, some (1, .iconst 0, .iconst 0, []), some (3, .sipush 1000, .sipush 1000, []), none, none, some (1, .iastore, .iastore, []), some (1, .aload_n 0, .aload_n 0, []), 
  some (3, .getfield 26, .getfield 390, [753]), none, none, some (1, .iconst 0, .iconst 0, []), some (3, .sipush 4096, .sipush 4096, []), none, none, some (1, .iastore, .iastore, []), 
  some (1, .return_, .return_, [])])
def mj_Mo_thrown : mv_J := (⟨"PlugTreeModel", "thrown", "()I"⟩, prog_8_method_2_code, 1, some .int, [], [], 1, 6, [
  some (1, .aload_n 0, .aload_n 0, []), some (3, .getfield 88, .getfield 384, [747]), none, none, some (1, .ireturn, .ireturn, [])])
def mj_Mo_bridge : mv_J := (⟨"PlugTreeModel", "bridge", "(III)I"⟩, prog_8_method_7_code, 4, some .int, [], [], 4, 6, [
  some (1, .aload_n 0, .aload_n 0, []), some (1, .aload_n 0, .aload_n 0, []), some (1, .iload_n 1, .iload_n 1, []), some (3, .invokevirtual 94, .invokevirtual 84, [851, 853, 22]), 
  none, none, some (3, .ifCond .eq 27, .ifCond .eq 33, []), none, none, some (1, .iload_n 2, .iload_n 2, []), some (1, .iconst 0, .iconst 0, []), some (1, .iconst 3, .iconst 3, []), 
  some (3, .invokestatic 98, .invokestatic 85, [855, 856]), none, none, some (3, .ifCond .eq 18, .ifCond .eq 33, []), none, none, some (1, .iload_n 3, .iload_n 3, []), 
  some (1, .iconst 0, .iconst 0, []), some (3, .sipush 1000, .sipush 1000, []), none, none, some (3, .invokestatic 98, .invokestatic 85, [855, 856]), none, 
  none, some (3, .ifCond .eq 7, .ifCond .eq 33, []), none, none, some (1, .iconst 0, .iconst 0, []), some (3, .goto 4, .goto 34, []), none, none, some (1, .iconst 1, .iconst 1, []), 
  some (3, .putfield 88, .putfield 384, [747]), none, none, some (1, .aload_n 0, .aload_n 0, []), some (3, .getfield 88, .getfield 384, [747]), none, none, 
  some (3, .ifCond .ne 47, .ifCond .ne 88, []), none, none, some (1, .aload_n 0, .aload_n 0, []), some (3, .getfield 13, .getfield 386, [749]), none, none, 
  some (1, .iconst 4, .iconst 4, []), some (1, .iload_n 1, .iload_n 1, []), some (1, .imul, .imul, []), some (1, .iload_n 2, .iload_n 2, []), some (1, .iadd, .iadd, []), 
  some (1, .iaload, .iaload, []), some (1, .iconst (-1), .iconst (-1), []), some (3, .if_icmp .ne 28, .if_icmp .ne 83, []), none, none, some (1, .aload_n 0, .aload_n 0, []), 
  some (3, .getfield 7, .getfield 385, [748]), none, none, some (2, .bipush 8, .bipush 8, []), none, some (3, .if_icmp .eq 19, .if_icmp .eq 83, []), none, 
  none, some (1, .aload_n 0, .aload_n 0, []), some (1, .iload_n 1, .iload_n 1, []), some (3, .invokevirtual 102, .invokevirtual 86, [858, 860, 23]), none, 
  none, some (1, .iconst 4, .iconst 4, []), some (3, .if_icmp .eq 10, .if_icmp .eq 83, []), none, none, some (1, .aload_n 0, .aload_n 0, []), some (3, .getfield 66, .getfield 405, [768]), 
  none, none, some (3, .ifCond .lt 8, .ifCond .lt 88, []), none, none, some (1, .aload_n 0, .aload_n 0, []), some (1, .iconst 2, .iconst 2, []), some (3, .putfield 88, .putfield 384, [747]), 
  none, none, some (1, .aload_n 0, .aload_n 0, []), some (3, .getfield 88, .getfield 384, [747]), none, none, some (3, .ifCond .le 5, .ifCond .le 97, []), 
  none, none, some (1, .iconst 0, .iconst 0, []), some (1, .ireturn, .ireturn, []), some (1, .aload_n 0, .aload_n 0, []), some (3, .getfield 13, .getfield 386, [749]), 
  none, none, some (1, .iconst 4, .iconst 4, []), some (1, .iload_n 1, .iload_n 1, []), some (1, .imul, .imul, []), some (1, .iload_n 2, .iload_n 2, []), 
  some (1, .iadd, .iadd, []), some (1, .aload_n 0, .aload_n 0, []), some (3, .getfield 7, .getfield 385, [748]), none, none, some (1, .iastore, .iastore, []), 
  some (1, .aload_n 0, .aload_n 0, []), some (3, .getfield 17, .getfield 387, [750]), none, none, some (1, .aload_n 0, .aload_n 0, []), some (3, .getfield 7, .getfield 385, [748]), 
  none, none, some (1, .iload_n 1, .iload_n 1, []), some (1, .iastore, .iastore, []), some (1, .aload_n 0, .aload_n 0, []), some (3, .getfield 20, .getfield 388, [751]), 
  none, none, some (1, .aload_n 0, .aload_n 0, []), some (3, .getfield 7, .getfield 385, [748]), none, none, some (1, .iload_n 3, .iload_n 3, []), some (1, .iastore, .iastore, []), 
  some (1, .aload_n 0, .aload_n 0, []), some (1, .dup, .dup, []), some (3, .getfield 7, .getfield 385, [748]), none, none, some (1, .iconst 1, .iconst 1, []), 
  some (1, .iadd, .iadd, []), some (3, .putfield 7, .putfield 385, [748]), none, none, some (1, .aload_n 0, .aload_n 0, []), some (3, .getfield 7, .getfield 385, [748]), 
  none, none, some (1, .iconst 1, .iconst 1, []), some (1, .isub, .isub, []), some (1, .ireturn, .ireturn, [])])
def mj_Mo_isBridge : mv_J := (⟨"PlugTreeModel", "isBridge", "(I)Z"⟩, prog_8_method_4_code, 2, some .boolean, [], [], 2, 6, [
  some (1, .iload_n 1, .iload_n 1, []), some (3, .ifCond .lt 15, .ifCond .lt 16, []), none, none, some (1, .iload_n 1, .iload_n 1, []), some (1, .aload_n 0, .aload_n 0, []), 
  some (3, .getfield 7, .getfield 385, [748]), none, none, some (3, .if_icmp .ge 7, .if_icmp .ge 16, []), none, none, some (1, .iconst 1, .iconst 1, []), 
  some (3, .goto 4, .goto 17, []), none, none, some (1, .iconst 0, .iconst 0, []), some (1, .ireturn, .ireturn, [])])
def mj_Mo_within : mv_J := (⟨"PlugTreeModel", "within", "(III)Z"⟩, prog_8_method_3_code, 3, some .boolean, [], [], 3, 6, [
  some (1, .iload_n 0, .iload_n 0, []), some (1, .iload_n 1, .iload_n 1, []), some (3, .if_icmp .lt 12, .if_icmp .lt 14, []), none, none, some (1, .iload_n 0, .iload_n 0, []), 
  some (1, .iload_n 2, .iload_n 2, []), some (3, .if_icmp .gt 7, .if_icmp .gt 14, []), none, none, some (1, .iconst 1, .iconst 1, []), some (3, .goto 4, .goto 15, []), 
  none, none, some (1, .iconst 0, .iconst 0, []), some (1, .ireturn, .ireturn, [])])
def mj_Mo_depthOf : mv_J := (⟨"PlugTreeModel", "depthOf", "(I)I"⟩, prog_8_method_6_code, 4, some .int, [], [], 2, 6, [
  some (1, .iconst 0, .iconst 0, []), some (1, .istore_n 2, .istore_n 2, []), some (1, .aload_n 0, .aload_n 0, []), some (3, .getfield 17, .getfield 387, [750]), 
  none, none, some (1, .iload_n 1, .iload_n 1, []), some (1, .iaload, .iaload, []), some (1, .istore_n 3, .istore_n 3, []), some (1, .iload_n 3, .iload_n 3, []), 
  some (3, .ifCond .lt 16, .ifCond .lt 26, []), none, none, some (3, .iinc 2 1, .iinc 2 1, []), none, none, some (1, .aload_n 0, .aload_n 0, []), some (3, .getfield 17, .getfield 387, [750]), 
  none, none, some (1, .iload_n 3, .iload_n 3, []), some (1, .iaload, .iaload, []), some (1, .istore_n 3, .istore_n 3, []), some (3, .goto (-14), .goto 9, []), 
  none, none, some (1, .iload_n 2, .iload_n 2, []), some (1, .ireturn, .ireturn, [])])
def mj_Mo_type : mv_J := (⟨"PlugTreeModel", "type", "(IIIIZ)I"⟩, prog_8_method_8_code, 7, some .int, [], [], 6, 6, [
  some (1, .iload_n 1, .iload_n 1, []), some (1, .iconst (-1), .iconst (-1), []), some (2, .bipush 10, .bipush 10, []), none, some (3, .invokestatic 98, .invokestatic 85, [855, 856]), 
  none, none, some (3, .ifCond .eq 39, .ifCond .eq 46, []), none, none, some (1, .iload_n 2, .iload_n 2, []), some (1, .iconst (-1), .iconst (-1), []), 
  some (2, .bipush 10, .bipush 10, []), none, some (3, .invokestatic 98, .invokestatic 85, [855, 856]), none, none, some (3, .ifCond .eq 29, .ifCond .eq 46, []), 
  none, none, some (1, .iload_n 3, .iload_n 3, []), some (1, .iconst (-1), .iconst (-1), []), some (2, .bipush 10, .bipush 10, []), none, some (3, .invokestatic 98, .invokestatic 85, [855, 856]), 
  none, none, some (3, .ifCond .eq 19, .ifCond .eq 46, []), none, none, some (2, .iload 4, .iload 4, []), none, some (1, .iconst 0, .iconst 0, []), some (3, .sipush 1000, .sipush 1000, []), 
  none, none, some (3, .invokestatic 98, .invokestatic 85, [855, 856]), none, none, some (3, .ifCond .eq 7, .ifCond .eq 46, []), none, none, some (1, .iconst 1, .iconst 1, []), 
  some (3, .goto 4, .goto 47, []), none, none, some (1, .iconst 0, .iconst 0, []), some (2, .istore 6, .istore 6, []), none, some (1, .aload_n 0, .aload_n 0, []), 
  some (2, .iload 6, .iload 6, []), none, some (3, .ifCond .ne 7, .ifCond .ne 59, []), none, none, some (1, .iconst 1, .iconst 1, []), some (3, .goto 17, .goto 73, []), 
  none, none, some (1, .aload_n 0, .aload_n 0, []), some (3, .getfield 106, .getfield 392, [755]), none, none, some (2, .bipush 16, .bipush 16, []), none, 
  some (3, .if_icmp .ne 7, .if_icmp .ne 72, []), none, none, some (1, .iconst 2, .iconst 2, []), some (3, .goto 4, .goto 73, []), none, none, some (1, .iconst 0, .iconst 0, []), 
  some (3, .putfield 88, .putfield 384, [747]), none, none, some (1, .aload_n 0, .aload_n 0, []), some (3, .getfield 88, .getfield 384, [747]), none, none, 
  some (3, .ifCond .le 5, .ifCond .le 85, []), none, none, some (1, .iconst 0, .iconst 0, []), some (1, .ireturn, .ireturn, []), some (1, .aload_n 0, .aload_n 0, []), 
  some (3, .getfield 32, .getfield 393, [756]), none, none, some (1, .iconst 3, .iconst 3, []), some (1, .aload_n 0, .aload_n 0, []), some (3, .getfield 106, .getfield 392, [755]), 
  none, none, some (1, .imul, .imul, []), some (1, .iload_n 1, .iload_n 1, []), some (3, .ifCond .ge 7, .ifCond .ge 103, []), none, none, some (1, .iconst 0, .iconst 0, []), 
  some (3, .goto 6, .goto 106, []), none, none, some (1, .iconst 1, .iconst 1, []), some (1, .iload_n 1, .iload_n 1, []), some (1, .ishl, .ishl, []), some (1, .iastore, .iastore, []), 
  some (1, .aload_n 0, .aload_n 0, []), some (3, .getfield 32, .getfield 393, [756]), none, none, some (1, .iconst 3, .iconst 3, []), some (1, .aload_n 0, .aload_n 0, []), 
  some (3, .getfield 106, .getfield 392, [755]), none, none, some (1, .imul, .imul, []), some (1, .iconst 1, .iconst 1, []), some (1, .iadd, .iadd, []), 
  some (1, .iload_n 2, .iload_n 2, []), some (3, .ifCond .ge 7, .ifCond .ge 127, []), none, none, some (1, .iconst 0, .iconst 0, []), some (3, .goto 6, .goto 130, []), 
  none, none, some (1, .iconst 1, .iconst 1, []), some (1, .iload_n 2, .iload_n 2, []), some (1, .ishl, .ishl, []), some (1, .iastore, .iastore, []), some (1, .aload_n 0, .aload_n 0, []), 
  some (3, .getfield 32, .getfield 393, [756]), none, none, some (1, .iconst 3, .iconst 3, []), some (1, .aload_n 0, .aload_n 0, []), some (3, .getfield 106, .getfield 392, [755]), 
  none, none, some (1, .imul, .imul, []), some (1, .iconst 2, .iconst 2, []), some (1, .iadd, .iadd, []), some (1, .iload_n 3, .iload_n 3, []), some (3, .ifCond .ge 7, .ifCond .ge 151, []), 
  none, none, some (1, .iconst 0, .iconst 0, []), some (3, .goto 6, .goto 154, []), none, none, some (1, .iconst 1, .iconst 1, []), some (1, .iload_n 3, .iload_n 3, []), 
  some (1, .ishl, .ishl, []), some (1, .iastore, .iastore, []), some (1, .aload_n 0, .aload_n 0, []), some (3, .getfield 35, .getfield 394, [757]), none, 
  none, some (1, .aload_n 0, .aload_n 0, []), some (3, .getfield 106, .getfield 392, [755]), none, none, some (2, .iload 4, .iload 4, []), none, some (1, .iastore, .iastore, []), 
  some (1, .aload_n 0, .aload_n 0, []), some (3, .getfield 38, .getfield 395, [758]), none, none, some (1, .aload_n 0, .aload_n 0, []), some (3, .getfield 106, .getfield 392, [755]), 
  none, none, some (2, .iload 5, .iload 5, []), none, some (1, .bastore, .bastore, []), some (1, .aload_n 0, .aload_n 0, []), some (1, .dup, .dup, []), 
  some (3, .getfield 106, .getfield 392, [755]), none, none, some (1, .iconst 1, .iconst 1, []), some (1, .iadd, .iadd, []), some (3, .putfield 106, .putfield 392, [755]), 
  none, none, some (1, .aload_n 0, .aload_n 0, []), some (3, .getfield 106, .getfield 392, [755]), none, none, some (1, .iconst 1, .iconst 1, []), some (1, .isub, .isub, []), 
  some (1, .ireturn, .ireturn, [])])
def mj_Mo_plug : mv_J := (⟨"PlugTreeModel", "plug", "(III)I"⟩, prog_8_method_9_code, 5, some .int, [], [], 4, 6, [
  some (1, .aload_n 0, .aload_n 0, []), some (1, .aload_n 0, .aload_n 0, []), some (1, .iload_n 1, .iload_n 1, []), some (3, .invokevirtual 94, .invokevirtual 84, [851, 853, 22]), 
  none, none, some (3, .ifCond .eq 28, .ifCond .eq 34, []), none, none, some (1, .iload_n 2, .iload_n 2, []), some (1, .iconst 0, .iconst 0, []), some (1, .iconst 3, .iconst 3, []), 
  some (3, .invokestatic 98, .invokestatic 85, [855, 856]), none, none, some (3, .ifCond .eq 19, .ifCond .eq 34, []), none, none, some (1, .iload_n 3, .iload_n 3, []), 
  some (3, .ifCond .lt 15, .ifCond .lt 34, []), none, none, some (1, .iload_n 3, .iload_n 3, []), some (1, .aload_n 0, .aload_n 0, []), some (3, .getfield 106, .getfield 392, [755]), 
  none, none, some (3, .if_icmp .ge 7, .if_icmp .ge 34, []), none, none, some (1, .iconst 0, .iconst 0, []), some (3, .goto 4, .goto 35, []), none, none, 
  some (1, .iconst 1, .iconst 1, []), some (3, .putfield 88, .putfield 384, [747]), none, none, some (1, .aload_n 0, .aload_n 0, []), some (3, .getfield 88, .getfield 384, [747]), 
  none, none, some (3, .ifCond .ne 38, .ifCond .ne 80, []), none, none, some (1, .aload_n 0, .aload_n 0, []), some (3, .getfield 13, .getfield 386, [749]), 
  none, none, some (1, .iconst 4, .iconst 4, []), some (1, .iload_n 1, .iload_n 1, []), some (1, .imul, .imul, []), some (1, .iload_n 2, .iload_n 2, []), 
  some (1, .iadd, .iadd, []), some (1, .iaload, .iaload, []), some (1, .iconst (-1), .iconst (-1), []), some (3, .if_icmp .ne 19, .if_icmp .ne 75, []), 
  none, none, some (1, .aload_n 0, .aload_n 0, []), some (3, .getfield 91, .getfield 396, [759]), none, none, some (2, .bipush 40, .bipush 40, []), none, 
  some (3, .if_icmp .eq 10, .if_icmp .eq 75, []), none, none, some (1, .aload_n 0, .aload_n 0, []), some (3, .getfield 66, .getfield 405, [768]), none, 
  none, some (3, .ifCond .lt 8, .ifCond .lt 80, []), none, none, some (1, .aload_n 0, .aload_n 0, []), some (1, .iconst 2, .iconst 2, []), some (3, .putfield 88, .putfield 384, [747]), 
  none, none, some (1, .aload_n 0, .aload_n 0, []), some (3, .getfield 88, .getfield 384, [747]), none, none, some (3, .ifCond .le 5, .ifCond .le 89, []), 
  none, none, some (1, .iconst 0, .iconst 0, []), some (1, .ireturn, .ireturn, []), some (1, .aload_n 0, .aload_n 0, []), some (3, .getfield 13, .getfield 386, [749]), 
  none, none, some (1, .iconst 4, .iconst 4, []), some (1, .iload_n 1, .iload_n 1, []), some (1, .imul, .imul, []), some (1, .iload_n 2, .iload_n 2, []), 
  some (1, .iadd, .iadd, []), some (2, .bipush 100, .bipush 100, []), none, some (1, .aload_n 0, .aload_n 0, []), some (3, .getfield 91, .getfield 396, [759]), 
  none, none, some (1, .iadd, .iadd, []), some (1, .iastore, .iastore, []), some (1, .aload_n 0, .aload_n 0, []), some (3, .getfield 42, .getfield 397, [760]), 
  none, none, some (1, .aload_n 0, .aload_n 0, []), some (3, .getfield 91, .getfield 396, [759]), none, none, some (1, .iload_n 3, .iload_n 3, []), some (1, .iastore, .iastore, []), 
  some (1, .aload_n 0, .aload_n 0, []), some (3, .getfield 45, .getfield 398, [761]), none, none, some (1, .aload_n 0, .aload_n 0, []), some (3, .getfield 91, .getfield 396, [759]), 
  none, none, some (1, .iload_n 1, .iload_n 1, []), some (1, .iastore, .iastore, []), some (1, .aload_n 0, .aload_n 0, []), some (3, .getfield 48, .getfield 399, [762]), 
  none, none, some (1, .aload_n 0, .aload_n 0, []), some (3, .getfield 91, .getfield 396, [759]), none, none, some (1, .iconst 0, .iconst 0, []), some (1, .iastore, .iastore, []), 
  some (1, .iconst 0, .iconst 0, []), some (2, .istore 4, .istore 4, []), none, some (2, .iload 4, .iload 4, []), none, some (1, .iconst 3, .iconst 3, []), 
  some (3, .if_icmp .ge 24, .if_icmp .ge 166, []), none, none, some (1, .aload_n 0, .aload_n 0, []), some (3, .getfield 54, .getfield 401, [764]), none, 
  none, some (1, .iconst 3, .iconst 3, []), some (1, .aload_n 0, .aload_n 0, []), some (3, .getfield 91, .getfield 396, [759]), none, none, some (1, .imul, .imul, []), 
  some (2, .iload 4, .iload 4, []), none, some (1, .iadd, .iadd, []), some (1, .iconst (-1), .iconst (-1), []), some (1, .iastore, .iastore, []), some (3, .iinc 4 1, .iinc 4 1, []), 
  none, none, some (3, .goto (-24), .goto 139, []), none, none, some (1, .aload_n 0, .aload_n 0, []), some (1, .aload_n 0, .aload_n 0, []), some (3, .getfield 91, .getfield 396, [759]), 
  none, none, some (3, .putfield 66, .putfield 405, [768]), none, none, some (1, .aload_n 0, .aload_n 0, []), some (1, .iconst 0, .iconst 0, []), some (3, .putfield 109, .putfield 406, [769]), 
  none, none, some (1, .aload_n 0, .aload_n 0, []), some (1, .dup, .dup, []), some (3, .getfield 91, .getfield 396, [759]), none, none, some (1, .iconst 1, .iconst 1, []), 
  some (1, .iadd, .iadd, []), some (3, .putfield 91, .putfield 396, [759]), none, none, some (1, .aload_n 0, .aload_n 0, []), some (3, .getfield 66, .getfield 405, [768]), 
  none, none, some (1, .ireturn, .ireturn, [])])
def mj_Mo_step : mv_J := (⟨"PlugTreeModel", "step", "()Z"⟩, prog_8_method_30_code, 1, some .boolean, [], [], 1, 6, [
  some (1, .aload_n 0, .aload_n 0, []), some (1, .iconst 0, .iconst 0, []), some (3, .putfield 88, .putfield 384, [747]), none, none, some (1, .aload_n 0, .aload_n 0, []), 
  some (3, .invokevirtual 181, .invokevirtual 90, [874, 876, 24]), none, none, some (1, .ireturn, .ireturn, [])])
def mj_Mo_goOn : mv_J := (⟨"PlugTreeModel", "goOn", "()Z"⟩, prog_8_method_29_code, 3, some .boolean, [], [], 1, 6, [
  some (1, .iconst 0, .iconst 0, []), some (1, .istore_n 1, .istore_n 1, []), some (1, .iconst 0, .iconst 0, []), some (1, .istore_n 2, .istore_n 2, []), 
  some (1, .iload_n 2, .iload_n 2, []), some (1, .aload_n 0, .aload_n 0, []), some (3, .getfield 91, .getfield 396, [759]), none, none, some (3, .if_icmp .ge 36, .if_icmp .ge 45, []), 
  none, none, some (1, .aload_n 0, .aload_n 0, []), some (3, .getfield 48, .getfield 399, [762]), none, none, some (1, .iload_n 2, .iload_n 2, []), some (1, .iaload, .iaload, []), 
  some (1, .iconst 3, .iconst 3, []), some (3, .if_icmp .ne 20, .if_icmp .ne 39, []), none, none, some (1, .aload_n 0, .aload_n 0, []), some (3, .getfield 60, .getfield 403, [766]), 
  none, none, some (1, .iload_n 2, .iload_n 2, []), some (1, .iaload, .iaload, []), some (3, .ifCond .ne 11, .ifCond .ne 39, []), none, none, some (1, .aload_n 0, .aload_n 0, []), 
  some (1, .iload_n 2, .iload_n 2, []), some (1, .iconst 4, .iconst 4, []), some (3, .invokevirtual 161, .invokevirtual 91, [878, 880, 25]), none, none, 
  some (1, .iconst 1, .iconst 1, []), some (1, .istore_n 1, .istore_n 1, []), some (3, .iinc 2 1, .iinc 2 1, []), none, none, some (3, .goto (-38), .goto 4, []), 
  none, none, some (1, .aload_n 0, .aload_n 0, []), some (3, .getfield 66, .getfield 405, [768]), none, none, some (3, .ifCond .ge 5, .ifCond .ge 54, []), 
  none, none, some (1, .iload_n 1, .iload_n 1, []), some (1, .ireturn, .ireturn, []), some (1, .aload_n 0, .aload_n 0, []), some (3, .getfield 109, .getfield 406, [769]), 
  none, none, some (3, .ifCond .ne 9, .ifCond .ne 67, []), none, none, some (1, .aload_n 0, .aload_n 0, []), some (3, .invokevirtual 175, .invokevirtual 92, [882, 884, 26]), 
  none, none, some (1, .iconst 1, .iconst 1, []), some (1, .ireturn, .ireturn, []), some (1, .iconst 0, .iconst 0, []), some (1, .istore_n 2, .istore_n 2, []), 
  some (1, .iload_n 2, .iload_n 2, []), some (1, .aload_n 0, .aload_n 0, []), some (3, .getfield 91, .getfield 396, [759]), none, none, some (3, .if_icmp .ge 28, .if_icmp .ge 102, []), 
  none, none, some (1, .aload_n 0, .aload_n 0, []), some (1, .iload_n 2, .iload_n 2, []), some (3, .invokevirtual 113, .invokevirtual 94, [890, 892, 28]), 
  none, none, some (3, .ifCond .eq 14, .ifCond .eq 96, []), none, none, some (1, .aload_n 0, .aload_n 0, []), some (3, .getfield 60, .getfield 403, [766]), 
  none, none, some (1, .iload_n 2, .iload_n 2, []), some (1, .iaload, .iaload, []), some (3, .ifCond .le 5, .ifCond .le 96, []), none, none, some (1, .iload_n 1, .iload_n 1, []), 
  some (1, .ireturn, .ireturn, []), some (3, .iinc 2 1, .iinc 2 1, []), none, none, some (3, .goto (-30), .goto 69, []), none, none, some (1, .aload_n 0, .aload_n 0, []), 
  some (3, .invokevirtual 178, .invokevirtual 108, [945, 947, 41]), none, none, some (1, .iconst 1, .iconst 1, []), some (1, .ireturn, .ireturn, [])])
def mj_Mo_remove : mv_J := (⟨"PlugTreeModel", "remove", "(II)V"⟩, prog_8_method_12_code, 4, none, [], [], 3, 6, [
  some (1, .aload_n 0, .aload_n 0, []), some (3, .getfield 48, .getfield 399, [762]), none, none, some (1, .iload_n 1, .iload_n 1, []), some (1, .iload_n 2, .iload_n 2, []), 
  some (1, .iastore, .iastore, []), some (1, .aload_n 0, .aload_n 0, []), some (3, .getfield 60, .getfield 403, [766]), none, none, some (1, .iload_n 1, .iload_n 1, []), 
  some (1, .iconst 0, .iconst 0, []), some (1, .iastore, .iastore, []), some (1, .iconst 0, .iconst 0, []), some (1, .istore_n 3, .istore_n 3, []), some (1, .iload_n 3, .iload_n 3, []), 
  some (1, .iconst 3, .iconst 3, []), some (3, .if_icmp .ge 20, .if_icmp .ge 38, []), none, none, some (1, .aload_n 0, .aload_n 0, []), some (3, .getfield 54, .getfield 401, [764]), 
  none, none, some (1, .iconst 3, .iconst 3, []), some (1, .iload_n 1, .iload_n 1, []), some (1, .imul, .imul, []), some (1, .iload_n 3, .iload_n 3, []), 
  some (1, .iadd, .iadd, []), some (1, .iconst (-1), .iconst (-1), []), some (1, .iastore, .iastore, []), some (3, .iinc 3 1, .iinc 3 1, []), none, none, 
  some (3, .goto (-19), .goto 16, []), none, none, some (1, .iconst 0, .iconst 0, []), some (1, .istore_n 3, .istore_n 3, []), some (1, .iload_n 3, .iload_n 3, []), 
  some (2, .bipush 32, .bipush 32, []), none, some (3, .if_icmp .ge 38, .if_icmp .ge 81, []), none, none, some (1, .aload_n 0, .aload_n 0, []), some (3, .getfield 13, .getfield 386, [749]), 
  none, none, some (1, .iload_n 3, .iload_n 3, []), some (1, .aload_n 0, .aload_n 0, []), some (3, .getfield 13, .getfield 386, [749]), none, none, some (1, .iload_n 3, .iload_n 3, []), 
  some (1, .iaload, .iaload, []), some (2, .bipush 100, .bipush 100, []), none, some (1, .iload_n 1, .iload_n 1, []), some (1, .iadd, .iadd, []), some (3, .if_icmp .ne 7, .if_icmp .ne 68, []), 
  none, none, some (1, .iconst (-1), .iconst (-1), []), some (3, .goto 9, .goto 74, []), none, none, some (1, .aload_n 0, .aload_n 0, []), some (3, .getfield 13, .getfield 386, [749]), 
  none, none, some (1, .iload_n 3, .iload_n 3, []), some (1, .iaload, .iaload, []), some (1, .iastore, .iastore, []), some (3, .iinc 3 1, .iinc 3 1, []), 
  none, none, some (3, .goto (-38), .goto 40, []), none, none, some (1, .aload_n 0, .aload_n 0, []), some (1, .aload_n 0, .aload_n 0, []), some (3, .getfield 66, .getfield 405, [768]), 
  none, none, some (1, .iload_n 1, .iload_n 1, []), some (3, .if_icmp .ne 7, .if_icmp .ne 94, []), none, none, some (1, .iconst (-1), .iconst (-1), []), 
  some (3, .goto 7, .goto 98, []), none, none, some (1, .aload_n 0, .aload_n 0, []), some (3, .getfield 66, .getfield 405, [768]), none, none, some (3, .putfield 66, .putfield 405, [768]), 
  none, none, some (1, .return_, .return_, [])])
def mj_Mo_check : mv_J := (⟨"PlugTreeModel", "check", "()V"⟩, prog_8_method_28_code, 4, none, [], [], 1, 6, [
  some (1, .iconst 1, .iconst 1, []), some (1, .istore_n 1, .istore_n 1, []), some (1, .aload_n 0, .aload_n 0, []), some (3, .getfield 45, .getfield 398, [761]), 
  none, none, some (1, .aload_n 0, .aload_n 0, []), some (3, .getfield 66, .getfield 405, [768]), none, none, some (1, .iaload, .iaload, []), some (1, .istore_n 2, .istore_n 2, []), 
  some (1, .iload_n 2, .iload_n 2, []), some (3, .ifCond .lt 52, .ifCond .lt 65, []), none, none, some (1, .iload_n 1, .iload_n 1, []), some (3, .ifCond .eq 36, .ifCond .eq 53, []), 
  none, none, some (1, .aload_n 0, .aload_n 0, []), some (1, .iload_n 2, .iload_n 2, []), some (3, .invokevirtual 164, .invokevirtual 93, [886, 888, 27]), 
  none, none, some (1, .aload_n 0, .aload_n 0, []), some (3, .getfield 35, .getfield 394, [757]), none, none, some (1, .aload_n 0, .aload_n 0, []), some (3, .getfield 42, .getfield 397, [760]), 
  none, none, some (1, .aload_n 0, .aload_n 0, []), some (3, .getfield 66, .getfield 405, [768]), none, none, some (1, .iaload, .iaload, []), some (1, .iaload, .iaload, []), 
  some (1, .iadd, .iadd, []), some (1, .aload_n 0, .aload_n 0, []), some (3, .getfield 20, .getfield 388, [751]), none, none, some (1, .iload_n 2, .iload_n 2, []), 
  some (1, .iaload, .iaload, []), some (3, .if_icmp .gt 7, .if_icmp .gt 53, []), none, none, some (1, .iconst 1, .iconst 1, []), some (3, .goto 4, .goto 54, []), 
  none, none, some (1, .iconst 0, .iconst 0, []), some (1, .istore_n 1, .istore_n 1, []), some (1, .aload_n 0, .aload_n 0, []), some (3, .getfield 17, .getfield 387, [750]), 
  none, none, some (1, .iload_n 2, .iload_n 2, []), some (1, .iaload, .iaload, []), some (1, .istore_n 2, .istore_n 2, []), some (3, .goto (-50), .goto 12, []), 
  none, none, some (1, .iconst 0, .iconst 0, []), some (1, .istore_n 2, .istore_n 2, []), some (1, .iconst 0, .iconst 0, []), some (1, .istore_n 3, .istore_n 3, []), 
  some (1, .iload_n 3, .iload_n 3, []), some (1, .aload_n 0, .aload_n 0, []), some (3, .getfield 91, .getfield 396, [759]), none, none, some (3, .if_icmp .ge 41, .if_icmp .ge 115, []), 
  none, none, some (1, .iload_n 2, .iload_n 2, []), some (3, .ifCond .ne 25, .ifCond .ne 103, []), none, none, some (1, .aload_n 0, .aload_n 0, []), some (1, .iload_n 3, .iload_n 3, []), 
  some (3, .invokevirtual 113, .invokevirtual 94, [890, 892, 28]), none, none, some (3, .ifCond .eq 21, .ifCond .eq 107, []), none, none, some (1, .aload_n 0, .aload_n 0, []), 
  some (3, .getfield 38, .getfield 395, [758]), none, none, some (1, .aload_n 0, .aload_n 0, []), some (3, .getfield 42, .getfield 397, [760]), none, none, 
  some (1, .iload_n 3, .iload_n 3, []), some (1, .iaload, .iaload, []), some (1, .baload, .baload, []), some (3, .ifCond .ne 7, .ifCond .ne 107, []), none, 
  none, some (1, .iconst 1, .iconst 1, []), some (3, .goto 4, .goto 108, []), none, none, some (1, .iconst 0, .iconst 0, []), some (1, .istore_n 2, .istore_n 2, []), 
  some (3, .iinc 3 1, .iinc 3 1, []), none, none, some (3, .goto (-43), .goto 69, []), none, none, some (1, .aload_n 0, .aload_n 0, []), some (3, .getfield 45, .getfield 398, [761]), 
  none, none, some (1, .aload_n 0, .aload_n 0, []), some (3, .getfield 66, .getfield 405, [768]), none, none, some (1, .iaload, .iaload, []), some (1, .istore_n 3, .istore_n 3, []), 
  some (1, .iload_n 1, .iload_n 1, []), some (3, .ifCond .ne 11, .ifCond .ne 137, []), none, none, some (1, .aload_n 0, .aload_n 0, []), some (1, .iconst 1, .iconst 1, []), 
  some (3, .invokevirtual 167, .invokevirtual 96, [898, 900, 30]), none, none, some (3, .goto 93, .goto 227, []), none, none, some (1, .aload_n 0, .aload_n 0, []), 
  some (1, .aload_n 0, .aload_n 0, []), some (3, .getfield 23, .getfield 389, [752]), none, none, some (1, .iload_n 3, .iload_n 3, []), some (1, .iaload, .iaload, []), 
  some (1, .aload_n 0, .aload_n 0, []), some (3, .getfield 26, .getfield 390, [753]), none, none, some (1, .iload_n 3, .iload_n 3, []), some (1, .iaload, .iaload, []), 
  some (3, .invokevirtual 139, .invokevirtual 97, [902, 904, 31]), none, none, some (3, .ifCond .ne 10, .ifCond .ne 163, []), none, none, some (1, .aload_n 0, .aload_n 0, []), 
  some (3, .invokevirtual 171, .invokevirtual 102, [921, 923, 35]), none, none, some (3, .ifCond .eq 21, .ifCond .eq 181, []), none, none, some (1, .aload_n 0, .aload_n 0, []), 
  some (3, .getfield 48, .getfield 399, [762]), none, none, some (1, .aload_n 0, .aload_n 0, []), some (3, .getfield 66, .getfield 405, [768]), none, none, 
  some (1, .iconst 1, .iconst 1, []), some (1, .iastore, .iastore, []), some (1, .aload_n 0, .aload_n 0, []), some (1, .iconst (-1), .iconst (-1), []), 
  some (3, .putfield 66, .putfield 405, [768]), none, none, some (3, .goto 49, .goto 227, []), none, none, some (1, .iload_n 2, .iload_n 2, []), some (3, .ifCond .eq 11, .ifCond .eq 193, []), 
  none, none, some (1, .aload_n 0, .aload_n 0, []), some (1, .iconst 2, .iconst 2, []), some (3, .invokevirtual 167, .invokevirtual 96, [898, 900, 30]), 
  none, none, some (3, .goto 37, .goto 227, []), none, none, some (1, .aload_n 0, .aload_n 0, []), some (3, .invokevirtual 148, .invokevirtual 105, [933, 935, 38]), 
  none, none, some (1, .aload_n 0, .aload_n 0, []), some (1, .iconst 0, .iconst 0, []), some (3, .invokevirtual 145, .invokevirtual 106, [937, 939, 39]), 
  none, none, some (3, .sipush 4096, .sipush 4096, []), none, none, some (3, .if_icmp .le 11, .if_icmp .le 216, []), none, none, some (1, .aload_n 0, .aload_n 0, []), 
  some (1, .iconst 3, .iconst 3, []), some (3, .invokevirtual 167, .invokevirtual 96, [898, 900, 30]), none, none, some (3, .goto 14, .goto 227, []), none, 
  none, some (1, .aload_n 0, .aload_n 0, []), some (1, .iconst 1, .iconst 1, []), some (3, .putfield 109, .putfield 406, [769]), none, none, some (1, .aload_n 0, .aload_n 0, []), 
  some (1, .iconst 1, .iconst 1, []), some (1, .iconst 2, .iconst 2, []), some (3, .invokevirtual 157, .invokevirtual 107, [941, 943, 40]), none, none, 
  some (1, .return_, .return_, [])])
def mj_Mo_powerOf : mv_J := (⟨"PlugTreeModel", "powerOf", "(I)I"⟩, prog_8_method_15_code, 4, some .int, [], [], 2, 6, [
  some (1, .iconst 0, .iconst 0, []), some (1, .istore_n 2, .istore_n 2, []), some (1, .iconst 0, .iconst 0, []), some (1, .istore_n 3, .istore_n 3, []), 
  some (1, .iload_n 3, .iload_n 3, []), some (1, .aload_n 0, .aload_n 0, []), some (3, .getfield 91, .getfield 396, [759]), none, none, some (3, .if_icmp .ge 44, .if_icmp .ge 53, []), 
  none, none, some (1, .aload_n 0, .aload_n 0, []), some (1, .iload_n 3, .iload_n 3, []), some (3, .invokevirtual 113, .invokevirtual 94, [890, 892, 28]), 
  none, none, some (3, .ifCond .eq 28, .ifCond .eq 45, []), none, none, some (1, .aload_n 0, .aload_n 0, []), some (1, .iload_n 3, .iload_n 3, []), some (1, .iload_n 1, .iload_n 1, []), 
  some (3, .invokevirtual 116, .invokevirtual 95, [894, 896, 29]), none, none, some (3, .ifCond .eq 19, .ifCond .eq 45, []), none, none, some (1, .iload_n 2, .iload_n 2, []), 
  some (1, .aload_n 0, .aload_n 0, []), some (3, .getfield 35, .getfield 394, [757]), none, none, some (1, .aload_n 0, .aload_n 0, []), some (3, .getfield 42, .getfield 397, [760]), 
  none, none, some (1, .iload_n 3, .iload_n 3, []), some (1, .iaload, .iaload, []), some (1, .iaload, .iaload, []), some (1, .iadd, .iadd, []), some (3, .goto 4, .goto 46, []), 
  none, none, some (1, .iload_n 2, .iload_n 2, []), some (1, .istore_n 2, .istore_n 2, []), some (3, .iinc 3 1, .iinc 3 1, []), none, none, some (3, .goto (-46), .goto 4, []), 
  none, none, some (1, .iload_n 2, .iload_n 2, []), some (1, .ireturn, .ireturn, [])])
def mj_Mo_isThere : mv_J := (⟨"PlugTreeModel", "isThere", "(I)Z"⟩, prog_8_method_10_code, 2, some .boolean, [], [], 2, 6, [
  some (1, .aload_n 0, .aload_n 0, []), some (3, .getfield 48, .getfield 399, [762]), none, none, some (1, .iload_n 1, .iload_n 1, []), some (1, .iaload, .iaload, []), 
  some (1, .iconst 1, .iconst 1, []), some (3, .if_icmp .eq 23, .if_icmp .eq 30, []), none, none, some (1, .aload_n 0, .aload_n 0, []), some (3, .getfield 48, .getfield 399, [762]), 
  none, none, some (1, .iload_n 1, .iload_n 1, []), some (1, .iaload, .iaload, []), some (1, .iconst 2, .iconst 2, []), some (3, .if_icmp .eq 13, .if_icmp .eq 30, []), 
  none, none, some (1, .aload_n 0, .aload_n 0, []), some (3, .getfield 48, .getfield 399, [762]), none, none, some (1, .iload_n 1, .iload_n 1, []), some (1, .iaload, .iaload, []), 
  some (1, .iconst 3, .iconst 3, []), some (3, .if_icmp .ne 7, .if_icmp .ne 34, []), none, none, some (1, .iconst 1, .iconst 1, []), some (3, .goto 4, .goto 35, []), 
  none, none, some (1, .iconst 0, .iconst 0, []), some (1, .ireturn, .ireturn, [])])
def mj_Mo_hangsUnder : mv_J := (⟨"PlugTreeModel", "hangsUnder", "(II)Z"⟩, prog_8_method_14_code, 4, some .boolean, [], [], 3, 6, [
  some (1, .aload_n 0, .aload_n 0, []), some (3, .getfield 45, .getfield 398, [761]), none, none, some (1, .iload_n 1, .iload_n 1, []), some (1, .iaload, .iaload, []), 
  some (1, .istore_n 3, .istore_n 3, []), some (1, .iload_n 3, .iload_n 3, []), some (3, .ifCond .lt 18, .ifCond .lt 26, []), none, none, some (1, .iload_n 3, .iload_n 3, []), 
  some (1, .iload_n 2, .iload_n 2, []), some (3, .if_icmp .eq 13, .if_icmp .eq 26, []), none, none, some (1, .aload_n 0, .aload_n 0, []), some (3, .getfield 17, .getfield 387, [750]), 
  none, none, some (1, .iload_n 3, .iload_n 3, []), some (1, .iaload, .iaload, []), some (1, .istore_n 3, .istore_n 3, []), some (3, .goto (-16), .goto 7, []), 
  none, none, some (1, .iload_n 3, .iload_n 3, []), some (3, .ifCond .lt 7, .ifCond .lt 34, []), none, none, some (1, .iconst 1, .iconst 1, []), some (3, .goto 4, .goto 35, []), 
  none, none, some (1, .iconst 0, .iconst 0, []), some (1, .ireturn, .ireturn, [])])
def mj_Mo_refuse : mv_J := (⟨"PlugTreeModel", "refuse", "(I)V"⟩, prog_8_method_27_code, 2, none, [], [], 2, 6, [
  some (1, .aload_n 0, .aload_n 0, []), some (3, .getfield 51, .getfield 400, [763]), none, none, some (1, .aload_n 0, .aload_n 0, []), some (3, .getfield 66, .getfield 405, [768]), 
  none, none, some (1, .iload_n 1, .iload_n 1, []), some (1, .iastore, .iastore, []), some (1, .aload_n 0, .aload_n 0, []), some (1, .aload_n 0, .aload_n 0, []), 
  some (3, .getfield 66, .getfield 405, [768]), none, none, some (1, .iconst 5, .iconst 5, []), some (3, .invokevirtual 161, .invokevirtual 91, [878, 880, 25]), 
  none, none, some (1, .return_, .return_, [])])
def mj_Mo_fits : mv_J := (⟨"PlugTreeModel", "fits", "(II)Z"⟩, prog_8_method_19_code, 7, some .boolean, [], [], 3, 6, [
  some (1, .aload_n 0, .aload_n 0, []), some (3, .getfield 66, .getfield 405, [768]), none, none, some (1, .istore_n 3, .istore_n 3, []), some (1, .aload_n 0, .aload_n 0, []), 
  some (1, .aload_n 0, .aload_n 0, []), some (3, .getfield 45, .getfield 398, [761]), none, none, some (1, .iload_n 3, .iload_n 3, []), some (1, .iaload, .iaload, []), 
  some (1, .iload_n 1, .iload_n 1, []), some (1, .iload_n 2, .iload_n 2, []), some (2, .bipush 100, .bipush 100, []), none, some (1, .iload_n 3, .iload_n 3, []), 
  some (1, .iadd, .iadd, []), some (1, .aload_n 0, .aload_n 0, []), some (3, .getfield 82, .getfield 413, [776]), none, none, some (3, .invokevirtual 128, .invokevirtual 98, [906, 908, 32]), 
  none, none, some (3, .sipush 1024, .sipush 1024, []), none, none, some (2, .istore 4, .istore 4, []), none, some (2, .iload 4, .iload 4, []), none, some (3, .ifCond .le 83, .ifCond .le 115, []), 
  none, none, some (1, .iconst 0, .iconst 0, []), some (2, .istore 5, .istore 5, []), none, some (2, .iload 5, .iload 5, []), none, some (1, .iconst 3, .iconst 3, []), 
  some (3, .if_icmp .ge 65, .if_icmp .ge 106, []), none, none, some (1, .aload_n 0, .aload_n 0, []), some (1, .iload_n 3, .iload_n 3, []), some (2, .iload 5, .iload 5, []), 
  none, some (3, .invokevirtual 124, .invokevirtual 100, [913, 915, 33]), none, none, some (2, .iload 4, .iload 4, []), none, some (3, .if_icmp .ne 47, .if_icmp .ne 100, []), 
  none, none, some (1, .aload_n 0, .aload_n 0, []), some (2, .iload 4, .iload 4, []), none, some (1, .iload_n 1, .iload_n 1, []), some (1, .iload_n 2, .iload_n 2, []), 
  some (3, .invokevirtual 132, .invokevirtual 101, [917, 919, 34]), none, none, some (2, .istore 6, .istore 6, []), none, some (2, .iload 6, .iload 6, []), 
  none, some (3, .ifCond .ge 5, .ifCond .ge 73, []), none, none, some (1, .iconst 0, .iconst 0, []), some (1, .ireturn, .ireturn, []), some (1, .aload_n 0, .aload_n 0, []), 
  some (3, .getfield 57, .getfield 402, [765]), none, none, some (1, .iconst 3, .iconst 3, []), some (1, .iload_n 3, .iload_n 3, []), some (1, .imul, .imul, []), 
  some (2, .iload 5, .iload 5, []), none, some (1, .iadd, .iadd, []), some (2, .iload 6, .iload 6, []), none, some (1, .iastore, .iastore, []), some (1, .aload_n 0, .aload_n 0, []), 
  some (3, .getfield 82, .getfield 413, [776]), none, none, some (2, .iload 6, .iload 6, []), none, some (2, .iload 6, .iload 6, []), none, some (2, .iload 4, .iload 4, []), 
  none, some (1, .iadd, .iadd, []), some (3, .invokestatic 120, .invokestatic 99, [910, 911]), none, none, some (3, .iinc 5 1, .iinc 5 1, []), none, none, 
  some (3, .goto (-65), .goto 38, []), none, none, some (2, .iload 4, .iload 4, []), none, some (1, .iconst 2, .iconst 2, []), some (1, .idiv, .idiv, []), 
  some (2, .istore 4, .istore 4, []), none, some (3, .goto (-82), .goto 30, []), none, none, some (1, .iconst 0, .iconst 0, []), some (2, .istore 4, .istore 4, []), 
  none, some (2, .iload 4, .iload 4, []), none, some (1, .iconst 3, .iconst 3, []), some (3, .if_icmp .ge 45, .if_icmp .ge 166, []), none, none, some (1, .aload_n 0, .aload_n 0, []), 
  some (3, .getfield 54, .getfield 401, [764]), none, none, some (1, .iconst 3, .iconst 3, []), some (1, .iload_n 3, .iload_n 3, []), some (1, .imul, .imul, []), 
  some (2, .iload 4, .iload 4, []), none, some (1, .iadd, .iadd, []), some (1, .aload_n 0, .aload_n 0, []), some (1, .iload_n 3, .iload_n 3, []), some (2, .iload 4, .iload 4, []), 
  none, some (3, .invokevirtual 124, .invokevirtual 100, [913, 915, 33]), none, none, some (3, .ifCond .le 17, .ifCond .le 158, []), none, none, some (1, .aload_n 0, .aload_n 0, []), 
  some (3, .getfield 57, .getfield 402, [765]), none, none, some (1, .iconst 3, .iconst 3, []), some (1, .iload_n 3, .iload_n 3, []), some (1, .imul, .imul, []), 
  some (2, .iload 4, .iload 4, []), none, some (1, .iadd, .iadd, []), some (1, .iaload, .iaload, []), some (3, .goto 4, .goto 159, []), none, none, some (1, .iconst (-1), .iconst (-1), []), 
  some (1, .iastore, .iastore, []), some (3, .iinc 4 1, .iinc 4 1, []), none, none, some (3, .goto (-45), .goto 118, []), none, none, some (1, .aload_n 0, .aload_n 0, []), 
  some (3, .getfield 23, .getfield 389, [752]), none, none, some (1, .aload_n 0, .aload_n 0, []), some (3, .getfield 45, .getfield 398, [761]), none, none, 
  some (1, .iload_n 3, .iload_n 3, []), some (1, .iaload, .iaload, []), some (1, .iload_n 1, .iload_n 1, []), some (1, .iastore, .iastore, []), some (1, .aload_n 0, .aload_n 0, []), 
  some (3, .getfield 26, .getfield 390, [753]), none, none, some (1, .aload_n 0, .aload_n 0, []), some (3, .getfield 45, .getfield 398, [761]), none, none, 
  some (1, .iload_n 3, .iload_n 3, []), some (1, .iaload, .iaload, []), some (1, .iload_n 2, .iload_n 2, []), some (1, .iastore, .iastore, []), some (1, .iconst 1, .iconst 1, []), 
  some (1, .ireturn, .ireturn, [])])
def mj_Mo_lookAt : mv_J := (⟨"PlugTreeModel", "lookAt", "(IIII[Z)V"⟩, prog_8_method_17_code, 10, none, [], [], 6, 6, [
  some (1, .iload_n 2, .iload_n 2, []), some (2, .istore 6, .istore 6, []), none, some (2, .iload 6, .iload 6, []), none, some (1, .iload_n 3, .iload_n 3, []), 
  some (3, .if_icmp .ge 15, .if_icmp .ge 21, []), none, none, some (2, .aload 5, .aload 5, []), none, some (2, .iload 6, .iload 6, []), none, some (1, .iconst 0, .iconst 0, []), 
  some (1, .bastore, .bastore, []), some (3, .iinc 6 1, .iinc 6 1, []), none, none, some (3, .goto (-15), .goto 3, []), none, none, some (1, .iconst 4, .iconst 4, []), 
  some (1, .iload_n 1, .iload_n 1, []), some (1, .imul, .imul, []), some (2, .istore 6, .istore 6, []), none, some (2, .iload 6, .iload 6, []), none, some (1, .iconst 4, .iconst 4, []), 
  some (1, .iload_n 1, .iload_n 1, []), some (1, .imul, .imul, []), some (1, .iconst 4, .iconst 4, []), some (1, .iadd, .iadd, []), some (3, .if_icmp .ge 138, .if_icmp .ge 171, []), 
  none, none, some (1, .aload_n 0, .aload_n 0, []), some (3, .getfield 13, .getfield 386, [749]), none, none, some (2, .iload 6, .iload 6, []), none, some (1, .iaload, .iaload, []), 
  some (2, .istore 7, .istore 7, []), none, some (2, .iload 7, .iload 7, []), none, some (2, .iload 4, .iload 4, []), none, some (3, .if_icmp .eq 116, .if_icmp .eq 165, []), 
  none, none, some (2, .iload 7, .iload 7, []), none, some (1, .iconst (-1), .iconst (-1), []), some (3, .if_icmp .ne 6, .if_icmp .ne 61, []), none, none, 
  some (3, .goto 107, .goto 165, []), none, none, some (2, .iload 7, .iload 7, []), none, some (2, .bipush 100, .bipush 100, []), none, some (3, .if_icmp .ge 22, .if_icmp .ge 87, []), 
  none, none, some (2, .aload 5, .aload 5, []), none, some (1, .aload_n 0, .aload_n 0, []), some (3, .getfield 23, .getfield 389, [752]), none, none, some (2, .iload 7, .iload 7, []), 
  none, some (1, .iaload, .iaload, []), some (1, .aload_n 0, .aload_n 0, []), some (3, .getfield 26, .getfield 390, [753]), none, none, some (2, .iload 7, .iload 7, []), 
  none, some (1, .iaload, .iaload, []), some (3, .invokestatic 120, .invokestatic 99, [910, 911]), none, none, some (1, .iconst 0, .iconst 0, []), some (2, .istore 8, .istore 8, []), 
  none, some (2, .iload 8, .iload 8, []), none, some (1, .iconst 3, .iconst 3, []), some (3, .if_icmp .ge 72, .if_icmp .ge 165, []), none, none, some (2, .iload 7, .iload 7, []), 
  none, some (2, .bipush 100, .bipush 100, []), none, some (3, .if_icmp .lt 65, .if_icmp .lt 165, []), none, none, some (1, .aload_n 0, .aload_n 0, []), 
  some (3, .getfield 54, .getfield 401, [764]), none, none, some (1, .iconst 3, .iconst 3, []), some (2, .iload 7, .iload 7, []), none, some (2, .bipush 100, .bipush 100, []), 
  none, some (1, .isub, .isub, []), some (1, .imul, .imul, []), some (2, .iload 8, .iload 8, []), none, some (1, .iadd, .iadd, []), some (1, .iaload, .iaload, []), 
  some (2, .istore 9, .istore 9, []), none, some (2, .aload 5, .aload 5, []), none, some (2, .iload 9, .iload 9, []), none, some (3, .ifCond .ge 7, .ifCond .ge 131, []), 
  none, none, some (1, .iconst 0, .iconst 0, []), some (3, .goto 5, .goto 133, []), none, none, some (2, .iload 9, .iload 9, []), none, some (2, .iload 9, .iload 9, []), 
  none, some (3, .ifCond .ge 7, .ifCond .ge 142, []), none, none, some (1, .iconst 0, .iconst 0, []), some (3, .goto 17, .goto 156, []), none, none, some (2, .iload 9, .iload 9, []), 
  none, some (1, .aload_n 0, .aload_n 0, []), some (2, .iload 7, .iload 7, []), none, some (2, .bipush 100, .bipush 100, []), none, some (1, .isub, .isub, []), 
  some (2, .iload 8, .iload 8, []), none, some (3, .invokevirtual 124, .invokevirtual 100, [913, 915, 33]), none, none, some (1, .iadd, .iadd, []), some (3, .invokestatic 120, .invokestatic 99, [910, 911]), 
  none, none, some (3, .iinc 8 1, .iinc 8 1, []), none, none, some (3, .goto (-72), .goto 90, []), none, none, some (3, .iinc 6 1, .iinc 6 1, []), none, 
  none, some (3, .goto (-142), .goto 26, []), none, none, some (1, .return_, .return_, [])])
def mj_Mo_mark : mv_J := (⟨"PlugTreeModel", "mark", "([ZII)V"⟩, prog_8_method_16_code, 4, none, [], [], 3, 6, [
  some (1, .iload_n 1, .iload_n 1, []), some (1, .istore_n 3, .istore_n 3, []), some (1, .iload_n 3, .iload_n 3, []), some (1, .iload_n 2, .iload_n 2, []), 
  some (3, .if_icmp .ge 13, .if_icmp .ge 17, []), none, none, some (1, .aload_n 0, .aload_n 0, []), some (1, .iload_n 3, .iload_n 3, []), some (1, .iconst 1, .iconst 1, []), 
  some (1, .bastore, .bastore, []), some (3, .iinc 3 1, .iinc 3 1, []), none, none, some (3, .goto (-12), .goto 2, []), none, none, some (1, .return_, .return_, [])
  ])
def mj_Mo_sizeOf : mv_J := (⟨"PlugTreeModel", "sizeOf", "(II)I"⟩, prog_8_method_11_code, 3, some .int, [], [], 3, 6, [
  some (1, .aload_n 0, .aload_n 0, []), some (3, .getfield 32, .getfield 393, [756]), none, none, some (1, .iconst 3, .iconst 3, []), some (1, .aload_n 0, .aload_n 0, []), 
  some (3, .getfield 42, .getfield 397, [760]), none, none, some (1, .iload_n 1, .iload_n 1, []), some (1, .iaload, .iaload, []), some (1, .imul, .imul, []), 
  some (1, .iload_n 2, .iload_n 2, []), some (1, .iadd, .iadd, []), some (1, .iaload, .iaload, []), some (1, .ireturn, .ireturn, [])])
def mj_Mo_placeFor : mv_J := (⟨"PlugTreeModel", "placeFor", "(III)I"⟩, prog_8_method_18_code, 9, some .int, [], [], 4, 6, [
  some (1, .iconst (-1), .iconst (-1), []), some (2, .istore 4, .istore 4, []), none, some (3, .sipush 9999, .sipush 9999, []), none, none, some (2, .istore 5, .istore 5, []), 
  none, some (1, .iload_n 2, .iload_n 2, []), some (2, .istore 6, .istore 6, []), none, some (2, .iload 6, .iload 6, []), none, some (1, .iload_n 3, .iload_n 3, []), 
  some (3, .if_icmp .ge 85, .if_icmp .ge 99, []), none, none, some (2, .iload 6, .iload 6, []), none, some (2, .istore 7, .istore 7, []), none, some (2, .iload 7, .iload 7, []), 
  none, some (1, .iload_n 3, .iload_n 3, []), some (3, .if_icmp .ge 19, .if_icmp .ge 43, []), none, none, some (1, .aload_n 0, .aload_n 0, []), some (3, .getfield 82, .getfield 413, [776]), 
  none, none, some (2, .iload 7, .iload 7, []), none, some (1, .baload, .baload, []), some (3, .ifCond .ne 9, .ifCond .ne 43, []), none, none, some (3, .iinc 7 1, .iinc 7 1, []), 
  none, none, some (3, .goto (-19), .goto 21, []), none, none, some (2, .iload 6, .iload 6, []), none, some (2, .istore 8, .istore 8, []), none, some (2, .iload 8, .iload 8, []), 
  none, some (1, .iload_n 1, .iload_n 1, []), some (1, .irem, .irem, []), some (3, .ifCond .eq 9, .ifCond .eq 60, []), none, none, some (3, .iinc 8 1, .iinc 8 1, []), 
  none, none, some (3, .goto (-10), .goto 47, []), none, none, some (2, .iload 8, .iload 8, []), none, some (1, .iload_n 1, .iload_n 1, []), some (1, .iadd, .iadd, []), 
  some (2, .iload 7, .iload 7, []), none, some (3, .if_icmp .gt 24, .if_icmp .gt 90, []), none, none, some (2, .iload 7, .iload 7, []), none, some (2, .iload 6, .iload 6, []), 
  none, some (1, .isub, .isub, []), some (2, .iload 5, .iload 5, []), none, some (3, .if_icmp .ge 14, .if_icmp .ge 90, []), none, none, some (2, .iload 8, .iload 8, []), 
  none, some (2, .istore 4, .istore 4, []), none, some (2, .iload 7, .iload 7, []), none, some (2, .iload 6, .iload 6, []), none, some (1, .isub, .isub, []), 
  some (2, .istore 5, .istore 5, []), none, some (2, .iload 7, .iload 7, []), none, some (1, .iconst 1, .iconst 1, []), some (1, .iadd, .iadd, []), some (2, .istore 6, .istore 6, []), 
  none, some (3, .goto (-85), .goto 11, []), none, none, some (2, .iload 4, .iload 4, []), none, some (1, .ireturn, .ireturn, [])])
def mj_Mo_grows : mv_J := (⟨"PlugTreeModel", "grows", "()Z"⟩, prog_8_method_22_code, 4, some .boolean, [], [], 1, 6, [
  some (1, .aload_n 0, .aload_n 0, []), some (3, .getfield 45, .getfield 398, [761]), none, none, some (1, .aload_n 0, .aload_n 0, []), some (3, .getfield 66, .getfield 405, [768]), 
  none, none, some (1, .iaload, .iaload, []), some (1, .istore_n 1, .istore_n 1, []), some (1, .aload_n 0, .aload_n 0, []), some (3, .getfield 17, .getfield 387, [750]), 
  none, none, some (1, .iload_n 1, .iload_n 1, []), some (1, .iaload, .iaload, []), some (3, .ifCond .ge 5, .ifCond .ge 21, []), none, none, some (1, .iconst 0, .iconst 0, []), 
  some (1, .ireturn, .ireturn, []), some (1, .aload_n 0, .aload_n 0, []), some (3, .getfield 17, .getfield 387, [750]), none, none, some (1, .iload_n 1, .iload_n 1, []), 
  some (1, .iaload, .iaload, []), some (1, .istore_n 2, .istore_n 2, []), some (1, .aload_n 0, .aload_n 0, []), some (1, .iload_n 2, .iload_n 2, []), some (1, .aload_n 0, .aload_n 0, []), 
  some (3, .getfield 23, .getfield 389, [752]), none, none, some (1, .iload_n 2, .iload_n 2, []), some (1, .iaload, .iaload, []), some (1, .aload_n 0, .aload_n 0, []), 
  some (3, .getfield 26, .getfield 390, [753]), none, none, some (1, .iload_n 2, .iload_n 2, []), some (1, .iaload, .iaload, []), some (1, .iload_n 1, .iload_n 1, []), 
  some (1, .aload_n 0, .aload_n 0, []), some (3, .getfield 85, .getfield 414, [777]), none, none, some (3, .invokevirtual 128, .invokevirtual 98, [906, 908, 32]), 
  none, none, some (1, .aload_n 0, .aload_n 0, []), some (3, .getfield 26, .getfield 390, [753]), none, none, some (1, .iload_n 1, .iload_n 1, []), some (1, .iaload, .iaload, []), 
  some (1, .aload_n 0, .aload_n 0, []), some (3, .getfield 23, .getfield 389, [752]), none, none, some (1, .iload_n 1, .iload_n 1, []), some (1, .iaload, .iaload, []), 
  some (3, .if_icmp .le 20, .if_icmp .le 82, []), none, none, some (1, .aload_n 0, .aload_n 0, []), some (1, .aload_n 0, .aload_n 0, []), some (3, .getfield 23, .getfield 389, [752]), 
  none, none, some (1, .iload_n 1, .iload_n 1, []), some (1, .iaload, .iaload, []), some (1, .aload_n 0, .aload_n 0, []), some (3, .getfield 26, .getfield 390, [753]), 
  none, none, some (1, .iload_n 1, .iload_n 1, []), some (1, .iaload, .iaload, []), some (3, .invokevirtual 142, .invokevirtual 103, [925, 927, 36]), none, 
  none, some (1, .ireturn, .ireturn, []), some (1, .aload_n 0, .aload_n 0, []), some (3, .getfield 23, .getfield 389, [752]), none, none, some (1, .iload_n 2, .iload_n 2, []), 
  some (1, .iaload, .iaload, []), some (1, .istore_n 3, .istore_n 3, []), some (1, .iload_n 3, .iload_n 3, []), some (1, .aload_n 0, .aload_n 0, []), some (3, .getfield 26, .getfield 390, [753]), 
  none, none, some (1, .iload_n 2, .iload_n 2, []), some (1, .iaload, .iaload, []), some (3, .if_icmp .ge 22, .if_icmp .ge 118, []), none, none, some (1, .aload_n 0, .aload_n 0, []), 
  some (1, .iload_n 3, .iload_n 3, []), some (1, .iload_n 3, .iload_n 3, []), some (3, .invokevirtual 142, .invokevirtual 103, [925, 927, 36]), none, none, 
  some (3, .ifCond .eq 5, .ifCond .eq 110, []), none, none, some (1, .iconst 1, .iconst 1, []), some (1, .ireturn, .ireturn, []), some (1, .iload_n 3, .iload_n 3, []), 
  some (2, .bipush 64, .bipush 64, []), none, some (1, .iadd, .iadd, []), some (1, .istore_n 3, .istore_n 3, []), some (3, .goto (-26), .goto 89, []), 
  none, none, some (1, .iconst 0, .iconst 0, []), some (1, .ireturn, .ireturn, [])])
def mj_Mo_growsFrom : mv_J := (⟨"PlugTreeModel", "growsFrom", "(II)Z"⟩, prog_8_method_21_code, 4, some .boolean, [], [], 3, 6, [
  some (1, .iload_n 2, .iload_n 2, []), some (1, .istore_n 3, .istore_n 3, []), some (1, .aload_n 0, .aload_n 0, []), some (1, .iload_n 3, .iload_n 3, []), 
  some (1, .iload_n 3, .iload_n 3, []), some (2, .bipush 64, .bipush 64, []), none, some (1, .iadd, .iadd, []), some (1, .aload_n 0, .aload_n 0, []), some (3, .getfield 26, .getfield 390, [753]), 
  none, none, some (1, .aload_n 0, .aload_n 0, []), some (3, .getfield 17, .getfield 387, [750]), none, none, some (1, .aload_n 0, .aload_n 0, []), some (3, .getfield 45, .getfield 398, [761]), 
  none, none, some (1, .aload_n 0, .aload_n 0, []), some (3, .getfield 66, .getfield 405, [768]), none, none, some (1, .iaload, .iaload, []), some (1, .iaload, .iaload, []), 
  some (1, .iaload, .iaload, []), some (3, .invokevirtual 136, .invokevirtual 104, [929, 931, 37]), none, none, some (3, .ifCond .eq 19, .ifCond .eq 49, []), 
  none, none, some (1, .iload_n 3, .iload_n 3, []), some (2, .bipush 64, .bipush 64, []), none, some (1, .iadd, .iadd, []), some (1, .istore_n 3, .istore_n 3, []), 
  some (1, .aload_n 0, .aload_n 0, []), some (1, .iload_n 1, .iload_n 1, []), some (1, .iload_n 3, .iload_n 3, []), some (3, .invokevirtual 139, .invokevirtual 97, [902, 904, 31]), 
  none, none, some (3, .ifCond .eq (-42), .ifCond .eq 2, []), none, none, some (1, .iconst 1, .iconst 1, []), some (1, .ireturn, .ireturn, []), some (1, .iconst 0, .iconst 0, []), 
  some (1, .ireturn, .ireturn, [])])
def mj_Mo_isFree : mv_J := (⟨"PlugTreeModel", "isFree", "(III)Z"⟩, prog_8_method_20_code, 6, some .boolean, [], [], 4, 6, [
  some (1, .iload_n 2, .iload_n 2, []), some (1, .iload_n 3, .iload_n 3, []), some (3, .if_icmp .gt 7, .if_icmp .gt 9, []), none, none, some (1, .iconst 1, .iconst 1, []), 
  some (3, .goto 4, .goto 10, []), none, none, some (1, .iconst 0, .iconst 0, []), some (2, .istore 4, .istore 4, []), none, some (1, .iload_n 1, .iload_n 1, []), 
  some (2, .istore 5, .istore 5, []), none, some (2, .iload 5, .iload 5, []), none, some (1, .iload_n 2, .iload_n 2, []), some (3, .if_icmp .ge 31, .if_icmp .ge 49, []), 
  none, none, some (2, .iload 4, .iload 4, []), none, some (3, .ifCond .eq 26, .ifCond .eq 49, []), none, none, some (1, .aload_n 0, .aload_n 0, []), some (3, .getfield 85, .getfield 414, [777]), 
  none, none, some (2, .iload 5, .iload 5, []), none, some (1, .baload, .baload, []), some (3, .ifCond .ne 7, .ifCond .ne 40, []), none, none, some (1, .iconst 1, .iconst 1, []), 
  some (3, .goto 4, .goto 41, []), none, none, some (1, .iconst 0, .iconst 0, []), some (2, .istore 4, .istore 4, []), none, some (3, .iinc 5 1, .iinc 5 1, []), 
  none, none, some (3, .goto (-31), .goto 15, []), none, none, some (2, .iload 4, .iload 4, []), none, some (1, .ireturn, .ireturn, [])])
def mj_Mo_measure : mv_J := (⟨"PlugTreeModel", "measure", "()V"⟩, prog_8_method_24_code, 3, none, [], [], 1, 6, [
  some (1, .aload_n 0, .aload_n 0, []), some (3, .getfield 7, .getfield 385, [748]), none, none, some (1, .iconst 1, .iconst 1, []), some (1, .isub, .isub, []), 
  some (1, .istore_n 1, .istore_n 1, []), some (1, .iload_n 1, .iload_n 1, []), some (3, .ifCond .lt 58, .ifCond .lt 66, []), none, none, some (1, .aload_n 0, .aload_n 0, []), 
  some (1, .iload_n 1, .iload_n 1, []), some (3, .invokevirtual 145, .invokevirtual 106, [937, 939, 39]), none, none, some (1, .istore_n 2, .istore_n 2, []), 
  some (1, .aload_n 0, .aload_n 0, []), some (3, .getfield 29, .getfield 391, [754]), none, none, some (1, .iload_n 1, .iload_n 1, []), some (1, .iload_n 2, .iload_n 2, []), 
  some (3, .ifCond .ne 7, .ifCond .ne 30, []), none, none, some (1, .iconst 0, .iconst 0, []), some (3, .goto 5, .goto 32, []), none, none, some (2, .bipush 64, .bipush 64, []), 
  none, some (1, .iastore, .iastore, []), some (1, .aload_n 0, .aload_n 0, []), some (3, .getfield 29, .getfield 391, [754]), none, none, some (1, .iload_n 1, .iload_n 1, []), 
  some (1, .iaload, .iaload, []), some (1, .iload_n 2, .iload_n 2, []), some (3, .if_icmp .ge 20, .if_icmp .ge 60, []), none, none, some (1, .aload_n 0, .aload_n 0, []), 
  some (3, .getfield 29, .getfield 391, [754]), none, none, some (1, .iload_n 1, .iload_n 1, []), some (1, .iconst 2, .iconst 2, []), some (1, .aload_n 0, .aload_n 0, []), 
  some (3, .getfield 29, .getfield 391, [754]), none, none, some (1, .iload_n 1, .iload_n 1, []), some (1, .iaload, .iaload, []), some (1, .imul, .imul, []), 
  some (1, .iastore, .iastore, []), some (3, .goto (-24), .goto 33, []), none, none, some (3, .iinc 1 (-1), .iinc 1 (-1), []), none, none, some (3, .goto (-56), .goto 7, []), 
  none, none, some (1, .return_, .return_, [])])
def mj_Mo_laidBy : mv_J := (⟨"PlugTreeModel", "laidBy", "(I)I"⟩, prog_8_method_23_code, 6, some .int, [], [], 2, 6, [
  some (1, .iconst 0, .iconst 0, []), some (1, .istore_n 2, .istore_n 2, []), some (1, .iconst 4, .iconst 4, []), some (1, .iload_n 1, .iload_n 1, []), 
  some (1, .imul, .imul, []), some (1, .istore_n 3, .istore_n 3, []), some (1, .iload_n 3, .iload_n 3, []), some (1, .iconst 4, .iconst 4, []), some (1, .iload_n 1, .iload_n 1, []), 
  some (1, .imul, .imul, []), some (1, .iconst 4, .iconst 4, []), some (1, .iadd, .iadd, []), some (3, .if_icmp .ge 79, .if_icmp .ge 91, []), none, none, 
  some (1, .aload_n 0, .aload_n 0, []), some (3, .getfield 13, .getfield 386, [749]), none, none, some (1, .iload_n 3, .iload_n 3, []), some (1, .iaload, .iaload, []), 
  some (2, .istore 4, .istore 4, []), none, some (1, .iconst 0, .iconst 0, []), some (2, .istore 5, .istore 5, []), none, some (2, .iload 5, .iload 5, []), 
  none, some (1, .iconst 3, .iconst 3, []), some (3, .if_icmp .ge 30, .if_icmp .ge 59, []), none, none, some (2, .iload 4, .iload 4, []), none, some (2, .bipush 100, .bipush 100, []), 
  none, some (3, .if_icmp .lt 23, .if_icmp .lt 59, []), none, none, some (1, .iload_n 2, .iload_n 2, []), some (1, .aload_n 0, .aload_n 0, []), some (2, .iload 4, .iload 4, []), 
  none, some (2, .bipush 100, .bipush 100, []), none, some (1, .isub, .isub, []), some (2, .iload 5, .iload 5, []), none, some (3, .invokevirtual 124, .invokevirtual 100, [913, 915, 33]), 
  none, none, some (1, .iadd, .iadd, []), some (1, .istore_n 2, .istore_n 2, []), some (3, .iinc 5 1, .iinc 5 1, []), none, none, some (3, .goto (-30), .goto 26, []), 
  none, none, some (2, .iload 4, .iload 4, []), none, some (3, .ifCond .lt 22, .ifCond .lt 83, []), none, none, some (2, .iload 4, .iload 4, []), none, 
  some (2, .bipush 100, .bipush 100, []), none, some (3, .if_icmp .ge 15, .if_icmp .ge 83, []), none, none, some (1, .iload_n 2, .iload_n 2, []), some (1, .aload_n 0, .aload_n 0, []), 
  some (3, .getfield 29, .getfield 391, [754]), none, none, some (2, .iload 4, .iload 4, []), none, some (1, .iaload, .iaload, []), some (1, .iadd, .iadd, []), 
  some (3, .goto 4, .goto 84, []), none, none, some (1, .iload_n 2, .iload_n 2, []), some (1, .istore_n 2, .istore_n 2, []), some (3, .iinc 3 1, .iinc 3 1, []), 
  none, none, some (3, .goto (-82), .goto 6, []), none, none, some (1, .iload_n 2, .iload_n 2, []), some (1, .ireturn, .ireturn, [])])
def mj_Mo_change : mv_J := (⟨"PlugTreeModel", "change", "(II)V"⟩, prog_8_method_13_code, 4, none, [], [], 3, 6, [
  some (1, .iconst 0, .iconst 0, []), some (1, .istore_n 3, .istore_n 3, []), some (1, .iload_n 3, .iload_n 3, []), some (1, .aload_n 0, .aload_n 0, []), 
  some (3, .getfield 91, .getfield 396, [759]), none, none, some (3, .if_icmp .ge 35, .if_icmp .ge 42, []), none, none, some (1, .aload_n 0, .aload_n 0, []), 
  some (3, .getfield 48, .getfield 399, [762]), none, none, some (1, .iload_n 3, .iload_n 3, []), some (1, .aload_n 0, .aload_n 0, []), some (3, .getfield 48, .getfield 399, [762]), 
  none, none, some (1, .iload_n 3, .iload_n 3, []), some (1, .iaload, .iaload, []), some (1, .iload_n 1, .iload_n 1, []), some (3, .if_icmp .ne 7, .if_icmp .ne 29, []), 
  none, none, some (1, .iload_n 2, .iload_n 2, []), some (3, .goto 9, .goto 35, []), none, none, some (1, .aload_n 0, .aload_n 0, []), some (3, .getfield 48, .getfield 399, [762]), 
  none, none, some (1, .iload_n 3, .iload_n 3, []), some (1, .iaload, .iaload, []), some (1, .iastore, .iastore, []), some (3, .iinc 3 1, .iinc 3 1, []), 
  none, none, some (3, .goto (-37), .goto 2, []), none, none, some (1, .return_, .return_, [])])
def mj_Mo_moveAll : mv_J := (⟨"PlugTreeModel", "moveAll", "()V"⟩, prog_8_method_26_code, 3, none, [], [], 1, 6, [
  some (1, .aload_n 0, .aload_n 0, []), some (3, .invokevirtual 151, .invokevirtual 109, [949, 951, 42]), none, none, some (1, .aload_n 0, .aload_n 0, []), 
  some (1, .iconst 0, .iconst 0, []), some (3, .putfield 154, .putfield 407, [770]), none, none, some (1, .iconst 0, .iconst 0, []), some (1, .istore_n 1, .istore_n 1, []), 
  some (1, .iload_n 1, .iload_n 1, []), some (1, .aload_n 0, .aload_n 0, []), some (3, .getfield 91, .getfield 396, [759]), none, none, some (3, .if_icmp .ge 115, .if_icmp .ge 131, []), 
  none, none, some (1, .iconst 0, .iconst 0, []), some (1, .istore_n 2, .istore_n 2, []), some (1, .iload_n 2, .iload_n 2, []), some (1, .iconst 3, .iconst 3, []), 
  some (3, .if_icmp .ge 102, .if_icmp .ge 125, []), none, none, some (1, .aload_n 0, .aload_n 0, []), some (1, .iload_n 1, .iload_n 1, []), some (3, .invokevirtual 113, .invokevirtual 94, [890, 892, 28]), 
  none, none, some (3, .ifCond .ne 11, .ifCond .ne 42, []), none, none, some (1, .iload_n 1, .iload_n 1, []), some (1, .aload_n 0, .aload_n 0, []), some (3, .getfield 66, .getfield 405, [768]), 
  none, none, some (3, .if_icmp .ne 86, .if_icmp .ne 125, []), none, none, some (1, .aload_n 0, .aload_n 0, []), some (1, .iload_n 1, .iload_n 1, []), 
  some (1, .iload_n 2, .iload_n 2, []), some (3, .invokevirtual 124, .invokevirtual 100, [913, 915, 33]), none, none, some (3, .ifCond .le 71, .ifCond .le 119, []), 
  none, none, some (1, .aload_n 0, .aload_n 0, []), some (1, .iload_n 1, .iload_n 1, []), some (1, .aload_n 0, .aload_n 0, []), some (3, .getfield 66, .getfield 405, [768]), 
  none, none, some (3, .if_icmp .eq 35, .if_icmp .eq 92, []), none, none, some (1, .aload_n 0, .aload_n 0, []), some (3, .getfield 54, .getfield 401, [764]), 
  none, none, some (1, .iconst 3, .iconst 3, []), some (1, .iload_n 1, .iload_n 1, []), some (1, .imul, .imul, []), some (1, .iload_n 2, .iload_n 2, []), 
  some (1, .iadd, .iadd, []), some (1, .iaload, .iaload, []), some (1, .aload_n 0, .aload_n 0, []), some (3, .getfield 57, .getfield 402, [765]), none, 
  none, some (1, .iconst 3, .iconst 3, []), some (1, .iload_n 1, .iload_n 1, []), some (1, .imul, .imul, []), some (1, .iload_n 2, .iload_n 2, []), some (1, .iadd, .iadd, []), 
  some (1, .iaload, .iaload, []), some (3, .if_icmp .eq 12, .if_icmp .eq 92, []), none, none, some (1, .aload_n 0, .aload_n 0, []), some (3, .getfield 154, .getfield 407, [770]), 
  none, none, some (1, .iconst 1, .iconst 1, []), some (1, .iadd, .iadd, []), some (3, .goto 7, .goto 96, []), none, none, some (1, .aload_n 0, .aload_n 0, []), 
  some (3, .getfield 154, .getfield 407, [770]), none, none, some (3, .putfield 154, .putfield 407, [770]), none, none, some (1, .aload_n 0, .aload_n 0, []), 
  some (3, .getfield 54, .getfield 401, [764]), none, none, some (1, .iconst 3, .iconst 3, []), some (1, .iload_n 1, .iload_n 1, []), some (1, .imul, .imul, []), 
  some (1, .iload_n 2, .iload_n 2, []), some (1, .iadd, .iadd, []), some (1, .aload_n 0, .aload_n 0, []), some (3, .getfield 57, .getfield 402, [765]), 
  none, none, some (1, .iconst 3, .iconst 3, []), some (1, .iload_n 1, .iload_n 1, []), some (1, .imul, .imul, []), some (1, .iload_n 2, .iload_n 2, []), 
  some (1, .iadd, .iadd, []), some (1, .iaload, .iaload, []), some (1, .iastore, .iastore, []), some (3, .iinc 2 1, .iinc 2 1, []), none, none, some (3, .goto (-101), .goto 21, []), 
  none, none, some (3, .iinc 1 1, .iinc 1 1, []), none, none, some (3, .goto (-117), .goto 11, []), none, none, some (1, .aload_n 0, .aload_n 0, []), some (1, .iconst 2, .iconst 2, []), 
  some (1, .iconst 1, .iconst 1, []), some (3, .invokevirtual 157, .invokevirtual 107, [941, 943, 40]), none, none, some (1, .aload_n 0, .aload_n 0, []), 
  some (3, .getfield 48, .getfield 399, [762]), none, none, some (1, .aload_n 0, .aload_n 0, []), some (3, .getfield 66, .getfield 405, [768]), none, none, 
  some (1, .iconst 1, .iconst 1, []), some (1, .iastore, .iastore, []), some (1, .aload_n 0, .aload_n 0, []), some (1, .iconst (-1), .iconst (-1), []), 
  some (3, .putfield 66, .putfield 405, [768]), none, none, some (1, .return_, .return_, [])])
def mj_Mo_plan : mv_J := (⟨"PlugTreeModel", "plan", "()V"⟩, prog_8_method_25_code, 7, none, [], [], 1, 6, [
  some (1, .aload_n 0, .aload_n 0, []), some (3, .invokevirtual 148, .invokevirtual 105, [933, 935, 38]), none, none, some (1, .iconst 0, .iconst 0, []), 
  some (1, .istore_n 1, .istore_n 1, []), some (1, .iload_n 1, .iload_n 1, []), some (1, .aload_n 0, .aload_n 0, []), some (3, .getfield 7, .getfield 385, [748]), 
  none, none, some (3, .if_icmp .ge 224, .if_icmp .ge 235, []), none, none, some (1, .aload_n 0, .aload_n 0, []), some (3, .getfield 23, .getfield 389, [752]), 
  none, none, some (1, .iload_n 1, .iload_n 1, []), some (1, .iload_n 1, .iload_n 1, []), some (3, .ifCond .le 16, .ifCond .le 36, []), none, none, some (1, .aload_n 0, .aload_n 0, []), 
  some (3, .getfield 29, .getfield 391, [754]), none, none, some (1, .iload_n 1, .iload_n 1, []), some (1, .iaload, .iaload, []), some (3, .ifCond .ne 7, .ifCond .ne 36, []), 
  none, none, some (1, .iconst 0, .iconst 0, []), some (3, .goto 9, .goto 42, []), none, none, some (1, .aload_n 0, .aload_n 0, []), some (3, .getfield 23, .getfield 389, [752]), 
  none, none, some (1, .iload_n 1, .iload_n 1, []), some (1, .iaload, .iaload, []), some (1, .iastore, .iastore, []), some (1, .aload_n 0, .aload_n 0, []), 
  some (3, .getfield 26, .getfield 390, [753]), none, none, some (1, .iload_n 1, .iload_n 1, []), some (1, .iload_n 1, .iload_n 1, []), some (3, .ifCond .ne 9, .ifCond .ne 58, []), 
  none, none, some (3, .sipush 4096, .sipush 4096, []), none, none, some (3, .goto 29, .goto 84, []), none, none, some (1, .aload_n 0, .aload_n 0, []), 
  some (3, .getfield 29, .getfield 391, [754]), none, none, some (1, .iload_n 1, .iload_n 1, []), some (1, .iaload, .iaload, []), some (3, .ifCond .ne 7, .ifCond .ne 71, []), 
  none, none, some (1, .iconst 0, .iconst 0, []), some (3, .goto 16, .goto 84, []), none, none, some (1, .aload_n 0, .aload_n 0, []), some (3, .getfield 23, .getfield 389, [752]), 
  none, none, some (1, .iload_n 1, .iload_n 1, []), some (1, .iaload, .iaload, []), some (1, .aload_n 0, .aload_n 0, []), some (3, .getfield 29, .getfield 391, [754]), 
  none, none, some (1, .iload_n 1, .iload_n 1, []), some (1, .iaload, .iaload, []), some (1, .iadd, .iadd, []), some (1, .iastore, .iastore, []), some (1, .aload_n 0, .aload_n 0, []), 
  some (3, .getfield 23, .getfield 389, [752]), none, none, some (1, .iload_n 1, .iload_n 1, []), some (1, .iaload, .iaload, []), some (1, .istore_n 2, .istore_n 2, []), 
  some (3, .sipush 4096, .sipush 4096, []), none, none, some (1, .istore_n 3, .istore_n 3, []), some (1, .iload_n 3, .iload_n 3, []), some (3, .ifCond .le 132, .ifCond .le 229, []), 
  none, none, some (1, .iconst 4, .iconst 4, []), some (1, .iload_n 1, .iload_n 1, []), some (1, .imul, .imul, []), some (2, .istore 4, .istore 4, []), 
  none, some (2, .iload 4, .iload 4, []), none, some (1, .iconst 4, .iconst 4, []), some (1, .iload_n 1, .iload_n 1, []), some (1, .imul, .imul, []), some (1, .iconst 4, .iconst 4, []), 
  some (1, .iadd, .iadd, []), some (3, .if_icmp .ge 110, .if_icmp .ge 222, []), none, none, some (1, .aload_n 0, .aload_n 0, []), some (3, .getfield 13, .getfield 386, [749]), 
  none, none, some (2, .iload 4, .iload 4, []), none, some (1, .iaload, .iaload, []), some (2, .istore 5, .istore 5, []), none, some (1, .iconst 0, .iconst 0, []), 
  some (2, .istore 6, .istore 6, []), none, some (2, .iload 6, .iload 6, []), none, some (1, .iconst 3, .iconst 3, []), some (3, .if_icmp .ge 51, .if_icmp .ge 181, []), 
  none, none, some (2, .iload 5, .iload 5, []), none, some (2, .bipush 100, .bipush 100, []), none, some (3, .if_icmp .lt 44, .if_icmp .lt 181, []), none, 
  none, some (1, .aload_n 0, .aload_n 0, []), some (2, .iload 5, .iload 5, []), none, some (2, .bipush 100, .bipush 100, []), none, some (1, .isub, .isub, []), 
  some (2, .iload 6, .iload 6, []), none, some (3, .invokevirtual 124, .invokevirtual 100, [913, 915, 33]), none, none, some (1, .iload_n 3, .iload_n 3, []), 
  some (3, .if_icmp .ne 23, .if_icmp .ne 175, []), none, none, some (1, .aload_n 0, .aload_n 0, []), some (3, .getfield 57, .getfield 402, [765]), none, 
  none, some (1, .iconst 3, .iconst 3, []), some (2, .iload 5, .iload 5, []), none, some (2, .bipush 100, .bipush 100, []), none, some (1, .isub, .isub, []), 
  some (1, .imul, .imul, []), some (2, .iload 6, .iload 6, []), none, some (1, .iadd, .iadd, []), some (1, .iload_n 2, .iload_n 2, []), some (1, .iastore, .iastore, []), 
  some (1, .iload_n 2, .iload_n 2, []), some (1, .iload_n 3, .iload_n 3, []), some (1, .iadd, .iadd, []), some (1, .istore_n 2, .istore_n 2, []), some (3, .iinc 6 1, .iinc 6 1, []), 
  none, none, some (3, .goto (-51), .goto 127, []), none, none, some (2, .iload 5, .iload 5, []), none, some (3, .ifCond .lt 33, .ifCond .lt 216, []), 
  none, none, some (2, .iload 5, .iload 5, []), none, some (2, .bipush 100, .bipush 100, []), none, some (3, .if_icmp .ge 26, .if_icmp .ge 216, []), none, 
  none, some (1, .aload_n 0, .aload_n 0, []), some (3, .getfield 29, .getfield 391, [754]), none, none, some (2, .iload 5, .iload 5, []), none, some (1, .iaload, .iaload, []), 
  some (1, .iload_n 3, .iload_n 3, []), some (3, .if_icmp .ne 15, .if_icmp .ne 216, []), none, none, some (1, .aload_n 0, .aload_n 0, []), some (3, .getfield 23, .getfield 389, [752]), 
  none, none, some (2, .iload 5, .iload 5, []), none, some (1, .iload_n 2, .iload_n 2, []), some (1, .iastore, .iastore, []), some (1, .iload_n 2, .iload_n 2, []), 
  some (1, .iload_n 3, .iload_n 3, []), some (1, .iadd, .iadd, []), some (1, .istore_n 2, .istore_n 2, []), some (3, .iinc 4 1, .iinc 4 1, []), none, none, 
  some (3, .goto (-114), .goto 105, []), none, none, some (1, .iload_n 3, .iload_n 3, []), some (1, .iconst 2, .iconst 2, []), some (1, .idiv, .idiv, []), 
  some (1, .istore_n 3, .istore_n 3, []), some (3, .goto (-130), .goto 96, []), none, none, some (3, .iinc 1 1, .iinc 1 1, []), none, none, some (3, .goto (-226), .goto 6, []), 
  none, none, some (1, .return_, .return_, [])])
def mj_Mo_settle : mv_J := (⟨"PlugTreeModel", "settle", "()I"⟩, prog_8_method_31_code, 2, some .int, [], [], 1, 6, [
  some (1, .aload_n 0, .aload_n 0, []), some (1, .iconst 0, .iconst 0, []), some (3, .putfield 88, .putfield 384, [747]), none, none, some (1, .iconst 0, .iconst 0, []), 
  some (1, .istore_n 1, .istore_n 1, []), some (1, .aload_n 0, .aload_n 0, []), some (3, .invokevirtual 181, .invokevirtual 90, [874, 876, 24]), none, 
  none, some (3, .ifCond .eq 9, .ifCond .eq 20, []), none, none, some (3, .iinc 1 1, .iinc 1 1, []), none, none, some (3, .goto (-10), .goto 7, []), none, 
  none, some (1, .iload_n 1, .iload_n 1, []), some (1, .ireturn, .ireturn, [])])
def mj_Mo_pull : mv_J := (⟨"PlugTreeModel", "pull", "(I)I"⟩, prog_8_method_35_code, 2, some .int, [], [], 2, 6, [
  some (1, .aload_n 0, .aload_n 0, []), some (1, .aload_n 0, .aload_n 0, []), some (1, .iload_n 1, .iload_n 1, []), some (3, .invokevirtual 191, .invokevirtual 112, [961, 963, 43]), 
  none, none, some (3, .ifCond .ne 7, .ifCond .ne 13, []), none, none, some (1, .iconst 1, .iconst 1, []), some (3, .goto 28, .goto 38, []), none, none, 
  some (1, .aload_n 0, .aload_n 0, []), some (3, .getfield 48, .getfield 399, [762]), none, none, some (1, .iload_n 1, .iload_n 1, []), some (1, .iaload, .iaload, []), 
  some (1, .iconst 4, .iconst 4, []), some (3, .if_icmp .eq 13, .if_icmp .eq 33, []), none, none, some (1, .aload_n 0, .aload_n 0, []), some (3, .getfield 48, .getfield 399, [762]), 
  none, none, some (1, .iload_n 1, .iload_n 1, []), some (1, .iaload, .iaload, []), some (1, .iconst 5, .iconst 5, []), some (3, .if_icmp .ne 7, .if_icmp .ne 37, []), 
  none, none, some (1, .iconst 2, .iconst 2, []), some (3, .goto 4, .goto 38, []), none, none, some (1, .iconst 0, .iconst 0, []), some (3, .putfield 88, .putfield 384, [747]), 
  none, none, some (1, .aload_n 0, .aload_n 0, []), some (3, .getfield 88, .getfield 384, [747]), none, none, some (3, .ifCond .le 5, .ifCond .le 50, []), 
  none, none, some (1, .iconst 0, .iconst 0, []), some (1, .ireturn, .ireturn, []), some (1, .iload_n 1, .iload_n 1, []), some (1, .aload_n 0, .aload_n 0, []), 
  some (3, .getfield 66, .getfield 405, [768]), none, none, some (3, .if_icmp .ne 16, .if_icmp .ne 71, []), none, none, some (1, .aload_n 0, .aload_n 0, []), 
  some (3, .getfield 109, .getfield 406, [769]), none, none, some (3, .ifCond .eq 9, .ifCond .eq 71, []), none, none, some (1, .aload_n 0, .aload_n 0, []), 
  some (1, .iconst 2, .iconst 2, []), some (1, .iconst 1, .iconst 1, []), some (3, .invokevirtual 157, .invokevirtual 107, [941, 943, 40]), none, none, 
  some (1, .aload_n 0, .aload_n 0, []), some (1, .iload_n 1, .iload_n 1, []), some (1, .iconst 4, .iconst 4, []), some (3, .invokevirtual 161, .invokevirtual 91, [878, 880, 25]), 
  none, none, some (1, .aload_n 0, .aload_n 0, []), some (1, .iload_n 1, .iload_n 1, []), some (1, .iconst (-1), .iconst (-1), []), some (3, .invokevirtual 194, .invokevirtual 113, [965, 967, 44]), 
  none, none, some (1, .ireturn, .ireturn, [])])
def mj_Mo_isCard : mv_J := (⟨"PlugTreeModel", "isCard", "(I)Z"⟩, prog_8_method_5_code, 2, some .boolean, [], [], 2, 6, [
  some (1, .iload_n 1, .iload_n 1, []), some (3, .ifCond .lt 15, .ifCond .lt 16, []), none, none, some (1, .iload_n 1, .iload_n 1, []), some (1, .aload_n 0, .aload_n 0, []), 
  some (3, .getfield 91, .getfield 396, [759]), none, none, some (3, .if_icmp .ge 7, .if_icmp .ge 16, []), none, none, some (1, .iconst 1, .iconst 1, []), 
  some (3, .goto 4, .goto 17, []), none, none, some (1, .iconst 0, .iconst 0, []), some (1, .ireturn, .ireturn, [])])
def mj_Mo_lose : mv_J := (⟨"PlugTreeModel", "lose", "(II)I"⟩, prog_8_method_34_code, 5, some .int, [], [], 3, 6, [
  some (1, .iconst 0, .iconst 0, []), some (1, .istore_n 3, .istore_n 3, []), some (1, .iconst 0, .iconst 0, []), some (2, .istore 4, .istore 4, []), none, 
  some (2, .iload 4, .iload 4, []), none, some (1, .aload_n 0, .aload_n 0, []), some (3, .getfield 184, .getfield 408, [771]), none, none, some (3, .if_icmp .ge 53, .if_icmp .ge 64, []), 
  none, none, some (1, .aload_n 0, .aload_n 0, []), some (3, .getfield 69, .getfield 409, [772]), none, none, some (2, .iload 4, .iload 4, []), none, some (1, .iaload, .iaload, []), 
  some (1, .iload_n 1, .iload_n 1, []), some (3, .if_icmp .ne 36, .if_icmp .ne 58, []), none, none, some (1, .aload_n 0, .aload_n 0, []), some (3, .getfield 78, .getfield 412, [775]), 
  none, none, some (2, .iload 4, .iload 4, []), none, some (1, .laload, .laload, []), some (3, .ldc2_w 187, .ldc2_w 1099511627776, [969]), none, none, 
  some (1, .lcmp, .lcmp, []), some (3, .ifCond .ne 22, .ifCond .ne 58, []), none, none, some (2, .iload 4, .iload 4, []), none, some (1, .iload_n 2, .iload_n 2, []), 
  some (3, .if_icmp .eq 16, .if_icmp .eq 58, []), none, none, some (1, .aload_n 0, .aload_n 0, []), some (3, .getfield 78, .getfield 412, [775]), none, 
  none, some (2, .iload 4, .iload 4, []), none, some (3, .ldc2_w 189, .ldc2_w 2199023255552, [970]), none, none, some (1, .lastore, .lastore, []), some (3, .iinc 3 1, .iinc 3 1, []), 
  none, none, some (3, .iinc 4 1, .iinc 4 1, []), none, none, some (3, .goto (-56), .goto 5, []), none, none, some (1, .iload_n 3, .iload_n 3, []), some (1, .ireturn, .ireturn, [])
  ])
def mj_Mo_leave : mv_J := (⟨"PlugTreeModel", "leave", "(I)I"⟩, prog_8_method_36_code, 2, some .int, [], [], 2, 6, [
  some (1, .aload_n 0, .aload_n 0, []), some (1, .aload_n 0, .aload_n 0, []), some (1, .iload_n 1, .iload_n 1, []), some (3, .invokevirtual 191, .invokevirtual 112, [961, 963, 43]), 
  none, none, some (3, .ifCond .ne 7, .ifCond .ne 13, []), none, none, some (1, .iconst 1, .iconst 1, []), some (3, .goto 18, .goto 28, []), none, none, 
  some (1, .aload_n 0, .aload_n 0, []), some (3, .getfield 48, .getfield 399, [762]), none, none, some (1, .iload_n 1, .iload_n 1, []), some (1, .iaload, .iaload, []), 
  some (1, .iconst 1, .iconst 1, []), some (3, .if_icmp .eq 7, .if_icmp .eq 27, []), none, none, some (1, .iconst 2, .iconst 2, []), some (3, .goto 4, .goto 28, []), 
  none, none, some (1, .iconst 0, .iconst 0, []), some (3, .putfield 88, .putfield 384, [747]), none, none, some (1, .aload_n 0, .aload_n 0, []), some (3, .getfield 88, .getfield 384, [747]), 
  none, none, some (3, .ifCond .le 5, .ifCond .le 40, []), none, none, some (1, .iconst 0, .iconst 0, []), some (1, .ireturn, .ireturn, []), some (1, .aload_n 0, .aload_n 0, []), 
  some (3, .getfield 48, .getfield 399, [762]), none, none, some (1, .iload_n 1, .iload_n 1, []), some (1, .iconst 3, .iconst 3, []), some (1, .iastore, .iastore, []), 
  some (1, .aload_n 0, .aload_n 0, []), some (1, .iload_n 1, .iload_n 1, []), some (1, .aload_n 0, .aload_n 0, []), some (3, .getfield 60, .getfield 403, [766]), 
  none, none, some (1, .iload_n 1, .iload_n 1, []), some (1, .iaload, .iaload, []), some (3, .ifCond .le 11, .ifCond .le 66, []), none, none, some (1, .aload_n 0, .aload_n 0, []), 
  some (1, .iload_n 1, .iload_n 1, []), some (3, .invokevirtual 197, .invokevirtual 115, [975, 977, 45]), none, none, some (3, .goto 4, .goto 67, []), 
  none, none, some (1, .iconst (-1), .iconst (-1), []), some (3, .invokevirtual 194, .invokevirtual 113, [965, 967, 44]), none, none, some (1, .ireturn, .ireturn, [])
  ])
def mj_Mo_firstOf : mv_J := (⟨"PlugTreeModel", "firstOf", "(I)I"⟩, prog_8_method_33_code, 4, some .int, [], [], 2, 6, [
  some (1, .iconst (-1), .iconst (-1), []), some (1, .istore_n 2, .istore_n 2, []), some (1, .aload_n 0, .aload_n 0, []), some (3, .getfield 184, .getfield 408, [771]), 
  none, none, some (1, .iconst 1, .iconst 1, []), some (1, .isub, .isub, []), some (1, .istore_n 3, .istore_n 3, []), some (1, .iload_n 3, .iload_n 3, []), 
  some (3, .ifCond .lt 38, .ifCond .lt 48, []), none, none, some (1, .aload_n 0, .aload_n 0, []), some (3, .getfield 69, .getfield 409, [772]), none, none, 
  some (1, .iload_n 3, .iload_n 3, []), some (1, .iaload, .iaload, []), some (1, .iload_n 1, .iload_n 1, []), some (3, .if_icmp .ne 20, .if_icmp .ne 40, []), 
  none, none, some (1, .aload_n 0, .aload_n 0, []), some (3, .getfield 78, .getfield 412, [775]), none, none, some (1, .iload_n 3, .iload_n 3, []), some (1, .laload, .laload, []), 
  some (3, .ldc2_w 187, .ldc2_w 1099511627776, [969]), none, none, some (1, .lcmp, .lcmp, []), some (3, .ifCond .ne 7, .ifCond .ne 40, []), none, none, 
  some (1, .iload_n 3, .iload_n 3, []), some (3, .goto 4, .goto 41, []), none, none, some (1, .iload_n 2, .iload_n 2, []), some (1, .istore_n 2, .istore_n 2, []), 
  some (3, .iinc 3 (-1), .iinc 3 (-1), []), none, none, some (3, .goto (-36), .goto 9, []), none, none, some (1, .iload_n 2, .iload_n 2, []), some (1, .ireturn, .ireturn, [])
  ])
def mj_Mo_request : mv_J := (⟨"PlugTreeModel", "request", "(III)I"⟩, prog_8_method_37_code, 4, some .int, [], [], 4, 6, [
  some (1, .aload_n 0, .aload_n 0, []), some (1, .aload_n 0, .aload_n 0, []), some (1, .iload_n 1, .iload_n 1, []), some (3, .invokevirtual 191, .invokevirtual 112, [961, 963, 43]), 
  none, none, some (3, .ifCond .eq 7, .ifCond .eq 13, []), none, none, some (1, .iload_n 2, .iload_n 2, []), some (3, .ifCond .ge 7, .ifCond .ge 17, []), 
  none, none, some (1, .iconst 1, .iconst 1, []), some (3, .goto 38, .goto 52, []), none, none, some (1, .aload_n 0, .aload_n 0, []), some (3, .getfield 48, .getfield 399, [762]), 
  none, none, some (1, .iload_n 1, .iload_n 1, []), some (1, .iaload, .iaload, []), some (1, .iconst 1, .iconst 1, []), some (3, .if_icmp .eq 13, .if_icmp .eq 37, []), 
  none, none, some (1, .aload_n 0, .aload_n 0, []), some (3, .getfield 48, .getfield 399, [762]), none, none, some (1, .iload_n 1, .iload_n 1, []), some (1, .iaload, .iaload, []), 
  some (1, .iconst 2, .iconst 2, []), some (3, .if_icmp .ne 13, .if_icmp .ne 47, []), none, none, some (1, .aload_n 0, .aload_n 0, []), some (1, .iload_n 1, .iload_n 1, []), 
  some (3, .invokevirtual 200, .invokevirtual 117, [983, 985, 46]), none, none, some (2, .bipush 8, .bipush 8, []), none, some (3, .if_icmp .ne 7, .if_icmp .ne 51, []), 
  none, none, some (1, .iconst 2, .iconst 2, []), some (3, .goto 4, .goto 52, []), none, none, some (1, .iconst 0, .iconst 0, []), some (3, .putfield 88, .putfield 384, [747]), 
  none, none, some (1, .aload_n 0, .aload_n 0, []), some (3, .getfield 88, .getfield 384, [747]), none, none, some (3, .ifCond .le 5, .ifCond .le 64, []), 
  none, none, some (1, .iconst 0, .iconst 0, []), some (1, .ireturn, .ireturn, []), some (1, .aload_n 0, .aload_n 0, []), some (3, .getfield 69, .getfield 409, [772]), 
  none, none, some (1, .aload_n 0, .aload_n 0, []), some (3, .getfield 184, .getfield 408, [771]), none, none, some (1, .iload_n 1, .iload_n 1, []), some (1, .iastore, .iastore, []), 
  some (1, .aload_n 0, .aload_n 0, []), some (3, .getfield 72, .getfield 410, [773]), none, none, some (1, .aload_n 0, .aload_n 0, []), some (3, .getfield 184, .getfield 408, [771]), 
  none, none, some (1, .iload_n 2, .iload_n 2, []), some (1, .iastore, .iastore, []), some (1, .aload_n 0, .aload_n 0, []), some (3, .getfield 75, .getfield 411, [774]), 
  none, none, some (1, .aload_n 0, .aload_n 0, []), some (3, .getfield 184, .getfield 408, [771]), none, none, some (1, .iload_n 3, .iload_n 3, []), some (1, .iastore, .iastore, []), 
  some (1, .aload_n 0, .aload_n 0, []), some (3, .getfield 78, .getfield 412, [775]), none, none, some (1, .aload_n 0, .aload_n 0, []), some (3, .getfield 184, .getfield 408, [771]), 
  none, none, some (3, .ldc2_w 187, .ldc2_w 1099511627776, [969]), none, none, some (1, .lastore, .lastore, []), some (1, .aload_n 0, .aload_n 0, []), 
  some (1, .dup, .dup, []), some (3, .getfield 184, .getfield 408, [771]), none, none, some (1, .iconst 1, .iconst 1, []), some (1, .iadd, .iadd, []), 
  some (3, .putfield 184, .putfield 408, [771]), none, none, some (1, .aload_n 0, .aload_n 0, []), some (3, .getfield 184, .getfield 408, [771]), none, 
  none, some (1, .iconst 1, .iconst 1, []), some (1, .isub, .isub, []), some (1, .ireturn, .ireturn, [])])
def mj_Mo_waiting : mv_J := (⟨"PlugTreeModel", "waiting", "(I)I"⟩, prog_8_method_32_code, 4, some .int, [], [], 2, 6, [
  some (1, .iconst 0, .iconst 0, []), some (1, .istore_n 2, .istore_n 2, []), some (1, .iconst 0, .iconst 0, []), some (1, .istore_n 3, .istore_n 3, []), 
  some (1, .iload_n 3, .iload_n 3, []), some (1, .aload_n 0, .aload_n 0, []), some (3, .getfield 184, .getfield 408, [771]), none, none, some (3, .if_icmp .ge 40, .if_icmp .ge 49, []), 
  none, none, some (1, .aload_n 0, .aload_n 0, []), some (3, .getfield 69, .getfield 409, [772]), none, none, some (1, .iload_n 3, .iload_n 3, []), some (1, .iaload, .iaload, []), 
  some (1, .iload_n 1, .iload_n 1, []), some (3, .if_icmp .ne 22, .if_icmp .ne 41, []), none, none, some (1, .aload_n 0, .aload_n 0, []), some (3, .getfield 78, .getfield 412, [775]), 
  none, none, some (1, .iload_n 3, .iload_n 3, []), some (1, .laload, .laload, []), some (3, .ldc2_w 187, .ldc2_w 1099511627776, [969]), none, none, some (1, .lcmp, .lcmp, []), 
  some (3, .ifCond .ne 9, .ifCond .ne 41, []), none, none, some (1, .iload_n 2, .iload_n 2, []), some (1, .iconst 1, .iconst 1, []), some (1, .iadd, .iadd, []), 
  some (3, .goto 4, .goto 42, []), none, none, some (1, .iload_n 2, .iload_n 2, []), some (1, .istore_n 2, .istore_n 2, []), some (3, .iinc 3 1, .iinc 3 1, []), 
  none, none, some (3, .goto (-42), .goto 4, []), none, none, some (1, .iload_n 2, .iload_n 2, []), some (1, .ireturn, .ireturn, [])])
def mj_Mo_work : mv_J := (⟨"PlugTreeModel", "work", "(I)Z"⟩, prog_8_method_38_code, 3, some .boolean, [], [], 2, 6, [
  some (1, .aload_n 0, .aload_n 0, []), some (1, .aload_n 0, .aload_n 0, []), some (1, .iload_n 1, .iload_n 1, []), some (3, .invokevirtual 191, .invokevirtual 112, [961, 963, 43]), 
  none, none, some (3, .ifCond .eq 7, .ifCond .eq 13, []), none, none, some (1, .iconst 0, .iconst 0, []), some (3, .goto 4, .goto 14, []), none, none, 
  some (1, .iconst 1, .iconst 1, []), some (3, .putfield 88, .putfield 384, [747]), none, none, some (1, .aload_n 0, .aload_n 0, []), some (3, .getfield 88, .getfield 384, [747]), 
  none, none, some (3, .ifCond .le 5, .ifCond .le 26, []), none, none, some (1, .iconst 0, .iconst 0, []), some (1, .ireturn, .ireturn, []), some (1, .aload_n 0, .aload_n 0, []), 
  some (1, .iload_n 1, .iload_n 1, []), some (3, .invokevirtual 197, .invokevirtual 115, [975, 977, 45]), none, none, some (1, .istore_n 2, .istore_n 2, []), 
  some (1, .aload_n 0, .aload_n 0, []), some (3, .getfield 60, .getfield 403, [766]), none, none, some (1, .iload_n 1, .iload_n 1, []), some (1, .iaload, .iaload, []), 
  some (3, .ifCond .ne 36, .ifCond .ne 74, []), none, none, some (1, .aload_n 0, .aload_n 0, []), some (3, .getfield 48, .getfield 399, [762]), none, none, 
  some (1, .iload_n 1, .iload_n 1, []), some (1, .iaload, .iaload, []), some (1, .iconst 1, .iconst 1, []), some (3, .if_icmp .ne 7, .if_icmp .ne 55, []), 
  none, none, some (1, .iload_n 2, .iload_n 2, []), some (3, .ifCond .ge 5, .ifCond .ge 57, []), none, none, some (1, .iconst 0, .iconst 0, []), some (1, .ireturn, .ireturn, []), 
  some (1, .aload_n 0, .aload_n 0, []), some (3, .getfield 60, .getfield 403, [766]), none, none, some (1, .iload_n 1, .iload_n 1, []), some (1, .aload_n 0, .aload_n 0, []), 
  some (3, .getfield 72, .getfield 410, [773]), none, none, some (1, .iload_n 2, .iload_n 2, []), some (1, .iaload, .iaload, []), some (2, .bipush 8, .bipush 8, []), 
  none, some (1, .irem, .irem, []), some (1, .iconst 1, .iconst 1, []), some (1, .iadd, .iadd, []), some (1, .iastore, .iastore, []), some (1, .aload_n 0, .aload_n 0, []), 
  some (3, .getfield 60, .getfield 403, [766]), none, none, some (1, .iload_n 1, .iload_n 1, []), some (1, .dup2, .dup2, []), some (1, .iaload, .iaload, []), 
  some (1, .iconst 1, .iconst 1, []), some (1, .isub, .isub, []), some (1, .iastore, .iastore, []), some (1, .aload_n 0, .aload_n 0, []), some (3, .getfield 60, .getfield 403, [766]), 
  none, none, some (1, .iload_n 1, .iload_n 1, []), some (1, .iaload, .iaload, []), some (3, .ifCond .ne 45, .ifCond .ne 135, []), none, none, some (1, .aload_n 0, .aload_n 0, []), 
  some (3, .getfield 63, .getfield 404, [767]), none, none, some (1, .iload_n 1, .iload_n 1, []), some (2, .bipush 31, .bipush 31, []), none, some (1, .aload_n 0, .aload_n 0, []), 
  some (3, .getfield 63, .getfield 404, [767]), none, none, some (1, .iload_n 1, .iload_n 1, []), some (1, .iaload, .iaload, []), some (1, .imul, .imul, []), 
  some (1, .aload_n 0, .aload_n 0, []), some (3, .getfield 75, .getfield 411, [774]), none, none, some (1, .iload_n 2, .iload_n 2, []), some (1, .iaload, .iaload, []), 
  some (1, .iadd, .iadd, []), some (1, .iastore, .iastore, []), some (1, .aload_n 0, .aload_n 0, []), some (3, .getfield 78, .getfield 412, [775]), none, 
  none, some (1, .iload_n 2, .iload_n 2, []), some (1, .aload_n 0, .aload_n 0, []), some (3, .getfield 63, .getfield 404, [767]), none, none, some (1, .iload_n 1, .iload_n 1, []), 
  some (1, .iaload, .iaload, []), some (1, .aload_n 0, .aload_n 0, []), some (3, .getfield 72, .getfield 410, [773]), none, none, some (1, .iload_n 2, .iload_n 2, []), 
  some (1, .iaload, .iaload, []), some (1, .iadd, .iadd, []), some (1, .i2l, .i2l, []), some (1, .lastore, .lastore, []), some (1, .iconst 1, .iconst 1, []), 
  some (1, .ireturn, .ireturn, [])])
def mj_Mo_result : mv_J := (⟨"PlugTreeModel", "result", "(I)J"⟩, prog_8_method_39_code, 2, some .long, [], [], 2, 6, [
  some (1, .aload_n 0, .aload_n 0, []), some (1, .iload_n 1, .iload_n 1, []), some (3, .ifCond .lt 11, .ifCond .lt 13, []), none, none, some (1, .iload_n 1, .iload_n 1, []), 
  some (1, .aload_n 0, .aload_n 0, []), some (3, .getfield 184, .getfield 408, [771]), none, none, some (3, .if_icmp .lt 7, .if_icmp .lt 17, []), none, 
  none, some (1, .iconst 1, .iconst 1, []), some (3, .goto 4, .goto 18, []), none, none, some (1, .iconst 0, .iconst 0, []), some (3, .putfield 88, .putfield 384, [747]), 
  none, none, some (1, .aload_n 0, .aload_n 0, []), some (3, .getfield 88, .getfield 384, [747]), none, none, some (3, .ifCond .le 7, .ifCond .le 32, []), 
  none, none, some (1, .lconst 0, .lconst 0, []), some (3, .goto 9, .goto 38, []), none, none, some (1, .aload_n 0, .aload_n 0, []), some (3, .getfield 78, .getfield 412, [775]), 
  none, none, some (1, .iload_n 1, .iload_n 1, []), some (1, .laload, .laload, []), some (1, .lreturn, .lreturn, [])])
def mj_Mo_card : mv_J := (⟨"PlugTreeModel", "card", "(II)I"⟩, prog_8_method_40_code, 3, some .int, [], [], 3, 6, [
  some (1, .aload_n 0, .aload_n 0, []), some (1, .aload_n 0, .aload_n 0, []), some (1, .iload_n 1, .iload_n 1, []), some (3, .invokevirtual 191, .invokevirtual 112, [961, 963, 43]), 
  none, none, some (3, .ifCond .eq 16, .ifCond .eq 22, []), none, none, some (1, .iload_n 2, .iload_n 2, []), some (1, .iconst 0, .iconst 0, []), some (1, .iconst 3, .iconst 3, []), 
  some (3, .invokestatic 98, .invokestatic 85, [855, 856]), none, none, some (3, .ifCond .eq 7, .ifCond .eq 22, []), none, none, some (1, .iconst 0, .iconst 0, []), 
  some (3, .goto 4, .goto 23, []), none, none, some (1, .iconst 1, .iconst 1, []), some (3, .putfield 88, .putfield 384, [747]), none, none, some (1, .aload_n 0, .aload_n 0, []), 
  some (3, .getfield 88, .getfield 384, [747]), none, none, some (3, .ifCond .le 5, .ifCond .le 35, []), none, none, some (1, .iconst 0, .iconst 0, []), 
  some (1, .ireturn, .ireturn, []), some (1, .iload_n 2, .iload_n 2, []), some (3, .ifCond .ne 12, .ifCond .ne 48, []), none, none, some (1, .aload_n 0, .aload_n 0, []), 
  some (3, .getfield 48, .getfield 399, [762]), none, none, some (1, .iload_n 1, .iload_n 1, []), some (1, .iaload, .iaload, []), some (3, .goto 36, .goto 81, []), 
  none, none, some (1, .iload_n 2, .iload_n 2, []), some (1, .iconst 1, .iconst 1, []), some (3, .if_icmp .ne 12, .if_icmp .ne 62, []), none, none, some (1, .aload_n 0, .aload_n 0, []), 
  some (3, .getfield 51, .getfield 400, [763]), none, none, some (1, .iload_n 1, .iload_n 1, []), some (1, .iaload, .iaload, []), some (3, .goto 22, .goto 81, []), 
  none, none, some (1, .iload_n 2, .iload_n 2, []), some (1, .iconst 2, .iconst 2, []), some (3, .if_icmp .ne 11, .if_icmp .ne 75, []), none, none, some (1, .aload_n 0, .aload_n 0, []), 
  some (1, .iload_n 1, .iload_n 1, []), some (3, .invokevirtual 200, .invokevirtual 117, [983, 985, 46]), none, none, some (3, .goto 9, .goto 81, []), 
  none, none, some (1, .aload_n 0, .aload_n 0, []), some (3, .getfield 60, .getfield 403, [766]), none, none, some (1, .iload_n 1, .iload_n 1, []), some (1, .iaload, .iaload, []), 
  some (1, .ireturn, .ireturn, [])])
def mj_Mo_range : mv_J := (⟨"PlugTreeModel", "range", "(II)I"⟩, prog_8_method_41_code, 3, some .int, [], [], 3, 6, [
  some (1, .aload_n 0, .aload_n 0, []), some (1, .aload_n 0, .aload_n 0, []), some (1, .iload_n 1, .iload_n 1, []), some (3, .invokevirtual 191, .invokevirtual 112, [961, 963, 43]), 
  none, none, some (3, .ifCond .eq 16, .ifCond .eq 22, []), none, none, some (1, .iload_n 2, .iload_n 2, []), some (1, .iconst 0, .iconst 0, []), some (1, .iconst 2, .iconst 2, []), 
  some (3, .invokestatic 98, .invokestatic 85, [855, 856]), none, none, some (3, .ifCond .eq 7, .ifCond .eq 22, []), none, none, some (1, .iconst 0, .iconst 0, []), 
  some (3, .goto 4, .goto 23, []), none, none, some (1, .iconst 1, .iconst 1, []), some (3, .putfield 88, .putfield 384, [747]), none, none, some (1, .aload_n 0, .aload_n 0, []), 
  some (3, .getfield 88, .getfield 384, [747]), none, none, some (3, .ifCond .le 7, .ifCond .le 37, []), none, none, some (1, .iconst 0, .iconst 0, []), 
  some (3, .goto 13, .goto 47, []), none, none, some (1, .aload_n 0, .aload_n 0, []), some (3, .getfield 54, .getfield 401, [764]), none, none, some (1, .iconst 3, .iconst 3, []), 
  some (1, .iload_n 1, .iload_n 1, []), some (1, .imul, .imul, []), some (1, .iload_n 2, .iload_n 2, []), some (1, .iadd, .iadd, []), some (1, .iaload, .iaload, []), 
  some (1, .ireturn, .ireturn, [])])
def mj_Mo_opening : mv_J := (⟨"PlugTreeModel", "opening", "(IZ)I"⟩, prog_8_method_42_code, 3, some .int, [], [], 3, 6, [
  some (1, .aload_n 0, .aload_n 0, []), some (1, .aload_n 0, .aload_n 0, []), some (1, .iload_n 1, .iload_n 1, []), some (3, .invokevirtual 94, .invokevirtual 84, [851, 853, 22]), 
  none, none, some (3, .ifCond .eq 7, .ifCond .eq 13, []), none, none, some (1, .iconst 0, .iconst 0, []), some (3, .goto 4, .goto 14, []), none, none, 
  some (1, .iconst 1, .iconst 1, []), some (3, .putfield 88, .putfield 384, [747]), none, none, some (1, .aload_n 0, .aload_n 0, []), some (3, .getfield 88, .getfield 384, [747]), 
  none, none, some (3, .ifCond .le 7, .ifCond .le 28, []), none, none, some (1, .iconst 0, .iconst 0, []), some (3, .goto 22, .goto 47, []), none, none, 
  some (1, .iload_n 2, .iload_n 2, []), some (3, .ifCond .eq 12, .ifCond .eq 41, []), none, none, some (1, .aload_n 0, .aload_n 0, []), some (3, .getfield 26, .getfield 390, [753]), 
  none, none, some (1, .iload_n 1, .iload_n 1, []), some (1, .iaload, .iaload, []), some (3, .goto 9, .goto 47, []), none, none, some (1, .aload_n 0, .aload_n 0, []), 
  some (3, .getfield 23, .getfield 389, [752]), none, none, some (1, .iload_n 1, .iload_n 1, []), some (1, .iaload, .iaload, []), some (1, .ireturn, .ireturn, [])
  ])
def mj_Mo_decode : mv_J := (⟨"PlugTreeModel", "decode", "(I)I"⟩, prog_8_method_43_code, 6, some .int, [], [], 2, 6, [
  some (1, .aload_n 0, .aload_n 0, []), some (1, .iconst 0, .iconst 0, []), some (3, .putfield 88, .putfield 384, [747]), none, none, some (1, .iconst (-1), .iconst (-1), []), 
  some (1, .istore_n 2, .istore_n 2, []), some (1, .iconst 0, .iconst 0, []), some (1, .istore_n 3, .istore_n 3, []), some (1, .iload_n 3, .iload_n 3, []), 
  some (1, .aload_n 0, .aload_n 0, []), some (3, .getfield 91, .getfield 396, [759]), none, none, some (3, .if_icmp .ge 68, .if_icmp .ge 82, []), none, 
  none, some (1, .iconst 0, .iconst 0, []), some (2, .istore 4, .istore 4, []), none, some (2, .iload 4, .iload 4, []), none, some (1, .iconst 3, .iconst 3, []), 
  some (3, .if_icmp .ge 53, .if_icmp .ge 76, []), none, none, some (1, .aload_n 0, .aload_n 0, []), some (3, .getfield 54, .getfield 401, [764]), none, 
  none, some (1, .iconst 3, .iconst 3, []), some (1, .iload_n 3, .iload_n 3, []), some (1, .imul, .imul, []), some (2, .iload 4, .iload 4, []), none, some (1, .iadd, .iadd, []), 
  some (1, .iaload, .iaload, []), some (2, .istore 5, .istore 5, []), none, some (2, .iload 5, .iload 5, []), none, some (3, .ifCond .lt 27, .ifCond .lt 68, []), 
  none, none, some (1, .iload_n 1, .iload_n 1, []), some (2, .iload 5, .iload 5, []), none, some (3, .if_icmp .lt 21, .if_icmp .lt 68, []), none, none, 
  some (1, .iload_n 1, .iload_n 1, []), some (2, .iload 5, .iload 5, []), none, some (1, .aload_n 0, .aload_n 0, []), some (1, .iload_n 3, .iload_n 3, []), 
  some (2, .iload 4, .iload 4, []), none, some (3, .invokevirtual 124, .invokevirtual 100, [913, 915, 33]), none, none, some (1, .iadd, .iadd, []), some (3, .if_icmp .ge 7, .if_icmp .ge 68, []), 
  none, none, some (1, .iload_n 3, .iload_n 3, []), some (3, .goto 4, .goto 69, []), none, none, some (1, .iload_n 2, .iload_n 2, []), some (1, .istore_n 2, .istore_n 2, []), 
  some (3, .iinc 4 1, .iinc 4 1, []), none, none, some (3, .goto (-53), .goto 20, []), none, none, some (3, .iinc 3 1, .iinc 3 1, []), none, none, some (3, .goto (-70), .goto 9, []), 
  none, none, some (1, .iload_n 2, .iload_n 2, []), some (1, .ireturn, .ireturn, [])])
def mj_Mo_power : mv_J := (⟨"PlugTreeModel", "power", "(I)I"⟩, prog_8_method_44_code, 2, some .int, [], [], 2, 6, [
  some (1, .aload_n 0, .aload_n 0, []), some (1, .aload_n 0, .aload_n 0, []), some (1, .iload_n 1, .iload_n 1, []), some (3, .invokevirtual 94, .invokevirtual 84, [851, 853, 22]), 
  none, none, some (3, .ifCond .eq 7, .ifCond .eq 13, []), none, none, some (1, .iconst 0, .iconst 0, []), some (3, .goto 4, .goto 14, []), none, none, 
  some (1, .iconst 1, .iconst 1, []), some (3, .putfield 88, .putfield 384, [747]), none, none, some (1, .aload_n 0, .aload_n 0, []), some (3, .getfield 88, .getfield 384, [747]), 
  none, none, some (3, .ifCond .le 7, .ifCond .le 28, []), none, none, some (1, .iconst 0, .iconst 0, []), some (3, .goto 8, .goto 33, []), none, none, 
  some (1, .aload_n 0, .aload_n 0, []), some (1, .iload_n 1, .iload_n 1, []), some (3, .invokevirtual 164, .invokevirtual 93, [886, 888, 27]), none, none, 
  some (1, .ireturn, .ireturn, [])])
def mj_Mo_slot : mv_J := (⟨"PlugTreeModel", "slot", "(II)I"⟩, prog_8_method_45_code, 3, some .int, [], [], 3, 6, [
  some (1, .aload_n 0, .aload_n 0, []), some (1, .aload_n 0, .aload_n 0, []), some (1, .iload_n 1, .iload_n 1, []), some (3, .invokevirtual 94, .invokevirtual 84, [851, 853, 22]), 
  none, none, some (3, .ifCond .eq 16, .ifCond .eq 22, []), none, none, some (1, .iload_n 2, .iload_n 2, []), some (1, .iconst 0, .iconst 0, []), some (1, .iconst 3, .iconst 3, []), 
  some (3, .invokestatic 98, .invokestatic 85, [855, 856]), none, none, some (3, .ifCond .eq 7, .ifCond .eq 22, []), none, none, some (1, .iconst 0, .iconst 0, []), 
  some (3, .goto 4, .goto 23, []), none, none, some (1, .iconst 1, .iconst 1, []), some (3, .putfield 88, .putfield 384, [747]), none, none, some (1, .aload_n 0, .aload_n 0, []), 
  some (3, .getfield 88, .getfield 384, [747]), none, none, some (3, .ifCond .le 7, .ifCond .le 37, []), none, none, some (1, .iconst 0, .iconst 0, []), 
  some (3, .goto 13, .goto 47, []), none, none, some (1, .aload_n 0, .aload_n 0, []), some (3, .getfield 13, .getfield 386, [749]), none, none, some (1, .iconst 4, .iconst 4, []), 
  some (1, .iload_n 1, .iload_n 1, []), some (1, .imul, .imul, []), some (1, .iload_n 2, .iload_n 2, []), some (1, .iadd, .iadd, []), some (1, .iaload, .iaload, []), 
  some (1, .ireturn, .ireturn, [])])
def mj_Mo_moved : mv_J := (⟨"PlugTreeModel", "moved", "()I"⟩, prog_8_method_46_code, 1, some .int, [], [], 1, 6, [
  some (1, .aload_n 0, .aload_n 0, []), some (1, .iconst 0, .iconst 0, []), some (3, .putfield 88, .putfield 384, [747]), none, none, some (1, .aload_n 0, .aload_n 0, []), 
  some (3, .getfield 154, .getfield 407, [770]), none, none, some (1, .ireturn, .ireturn, [])])
def mj_Lw_bridge : mv_J := (⟨"PlugTreeLaw", "bridge", "(LPlugTree;III[J)I"⟩, method_3_code, 6, some .int, [(0, 12, 15, 13), (0, 12, 19, 15)], [(0, 12, 15, 8), (0, 12, 19, 9)], 5, 99, [
  some (2, .aload 4, .aload 4, []), none, some (1, .iconst 0, .iconst 0, []), some (1, .aload_n 0, .aload_n 0, []), some (1, .iload_n 1, .iload_n 1, []), 
  some (1, .iload_n 2, .iload_n 2, []), some (1, .iload_n 3, .iload_n 3, []), some (3, .invokevirtual 7, .invokevirtual 64, [370, 371, 372]), none, none, 
  some (1, .i2l, .i2l, []), some (1, .lastore, .lastore, []), some (3, .goto 11, .goto 23, []), none, none, some (2, .astore 5, .astore 5, []), none, some (1, .iconst 1, .iconst 1, []), 
  some (1, .ireturn, .ireturn, []), some (2, .astore 5, .astore 5, []), none, some (1, .iconst 2, .iconst 2, []), some (1, .ireturn, .ireturn, []), some (1, .iconst 0, .iconst 0, []), 
  some (1, .ireturn, .ireturn, [])])
def mj_Lw_type : mv_J := (⟨"PlugTreeLaw", "type", "(LPlugTree;IIIIZ[J)I"⟩, method_4_code, 8, some .int, [(0, 16, 19, 13), (0, 16, 23, 15)], [(0, 16, 19, 8), (0, 16, 23, 9)], 7, 99, [
  some (2, .aload 6, .aload 6, []), none, some (1, .iconst 0, .iconst 0, []), some (1, .aload_n 0, .aload_n 0, []), some (1, .iload_n 1, .iload_n 1, []), 
  some (1, .iload_n 2, .iload_n 2, []), some (1, .iload_n 3, .iload_n 3, []), some (2, .iload 4, .iload 4, []), none, some (2, .iload 5, .iload 5, []), 
  none, some (3, .invokevirtual 17, .invokevirtual 68, [468, 469, 470]), none, none, some (1, .i2l, .i2l, []), some (1, .lastore, .lastore, []), some (3, .goto 11, .goto 27, []), 
  none, none, some (2, .astore 7, .astore 7, []), none, some (1, .iconst 1, .iconst 1, []), some (1, .ireturn, .ireturn, []), some (2, .astore 7, .astore 7, []), 
  none, some (1, .iconst 2, .iconst 2, []), some (1, .ireturn, .ireturn, []), some (1, .iconst 0, .iconst 0, []), some (1, .ireturn, .ireturn, [])])
def mj_Lw_plug : mv_J := (⟨"PlugTreeLaw", "plug", "(LPlugTree;III[J)I"⟩, method_5_code, 6, some .int, [(0, 12, 15, 13), (0, 12, 19, 15)], [(0, 12, 15, 8), (0, 12, 19, 9)], 5, 99, [
  some (2, .aload 4, .aload 4, []), none, some (1, .iconst 0, .iconst 0, []), some (1, .aload_n 0, .aload_n 0, []), some (1, .iload_n 1, .iload_n 1, []), 
  some (1, .iload_n 2, .iload_n 2, []), some (1, .iload_n 3, .iload_n 3, []), some (3, .invokevirtual 21, .invokevirtual 69, [505, 506, 507]), none, none, 
  some (1, .i2l, .i2l, []), some (1, .lastore, .lastore, []), some (3, .goto 11, .goto 23, []), none, none, some (2, .astore 5, .astore 5, []), none, some (1, .iconst 1, .iconst 1, []), 
  some (1, .ireturn, .ireturn, []), some (2, .astore 5, .astore 5, []), none, some (1, .iconst 2, .iconst 2, []), some (1, .ireturn, .ireturn, []), some (1, .iconst 0, .iconst 0, []), 
  some (1, .ireturn, .ireturn, [])])
def mj_Lw_pull : mv_J := (⟨"PlugTreeLaw", "pull", "(LPlugTree;I[J)I"⟩, method_6_code, 4, some .int, [(0, 9, 12, 13), (0, 9, 15, 15)], [(0, 9, 12, 8), (0, 9, 15, 9)], 3, 99, [
  some (1, .aload_n 2, .aload_n 2, []), some (1, .iconst 0, .iconst 0, []), some (1, .aload_n 0, .aload_n 0, []), some (1, .iload_n 1, .iload_n 1, []), 
  some (3, .invokevirtual 24, .invokevirtual 70, [563, 564, 565]), none, none, some (1, .i2l, .i2l, []), some (1, .lastore, .lastore, []), some (3, .goto 9, .goto 18, []), 
  none, none, some (1, .astore_n 3, .astore_n 3, []), some (1, .iconst 1, .iconst 1, []), some (1, .ireturn, .ireturn, []), some (1, .astore_n 3, .astore_n 3, []), 
  some (1, .iconst 2, .iconst 2, []), some (1, .ireturn, .ireturn, []), some (1, .iconst 0, .iconst 0, []), some (1, .ireturn, .ireturn, [])])
def mj_Lw_leave : mv_J := (⟨"PlugTreeLaw", "leave", "(LPlugTree;I[J)I"⟩, method_7_code, 4, some .int, [(0, 9, 12, 13), (0, 9, 15, 15)], [(0, 9, 12, 8), (0, 9, 15, 9)], 3, 99, [
  some (1, .aload_n 2, .aload_n 2, []), some (1, .iconst 0, .iconst 0, []), some (1, .aload_n 0, .aload_n 0, []), some (1, .iload_n 1, .iload_n 1, []), 
  some (3, .invokevirtual 28, .invokevirtual 72, [579, 580, 581]), none, none, some (1, .i2l, .i2l, []), some (1, .lastore, .lastore, []), some (3, .goto 9, .goto 18, []), 
  none, none, some (1, .astore_n 3, .astore_n 3, []), some (1, .iconst 1, .iconst 1, []), some (1, .ireturn, .ireturn, []), some (1, .astore_n 3, .astore_n 3, []), 
  some (1, .iconst 2, .iconst 2, []), some (1, .ireturn, .ireturn, []), some (1, .iconst 0, .iconst 0, []), some (1, .ireturn, .ireturn, [])])
def mj_Lw_request : mv_J := (⟨"PlugTreeLaw", "request", "(LPlugTree;III[J)I"⟩, method_8_code, 6, some .int, [(0, 12, 15, 13), (0, 12, 19, 15)], [(0, 12, 15, 8), (0, 12, 19, 9)], 5, 99, [
  some (2, .aload 4, .aload 4, []), none, some (1, .iconst 0, .iconst 0, []), some (1, .aload_n 0, .aload_n 0, []), some (1, .iload_n 1, .iload_n 1, []), 
  some (1, .iload_n 2, .iload_n 2, []), some (1, .iload_n 3, .iload_n 3, []), some (3, .invokevirtual 31, .invokevirtual 73, [586, 587, 588]), none, none, 
  some (1, .i2l, .i2l, []), some (1, .lastore, .lastore, []), some (3, .goto 11, .goto 23, []), none, none, some (2, .astore 5, .astore 5, []), none, some (1, .iconst 1, .iconst 1, []), 
  some (1, .ireturn, .ireturn, []), some (2, .astore 5, .astore 5, []), none, some (1, .iconst 2, .iconst 2, []), some (1, .ireturn, .ireturn, []), some (1, .iconst 0, .iconst 0, []), 
  some (1, .ireturn, .ireturn, [])])
def mj_Lw_work : mv_J := (⟨"PlugTreeLaw", "work", "(LPlugTree;I[J)I"⟩, method_9_code, 4, some .int, [(0, 16, 19, 13)], [(0, 16, 19, 8)], 3, 99, [
  some (1, .aload_n 2, .aload_n 2, []), some (1, .iconst 0, .iconst 0, []), some (1, .aload_n 0, .aload_n 0, []), some (1, .iload_n 1, .iload_n 1, []), 
  some (3, .invokevirtual 34, .invokevirtual 74, [673, 674, 675]), none, none, some (3, .ifCond .eq 7, .ifCond .eq 14, []), none, none, some (1, .lconst 1, .lconst 1, []), 
  some (3, .goto 4, .goto 15, []), none, none, some (1, .lconst 0, .lconst 0, []), some (1, .lastore, .lastore, []), some (3, .goto 6, .goto 22, []), none, 
  none, some (1, .astore_n 3, .astore_n 3, []), some (1, .iconst 1, .iconst 1, []), some (1, .ireturn, .ireturn, []), some (1, .iconst 0, .iconst 0, []), 
  some (1, .ireturn, .ireturn, [])])
def mj_Lw_result : mv_J := (⟨"PlugTreeLaw", "result", "(LPlugTree;I[J)I"⟩, method_10_code, 4, some .int, [(0, 8, 11, 13)], [(0, 8, 11, 8)], 3, 99, [
  some (1, .aload_n 2, .aload_n 2, []), some (1, .iconst 0, .iconst 0, []), some (1, .aload_n 0, .aload_n 0, []), some (1, .iload_n 1, .iload_n 1, []), 
  some (3, .invokevirtual 38, .invokevirtual 75, [688, 689, 690]), none, none, some (1, .lastore, .lastore, []), some (3, .goto 6, .goto 14, []), none, 
  none, some (1, .astore_n 3, .astore_n 3, []), some (1, .iconst 1, .iconst 1, []), some (1, .ireturn, .ireturn, []), some (1, .iconst 0, .iconst 0, []), 
  some (1, .ireturn, .ireturn, [])])
def mj_Lw_card : mv_J := (⟨"PlugTreeLaw", "card", "(LPlugTree;II[J)I"⟩, method_11_code, 5, some .int, [(0, 10, 13, 13)], [(0, 10, 13, 8)], 4, 99, [
  some (1, .aload_n 3, .aload_n 3, []), some (1, .iconst 0, .iconst 0, []), some (1, .aload_n 0, .aload_n 0, []), some (1, .iload_n 1, .iload_n 1, []), 
  some (1, .iload_n 2, .iload_n 2, []), some (3, .invokevirtual 42, .invokevirtual 76, [709, 710, 711]), none, none, some (1, .i2l, .i2l, []), some (1, .lastore, .lastore, []), 
  some (3, .goto 7, .goto 17, []), none, none, some (2, .astore 4, .astore 4, []), none, some (1, .iconst 1, .iconst 1, []), some (1, .ireturn, .ireturn, []), 
  some (1, .iconst 0, .iconst 0, []), some (1, .ireturn, .ireturn, [])])
def mj_Lw_range : mv_J := (⟨"PlugTreeLaw", "range", "(LPlugTree;II[J)I"⟩, method_12_code, 5, some .int, [(0, 10, 13, 13)], [(0, 10, 13, 8)], 4, 99, [
  some (1, .aload_n 3, .aload_n 3, []), some (1, .iconst 0, .iconst 0, []), some (1, .aload_n 0, .aload_n 0, []), some (1, .iload_n 1, .iload_n 1, []), 
  some (1, .iload_n 2, .iload_n 2, []), some (3, .invokevirtual 46, .invokevirtual 77, [716, 717, 718]), none, none, some (1, .i2l, .i2l, []), some (1, .lastore, .lastore, []), 
  some (3, .goto 7, .goto 17, []), none, none, some (2, .astore 4, .astore 4, []), none, some (1, .iconst 1, .iconst 1, []), some (1, .ireturn, .ireturn, []), 
  some (1, .iconst 0, .iconst 0, []), some (1, .ireturn, .ireturn, [])])
def mj_Lw_opening : mv_J := (⟨"PlugTreeLaw", "opening", "(LPlugTree;IZ[J)I"⟩, method_13_code, 5, some .int, [(0, 10, 13, 13)], [(0, 10, 13, 8)], 4, 99, [
  some (1, .aload_n 3, .aload_n 3, []), some (1, .iconst 0, .iconst 0, []), some (1, .aload_n 0, .aload_n 0, []), some (1, .iload_n 1, .iload_n 1, []), 
  some (1, .iload_n 2, .iload_n 2, []), some (3, .invokevirtual 49, .invokevirtual 78, [723, 724, 725]), none, none, some (1, .i2l, .i2l, []), some (1, .lastore, .lastore, []), 
  some (3, .goto 7, .goto 17, []), none, none, some (2, .astore 4, .astore 4, []), none, some (1, .iconst 1, .iconst 1, []), some (1, .ireturn, .ireturn, []), 
  some (1, .iconst 0, .iconst 0, []), some (1, .ireturn, .ireturn, [])])
def mj_Lw_power : mv_J := (⟨"PlugTreeLaw", "power", "(LPlugTree;I[J)I"⟩, method_14_code, 4, some .int, [(0, 9, 12, 13)], [(0, 9, 12, 8)], 3, 99, [
  some (1, .aload_n 2, .aload_n 2, []), some (1, .iconst 0, .iconst 0, []), some (1, .aload_n 0, .aload_n 0, []), some (1, .iload_n 1, .iload_n 1, []), 
  some (3, .invokevirtual 53, .invokevirtual 79, [730, 731, 732]), none, none, some (1, .i2l, .i2l, []), some (1, .lastore, .lastore, []), some (3, .goto 6, .goto 15, []), 
  none, none, some (1, .astore_n 3, .astore_n 3, []), some (1, .iconst 1, .iconst 1, []), some (1, .ireturn, .ireturn, []), some (1, .iconst 0, .iconst 0, []), 
  some (1, .ireturn, .ireturn, [])])
def mj_Lw_slot : mv_J := (⟨"PlugTreeLaw", "slot", "(LPlugTree;II[J)I"⟩, method_15_code, 5, some .int, [(0, 10, 13, 13)], [(0, 10, 13, 8)], 4, 99, [
  some (1, .aload_n 3, .aload_n 3, []), some (1, .iconst 0, .iconst 0, []), some (1, .aload_n 0, .aload_n 0, []), some (1, .iload_n 1, .iload_n 1, []), 
  some (1, .iload_n 2, .iload_n 2, []), some (3, .invokevirtual 56, .invokevirtual 80, [737, 738, 739]), none, none, some (1, .i2l, .i2l, []), some (1, .lastore, .lastore, []), 
  some (3, .goto 7, .goto 17, []), none, none, some (2, .astore 4, .astore 4, []), none, some (1, .iconst 1, .iconst 1, []), some (1, .ireturn, .ireturn, []), 
  some (1, .iconst 0, .iconst 0, []), some (1, .ireturn, .ireturn, [])])
def mj_Lw_law : mv_J := (⟨"PlugTreeLaw", "law", "([I)Z"⟩, code, 8, some .boolean, [], [], 1, 99, [
  some (3, .new 8, .new 0, [69, 70, 48]), none, none, some (1, .dup, .dup, []), some (3, .invokespecial 59, .invokespecial 41, [71, 72, 73]), none, none, 
  some (1, .astore_n 1, .astore_n 1, []), some (3, .new 60, .new 6, [741, 742, 54]), none, none, some (1, .dup, .dup, []), some (3, .invokespecial 62, .invokespecial 81, [743, 744, 745]), 
  none, none, some (1, .astore_n 2, .astore_n 2, []), some (1, .iconst 1, .iconst 1, []), some (2, .newarray .long, .newarray .long, [842]), none, some (1, .astore_n 3, .astore_n 3, []), 
  some (1, .iconst 0, .iconst 0, []), some (2, .istore 4, .istore 4, []), none, some (2, .iload 4, .iload 4, []), none, some (1, .aload_n 0, .aload_n 0, []), 
  some (1, .arraylength, .arraylength, []), some (2, .bipush 6, .bipush 6, []), none, some (1, .isub, .isub, []), some (3, .if_icmp .gt 1098, .if_icmp .gt 1128, []), 
  none, none, some (1, .aload_n 0, .aload_n 0, []), some (2, .iload 4, .iload 4, []), none, some (1, .iaload, .iaload, []), some (2, .bipush 31, .bipush 31, []), 
  none, some (1, .iand, .iand, []), some (84, .tableswitch 1082 0 16 #[84, 164, 284, 364, 377, 390, 446, 502, 582, 645, 700, 768, 836, 920, 945, 1001, 1069], .tableswitch 1122 0 16 #[124, 204, 324, 404, 417, 430, 486, 542, 622, 685, 740, 808, 876, 960, 985, 1041, 1109], []), 
  none, none, none, none, none, none, none, none, none, none, none, none, none, none, none, none, none, none, none, none, none, none, none, none, none, 
  none, none, none, none, none, none, none, none, none, none, none, none, none, none, none, none, none, none, none, none, none, none, none, none, none, 
  none, none, none, none, none, none, none, none, none, none, none, none, none, none, none, none, none, none, none, none, none, none, none, none, none, 
  none, none, none, none, none, none, none, none, some (1, .aload_n 1, .aload_n 1, []), some (1, .aload_n 0, .aload_n 0, []), some (2, .iload 4, .iload 4, []), 
  none, some (1, .iconst 1, .iconst 1, []), some (1, .iadd, .iadd, []), some (1, .iaload, .iaload, []), some (1, .aload_n 0, .aload_n 0, []), some (2, .iload 4, .iload 4, []), 
  none, some (1, .iconst 2, .iconst 2, []), some (1, .iadd, .iadd, []), some (1, .iaload, .iaload, []), some (1, .aload_n 0, .aload_n 0, []), some (2, .iload 4, .iload 4, []), 
  none, some (1, .iconst 3, .iconst 3, []), some (1, .iadd, .iadd, []), some (1, .iaload, .iaload, []), some (1, .aload_n 3, .aload_n 3, []), some (3, .invokestatic 63, .invokestatic 127, [365, 366]), 
  none, none, some (2, .istore 5, .istore 5, []), none, some (1, .aload_n 2, .aload_n 2, []), some (1, .aload_n 0, .aload_n 0, []), some (2, .iload 4, .iload 4, []), 
  none, some (1, .iconst 1, .iconst 1, []), some (1, .iadd, .iadd, []), some (1, .iaload, .iaload, []), some (1, .aload_n 0, .aload_n 0, []), some (2, .iload 4, .iload 4, []), 
  none, some (1, .iconst 2, .iconst 2, []), some (1, .iadd, .iadd, []), some (1, .iaload, .iaload, []), some (1, .aload_n 0, .aload_n 0, []), some (2, .iload 4, .iload 4, []), 
  none, some (1, .iconst 3, .iconst 3, []), some (1, .iadd, .iadd, []), some (1, .iaload, .iaload, []), some (3, .invokevirtual 68, .invokevirtual 83, [847, 848, 849]), 
  none, none, some (2, .istore 6, .istore 6, []), none, some (1, .aload_n 2, .aload_n 2, []), some (3, .invokevirtual 69, .invokevirtual 82, [843, 844, 845]), 
  none, none, some (2, .iload 5, .iload 5, []), none, some (3, .if_icmp .eq 5, .if_icmp .eq 184, []), none, none, some (1, .iconst 0, .iconst 0, []), some (1, .ireturn, .ireturn, []), 
  some (2, .iload 5, .iload 5, []), none, some (3, .ifCond .ne 15, .ifCond .ne 201, []), none, none, some (1, .aload_n 3, .aload_n 3, []), some (1, .iconst 0, .iconst 0, []), 
  some (1, .laload, .laload, []), some (2, .iload 6, .iload 6, []), none, some (1, .i2l, .i2l, []), some (1, .lcmp, .lcmp, []), some (3, .ifCond .eq 5, .ifCond .eq 201, []), 
  none, none, some (1, .iconst 0, .iconst 0, []), some (1, .ireturn, .ireturn, []), some (3, .goto 921, .goto 1122, []), none, none, some (1, .aload_n 1, .aload_n 1, []), 
  some (1, .aload_n 0, .aload_n 0, []), some (2, .iload 4, .iload 4, []), none, some (1, .iconst 1, .iconst 1, []), some (1, .iadd, .iadd, []), some (1, .iaload, .iaload, []), 
  some (1, .aload_n 0, .aload_n 0, []), some (2, .iload 4, .iload 4, []), none, some (1, .iconst 2, .iconst 2, []), some (1, .iadd, .iadd, []), some (1, .iaload, .iaload, []), 
  some (1, .aload_n 0, .aload_n 0, []), some (2, .iload 4, .iload 4, []), none, some (1, .iconst 3, .iconst 3, []), some (1, .iadd, .iadd, []), some (1, .iaload, .iaload, []), 
  some (1, .aload_n 0, .aload_n 0, []), some (2, .iload 4, .iload 4, []), none, some (1, .iconst 4, .iconst 4, []), some (1, .iadd, .iadd, []), some (1, .iaload, .iaload, []), 
  some (1, .aload_n 0, .aload_n 0, []), some (2, .iload 4, .iload 4, []), none, some (1, .iconst 5, .iconst 5, []), some (1, .iadd, .iadd, []), some (1, .iaload, .iaload, []), 
  some (3, .ifCond .eq 7, .ifCond .eq 242, []), none, none, some (1, .iconst 1, .iconst 1, []), some (3, .goto 4, .goto 243, []), none, none, some (1, .iconst 0, .iconst 0, []), 
  some (1, .aload_n 3, .aload_n 3, []), some (3, .invokestatic 73, .invokestatic 128, [465, 466]), none, none, some (2, .istore 5, .istore 5, []), none, 
  some (1, .aload_n 2, .aload_n 2, []), some (1, .aload_n 0, .aload_n 0, []), some (2, .iload 4, .iload 4, []), none, some (1, .iconst 1, .iconst 1, []), 
  some (1, .iadd, .iadd, []), some (1, .iaload, .iaload, []), some (1, .aload_n 0, .aload_n 0, []), some (2, .iload 4, .iload 4, []), none, some (1, .iconst 2, .iconst 2, []), 
  some (1, .iadd, .iadd, []), some (1, .iaload, .iaload, []), some (1, .aload_n 0, .aload_n 0, []), some (2, .iload 4, .iload 4, []), none, some (1, .iconst 3, .iconst 3, []), 
  some (1, .iadd, .iadd, []), some (1, .iaload, .iaload, []), some (1, .aload_n 0, .aload_n 0, []), some (2, .iload 4, .iload 4, []), none, some (1, .iconst 4, .iconst 4, []), 
  some (1, .iadd, .iadd, []), some (1, .iaload, .iaload, []), some (1, .aload_n 0, .aload_n 0, []), some (2, .iload 4, .iload 4, []), none, some (1, .iconst 5, .iconst 5, []), 
  some (1, .iadd, .iadd, []), some (1, .iaload, .iaload, []), some (3, .ifCond .eq 7, .ifCond .eq 287, []), none, none, some (1, .iconst 1, .iconst 1, []), 
  some (3, .goto 4, .goto 288, []), none, none, some (1, .iconst 0, .iconst 0, []), some (3, .invokevirtual 76, .invokevirtual 87, [862, 863, 864]), none, 
  none, some (2, .istore 6, .istore 6, []), none, some (1, .aload_n 2, .aload_n 2, []), some (3, .invokevirtual 69, .invokevirtual 82, [843, 844, 845]), 
  none, none, some (2, .iload 5, .iload 5, []), none, some (3, .if_icmp .eq 5, .if_icmp .eq 304, []), none, none, some (1, .iconst 0, .iconst 0, []), some (1, .ireturn, .ireturn, []), 
  some (2, .iload 5, .iload 5, []), none, some (3, .ifCond .ne 15, .ifCond .ne 321, []), none, none, some (1, .aload_n 3, .aload_n 3, []), some (1, .iconst 0, .iconst 0, []), 
  some (1, .laload, .laload, []), some (2, .iload 6, .iload 6, []), none, some (1, .i2l, .i2l, []), some (1, .lcmp, .lcmp, []), some (3, .ifCond .eq 5, .ifCond .eq 321, []), 
  none, none, some (1, .iconst 0, .iconst 0, []), some (1, .ireturn, .ireturn, []), some (3, .goto 801, .goto 1122, []), none, none, some (1, .aload_n 1, .aload_n 1, []), 
  some (1, .aload_n 0, .aload_n 0, []), some (2, .iload 4, .iload 4, []), none, some (1, .iconst 1, .iconst 1, []), some (1, .iadd, .iadd, []), some (1, .iaload, .iaload, []), 
  some (1, .aload_n 0, .aload_n 0, []), some (2, .iload 4, .iload 4, []), none, some (1, .iconst 2, .iconst 2, []), some (1, .iadd, .iadd, []), some (1, .iaload, .iaload, []), 
  some (1, .aload_n 0, .aload_n 0, []), some (2, .iload 4, .iload 4, []), none, some (1, .iconst 3, .iconst 3, []), some (1, .iadd, .iadd, []), some (1, .iaload, .iaload, []), 
  some (1, .aload_n 3, .aload_n 3, []), some (3, .invokestatic 77, .invokestatic 129, [502, 503]), none, none, some (2, .istore 5, .istore 5, []), none, 
  some (1, .aload_n 2, .aload_n 2, []), some (1, .aload_n 0, .aload_n 0, []), some (2, .iload 4, .iload 4, []), none, some (1, .iconst 1, .iconst 1, []), 
  some (1, .iadd, .iadd, []), some (1, .iaload, .iaload, []), some (1, .aload_n 0, .aload_n 0, []), some (2, .iload 4, .iload 4, []), none, some (1, .iconst 2, .iconst 2, []), 
  some (1, .iadd, .iadd, []), some (1, .iaload, .iaload, []), some (1, .aload_n 0, .aload_n 0, []), some (2, .iload 4, .iload 4, []), none, some (1, .iconst 3, .iconst 3, []), 
  some (1, .iadd, .iadd, []), some (1, .iaload, .iaload, []), some (3, .invokevirtual 79, .invokevirtual 88, [866, 867, 868]), none, none, some (2, .istore 6, .istore 6, []), 
  none, some (1, .aload_n 2, .aload_n 2, []), some (3, .invokevirtual 69, .invokevirtual 82, [843, 844, 845]), none, none, some (2, .iload 5, .iload 5, []), 
  none, some (3, .if_icmp .eq 5, .if_icmp .eq 384, []), none, none, some (1, .iconst 0, .iconst 0, []), some (1, .ireturn, .ireturn, []), some (2, .iload 5, .iload 5, []), 
  none, some (3, .ifCond .ne 15, .ifCond .ne 401, []), none, none, some (1, .aload_n 3, .aload_n 3, []), some (1, .iconst 0, .iconst 0, []), some (1, .laload, .laload, []), 
  some (2, .iload 6, .iload 6, []), none, some (1, .i2l, .i2l, []), some (1, .lcmp, .lcmp, []), some (3, .ifCond .eq 5, .ifCond .eq 401, []), none, none, 
  some (1, .iconst 0, .iconst 0, []), some (1, .ireturn, .ireturn, []), some (3, .goto 721, .goto 1122, []), none, none, some (1, .aload_n 1, .aload_n 1, []), 
  some (3, .invokevirtual 80, .invokevirtual 42, [218, 219, 220]), none, none, some (1, .aload_n 2, .aload_n 2, []), some (3, .invokevirtual 84, .invokevirtual 89, [870, 871, 872]), 
  none, none, some (3, .if_icmp .eq 710, .if_icmp .eq 1122, []), none, none, some (1, .iconst 0, .iconst 0, []), some (1, .ireturn, .ireturn, []), some (1, .aload_n 1, .aload_n 1, []), 
  some (3, .invokevirtual 85, .invokevirtual 61, [348, 349, 350]), none, none, some (1, .aload_n 2, .aload_n 2, []), some (3, .invokevirtual 88, .invokevirtual 110, [953, 954, 955]), 
  none, none, some (3, .if_icmp .eq 697, .if_icmp .eq 1122, []), none, none, some (1, .iconst 0, .iconst 0, []), some (1, .ireturn, .ireturn, []), some (1, .aload_n 1, .aload_n 1, []), 
  some (1, .aload_n 0, .aload_n 0, []), some (2, .iload 4, .iload 4, []), none, some (1, .iconst 1, .iconst 1, []), some (1, .iadd, .iadd, []), some (1, .iaload, .iaload, []), 
  some (1, .aload_n 3, .aload_n 3, []), some (3, .invokestatic 89, .invokestatic 130, [560, 561]), none, none, some (2, .istore 5, .istore 5, []), none, 
  some (1, .aload_n 2, .aload_n 2, []), some (1, .aload_n 0, .aload_n 0, []), some (2, .iload 4, .iload 4, []), none, some (1, .iconst 1, .iconst 1, []), 
  some (1, .iadd, .iadd, []), some (1, .iaload, .iaload, []), some (3, .invokevirtual 92, .invokevirtual 111, [957, 958, 959]), none, none, some (2, .istore 6, .istore 6, []), 
  none, some (1, .aload_n 2, .aload_n 2, []), some (3, .invokevirtual 69, .invokevirtual 82, [843, 844, 845]), none, none, some (2, .iload 5, .iload 5, []), 
  none, some (3, .if_icmp .eq 5, .if_icmp .eq 466, []), none, none, some (1, .iconst 0, .iconst 0, []), some (1, .ireturn, .ireturn, []), some (2, .iload 5, .iload 5, []), 
  none, some (3, .ifCond .ne 15, .ifCond .ne 483, []), none, none, some (1, .aload_n 3, .aload_n 3, []), some (1, .iconst 0, .iconst 0, []), some (1, .laload, .laload, []), 
  some (2, .iload 6, .iload 6, []), none, some (1, .i2l, .i2l, []), some (1, .lcmp, .lcmp, []), some (3, .ifCond .eq 5, .ifCond .eq 483, []), none, none, 
  some (1, .iconst 0, .iconst 0, []), some (1, .ireturn, .ireturn, []), some (3, .goto 639, .goto 1122, []), none, none, some (1, .aload_n 1, .aload_n 1, []), 
  some (1, .aload_n 0, .aload_n 0, []), some (2, .iload 4, .iload 4, []), none, some (1, .iconst 1, .iconst 1, []), some (1, .iadd, .iadd, []), some (1, .iaload, .iaload, []), 
  some (1, .aload_n 3, .aload_n 3, []), some (3, .invokestatic 93, .invokestatic 131, [576, 577]), none, none, some (2, .istore 5, .istore 5, []), none, 
  some (1, .aload_n 2, .aload_n 2, []), some (1, .aload_n 0, .aload_n 0, []), some (2, .iload 4, .iload 4, []), none, some (1, .iconst 1, .iconst 1, []), 
  some (1, .iadd, .iadd, []), some (1, .iaload, .iaload, []), some (3, .invokevirtual 95, .invokevirtual 114, [971, 972, 973]), none, none, some (2, .istore 6, .istore 6, []), 
  none, some (1, .aload_n 2, .aload_n 2, []), some (3, .invokevirtual 69, .invokevirtual 82, [843, 844, 845]), none, none, some (2, .iload 5, .iload 5, []), 
  none, some (3, .if_icmp .eq 5, .if_icmp .eq 522, []), none, none, some (1, .iconst 0, .iconst 0, []), some (1, .ireturn, .ireturn, []), some (2, .iload 5, .iload 5, []), 
  none, some (3, .ifCond .ne 15, .ifCond .ne 539, []), none, none, some (1, .aload_n 3, .aload_n 3, []), some (1, .iconst 0, .iconst 0, []), some (1, .laload, .laload, []), 
  some (2, .iload 6, .iload 6, []), none, some (1, .i2l, .i2l, []), some (1, .lcmp, .lcmp, []), some (3, .ifCond .eq 5, .ifCond .eq 539, []), none, none, 
  some (1, .iconst 0, .iconst 0, []), some (1, .ireturn, .ireturn, []), some (3, .goto 583, .goto 1122, []), none, none, some (1, .aload_n 1, .aload_n 1, []), 
  some (1, .aload_n 0, .aload_n 0, []), some (2, .iload 4, .iload 4, []), none, some (1, .iconst 1, .iconst 1, []), some (1, .iadd, .iadd, []), some (1, .iaload, .iaload, []), 
  some (1, .aload_n 0, .aload_n 0, []), some (2, .iload 4, .iload 4, []), none, some (1, .iconst 2, .iconst 2, []), some (1, .iadd, .iadd, []), some (1, .iaload, .iaload, []), 
  some (1, .aload_n 0, .aload_n 0, []), some (2, .iload 4, .iload 4, []), none, some (1, .iconst 3, .iconst 3, []), some (1, .iadd, .iadd, []), some (1, .iaload, .iaload, []), 
  some (1, .aload_n 3, .aload_n 3, []), some (3, .invokestatic 96, .invokestatic 132, [583, 584]), none, none, some (2, .istore 5, .istore 5, []), none, 
  some (1, .aload_n 2, .aload_n 2, []), some (1, .aload_n 0, .aload_n 0, []), some (2, .iload 4, .iload 4, []), none, some (1, .iconst 1, .iconst 1, []), 
  some (1, .iadd, .iadd, []), some (1, .iaload, .iaload, []), some (1, .aload_n 0, .aload_n 0, []), some (2, .iload 4, .iload 4, []), none, some (1, .iconst 2, .iconst 2, []), 
  some (1, .iadd, .iadd, []), some (1, .iaload, .iaload, []), some (1, .aload_n 0, .aload_n 0, []), some (2, .iload 4, .iload 4, []), none, some (1, .iconst 3, .iconst 3, []), 
  some (1, .iadd, .iadd, []), some (1, .iaload, .iaload, []), some (3, .invokevirtual 98, .invokevirtual 116, [979, 980, 981]), none, none, some (2, .istore 6, .istore 6, []), 
  none, some (1, .aload_n 2, .aload_n 2, []), some (3, .invokevirtual 69, .invokevirtual 82, [843, 844, 845]), none, none, some (2, .iload 5, .iload 5, []), 
  none, some (3, .if_icmp .eq 5, .if_icmp .eq 602, []), none, none, some (1, .iconst 0, .iconst 0, []), some (1, .ireturn, .ireturn, []), some (2, .iload 5, .iload 5, []), 
  none, some (3, .ifCond .ne 15, .ifCond .ne 619, []), none, none, some (1, .aload_n 3, .aload_n 3, []), some (1, .iconst 0, .iconst 0, []), some (1, .laload, .laload, []), 
  some (2, .iload 6, .iload 6, []), none, some (1, .i2l, .i2l, []), some (1, .lcmp, .lcmp, []), some (3, .ifCond .eq 5, .ifCond .eq 619, []), none, none, 
  some (1, .iconst 0, .iconst 0, []), some (1, .ireturn, .ireturn, []), some (3, .goto 503, .goto 1122, []), none, none, some (1, .aload_n 1, .aload_n 1, []), 
  some (1, .aload_n 0, .aload_n 0, []), some (2, .iload 4, .iload 4, []), none, some (1, .iconst 1, .iconst 1, []), some (1, .iadd, .iadd, []), some (1, .iaload, .iaload, []), 
  some (1, .aload_n 3, .aload_n 3, []), some (3, .invokestatic 99, .invokestatic 133, [670, 671]), none, none, some (2, .istore 5, .istore 5, []), none, 
  some (1, .aload_n 2, .aload_n 2, []), some (1, .aload_n 0, .aload_n 0, []), some (2, .iload 4, .iload 4, []), none, some (1, .iconst 1, .iconst 1, []), 
  some (1, .iadd, .iadd, []), some (1, .iaload, .iaload, []), some (3, .invokevirtual 101, .invokevirtual 118, [987, 988, 989]), none, none, some (2, .istore 6, .istore 6, []), 
  none, some (1, .aload_n 2, .aload_n 2, []), some (3, .invokevirtual 69, .invokevirtual 82, [843, 844, 845]), none, none, some (2, .iload 5, .iload 5, []), 
  none, some (3, .if_icmp .eq 5, .if_icmp .eq 658, []), none, none, some (1, .iconst 0, .iconst 0, []), some (1, .ireturn, .ireturn, []), some (2, .iload 5, .iload 5, []), 
  none, some (3, .ifCond .ne 22, .ifCond .ne 682, []), none, none, some (1, .aload_n 3, .aload_n 3, []), some (1, .iconst 0, .iconst 0, []), some (1, .laload, .laload, []), 
  some (2, .iload 6, .iload 6, []), none, some (3, .ifCond .eq 7, .ifCond .eq 675, []), none, none, some (1, .lconst 1, .lconst 1, []), some (3, .goto 4, .goto 676, []), 
  none, none, some (1, .lconst 0, .lconst 0, []), some (1, .lcmp, .lcmp, []), some (3, .ifCond .eq 5, .ifCond .eq 682, []), none, none, some (1, .iconst 0, .iconst 0, []), 
  some (1, .ireturn, .ireturn, []), some (3, .goto 440, .goto 1122, []), none, none, some (1, .aload_n 1, .aload_n 1, []), some (1, .aload_n 0, .aload_n 0, []), 
  some (2, .iload 4, .iload 4, []), none, some (1, .iconst 1, .iconst 1, []), some (1, .iadd, .iadd, []), some (1, .iaload, .iaload, []), some (1, .aload_n 3, .aload_n 3, []), 
  some (3, .invokestatic 102, .invokestatic 134, [685, 686]), none, none, some (2, .istore 5, .istore 5, []), none, some (1, .aload_n 2, .aload_n 2, []), 
  some (1, .aload_n 0, .aload_n 0, []), some (2, .iload 4, .iload 4, []), none, some (1, .iconst 1, .iconst 1, []), some (1, .iadd, .iadd, []), some (1, .iaload, .iaload, []), 
  some (3, .invokevirtual 104, .invokevirtual 119, [991, 992, 993]), none, none, some (2, .lstore 6, .lstore 6, []), none, some (1, .aload_n 2, .aload_n 2, []), 
  some (3, .invokevirtual 69, .invokevirtual 82, [843, 844, 845]), none, none, some (2, .iload 5, .iload 5, []), none, some (3, .if_icmp .eq 5, .if_icmp .eq 721, []), 
  none, none, some (1, .iconst 0, .iconst 0, []), some (1, .ireturn, .ireturn, []), some (2, .iload 5, .iload 5, []), none, some (3, .ifCond .ne 14, .ifCond .ne 737, []), 
  none, none, some (1, .aload_n 3, .aload_n 3, []), some (1, .iconst 0, .iconst 0, []), some (1, .laload, .laload, []), some (2, .lload 6, .lload 6, []), 
  none, some (1, .lcmp, .lcmp, []), some (3, .ifCond .eq 5, .ifCond .eq 737, []), none, none, some (1, .iconst 0, .iconst 0, []), some (1, .ireturn, .ireturn, []), 
  some (3, .goto 385, .goto 1122, []), none, none, some (1, .aload_n 1, .aload_n 1, []), some (1, .aload_n 0, .aload_n 0, []), some (2, .iload 4, .iload 4, []), 
  none, some (1, .iconst 1, .iconst 1, []), some (1, .iadd, .iadd, []), some (1, .iaload, .iaload, []), some (1, .aload_n 0, .aload_n 0, []), some (2, .iload 4, .iload 4, []), 
  none, some (1, .iconst 2, .iconst 2, []), some (1, .iadd, .iadd, []), some (1, .iaload, .iaload, []), some (1, .aload_n 3, .aload_n 3, []), some (3, .invokestatic 105, .invokestatic 135, [706, 707]), 
  none, none, some (2, .istore 5, .istore 5, []), none, some (1, .aload_n 2, .aload_n 2, []), some (1, .aload_n 0, .aload_n 0, []), some (2, .iload 4, .iload 4, []), 
  none, some (1, .iconst 1, .iconst 1, []), some (1, .iadd, .iadd, []), some (1, .iaload, .iaload, []), some (1, .aload_n 0, .aload_n 0, []), some (2, .iload 4, .iload 4, []), 
  none, some (1, .iconst 2, .iconst 2, []), some (1, .iadd, .iadd, []), some (1, .iaload, .iaload, []), some (3, .invokevirtual 108, .invokevirtual 120, [995, 996, 997]), 
  none, none, some (2, .istore 6, .istore 6, []), none, some (1, .aload_n 2, .aload_n 2, []), some (3, .invokevirtual 69, .invokevirtual 82, [843, 844, 845]), 
  none, none, some (2, .iload 5, .iload 5, []), none, some (3, .if_icmp .eq 5, .if_icmp .eq 788, []), none, none, some (1, .iconst 0, .iconst 0, []), some (1, .ireturn, .ireturn, []), 
  some (2, .iload 5, .iload 5, []), none, some (3, .ifCond .ne 15, .ifCond .ne 805, []), none, none, some (1, .aload_n 3, .aload_n 3, []), some (1, .iconst 0, .iconst 0, []), 
  some (1, .laload, .laload, []), some (2, .iload 6, .iload 6, []), none, some (1, .i2l, .i2l, []), some (1, .lcmp, .lcmp, []), some (3, .ifCond .eq 5, .ifCond .eq 805, []), 
  none, none, some (1, .iconst 0, .iconst 0, []), some (1, .ireturn, .ireturn, []), some (3, .goto 317, .goto 1122, []), none, none, some (1, .aload_n 1, .aload_n 1, []), 
  some (1, .aload_n 0, .aload_n 0, []), some (2, .iload 4, .iload 4, []), none, some (1, .iconst 1, .iconst 1, []), some (1, .iadd, .iadd, []), some (1, .iaload, .iaload, []), 
  some (1, .aload_n 0, .aload_n 0, []), some (2, .iload 4, .iload 4, []), none, some (1, .iconst 2, .iconst 2, []), some (1, .iadd, .iadd, []), some (1, .iaload, .iaload, []), 
  some (1, .aload_n 3, .aload_n 3, []), some (3, .invokestatic 109, .invokestatic 136, [713, 714]), none, none, some (2, .istore 5, .istore 5, []), none, 
  some (1, .aload_n 2, .aload_n 2, []), some (1, .aload_n 0, .aload_n 0, []), some (2, .iload 4, .iload 4, []), none, some (1, .iconst 1, .iconst 1, []), 
  some (1, .iadd, .iadd, []), some (1, .iaload, .iaload, []), some (1, .aload_n 0, .aload_n 0, []), some (2, .iload 4, .iload 4, []), none, some (1, .iconst 2, .iconst 2, []), 
  some (1, .iadd, .iadd, []), some (1, .iaload, .iaload, []), some (3, .invokevirtual 111, .invokevirtual 121, [999, 1000, 1001]), none, none, some (2, .istore 6, .istore 6, []), 
  none, some (1, .aload_n 2, .aload_n 2, []), some (3, .invokevirtual 69, .invokevirtual 82, [843, 844, 845]), none, none, some (2, .iload 5, .iload 5, []), 
  none, some (3, .if_icmp .eq 5, .if_icmp .eq 856, []), none, none, some (1, .iconst 0, .iconst 0, []), some (1, .ireturn, .ireturn, []), some (2, .iload 5, .iload 5, []), 
  none, some (3, .ifCond .ne 15, .ifCond .ne 873, []), none, none, some (1, .aload_n 3, .aload_n 3, []), some (1, .iconst 0, .iconst 0, []), some (1, .laload, .laload, []), 
  some (2, .iload 6, .iload 6, []), none, some (1, .i2l, .i2l, []), some (1, .lcmp, .lcmp, []), some (3, .ifCond .eq 5, .ifCond .eq 873, []), none, none, 
  some (1, .iconst 0, .iconst 0, []), some (1, .ireturn, .ireturn, []), some (3, .goto 249, .goto 1122, []), none, none, some (1, .aload_n 1, .aload_n 1, []), 
  some (1, .aload_n 0, .aload_n 0, []), some (2, .iload 4, .iload 4, []), none, some (1, .iconst 1, .iconst 1, []), some (1, .iadd, .iadd, []), some (1, .iaload, .iaload, []), 
  some (1, .aload_n 0, .aload_n 0, []), some (2, .iload 4, .iload 4, []), none, some (1, .iconst 2, .iconst 2, []), some (1, .iadd, .iadd, []), some (1, .iaload, .iaload, []), 
  some (3, .ifCond .eq 7, .ifCond .eq 896, []), none, none, some (1, .iconst 1, .iconst 1, []), some (3, .goto 4, .goto 897, []), none, none, some (1, .iconst 0, .iconst 0, []), 
  some (1, .aload_n 3, .aload_n 3, []), some (3, .invokestatic 112, .invokestatic 137, [720, 721]), none, none, some (2, .istore 5, .istore 5, []), none, 
  some (1, .aload_n 2, .aload_n 2, []), some (1, .aload_n 0, .aload_n 0, []), some (2, .iload 4, .iload 4, []), none, some (1, .iconst 1, .iconst 1, []), 
  some (1, .iadd, .iadd, []), some (1, .iaload, .iaload, []), some (1, .aload_n 0, .aload_n 0, []), some (2, .iload 4, .iload 4, []), none, some (1, .iconst 2, .iconst 2, []), 
  some (1, .iadd, .iadd, []), some (1, .iaload, .iaload, []), some (3, .ifCond .eq 7, .ifCond .eq 923, []), none, none, some (1, .iconst 1, .iconst 1, []), 
  some (3, .goto 4, .goto 924, []), none, none, some (1, .iconst 0, .iconst 0, []), some (3, .invokevirtual 115, .invokevirtual 122, [1003, 1004, 1005]), 
  none, none, some (2, .istore 6, .istore 6, []), none, some (1, .aload_n 2, .aload_n 2, []), some (3, .invokevirtual 69, .invokevirtual 82, [843, 844, 845]), 
  none, none, some (2, .iload 5, .iload 5, []), none, some (3, .if_icmp .eq 5, .if_icmp .eq 940, []), none, none, some (1, .iconst 0, .iconst 0, []), some (1, .ireturn, .ireturn, []), 
  some (2, .iload 5, .iload 5, []), none, some (3, .ifCond .ne 15, .ifCond .ne 957, []), none, none, some (1, .aload_n 3, .aload_n 3, []), some (1, .iconst 0, .iconst 0, []), 
  some (1, .laload, .laload, []), some (2, .iload 6, .iload 6, []), none, some (1, .i2l, .i2l, []), some (1, .lcmp, .lcmp, []), some (3, .ifCond .eq 5, .ifCond .eq 957, []), 
  none, none, some (1, .iconst 0, .iconst 0, []), some (1, .ireturn, .ireturn, []), some (3, .goto 165, .goto 1122, []), none, none, some (1, .aload_n 1, .aload_n 1, []), 
  some (1, .aload_n 0, .aload_n 0, []), some (2, .iload 4, .iload 4, []), none, some (1, .iconst 1, .iconst 1, []), some (1, .iadd, .iadd, []), some (1, .iaload, .iaload, []), 
  some (3, .invokevirtual 116, .invokevirtual 62, [353, 354, 355]), none, none, some (1, .aload_n 2, .aload_n 2, []), some (1, .aload_n 0, .aload_n 0, []), 
  some (2, .iload 4, .iload 4, []), none, some (1, .iconst 1, .iconst 1, []), some (1, .iadd, .iadd, []), some (1, .iaload, .iaload, []), some (3, .invokevirtual 119, .invokevirtual 123, [1007, 1008, 1009]), 
  none, none, some (3, .if_icmp .eq 142, .if_icmp .eq 1122, []), none, none, some (1, .iconst 0, .iconst 0, []), some (1, .ireturn, .ireturn, []), some (1, .aload_n 1, .aload_n 1, []), 
  some (1, .aload_n 0, .aload_n 0, []), some (2, .iload 4, .iload 4, []), none, some (1, .iconst 1, .iconst 1, []), some (1, .iadd, .iadd, []), some (1, .iaload, .iaload, []), 
  some (1, .aload_n 3, .aload_n 3, []), some (3, .invokestatic 120, .invokestatic 138, [727, 728]), none, none, some (2, .istore 5, .istore 5, []), none, 
  some (1, .aload_n 2, .aload_n 2, []), some (1, .aload_n 0, .aload_n 0, []), some (2, .iload 4, .iload 4, []), none, some (1, .iconst 1, .iconst 1, []), 
  some (1, .iadd, .iadd, []), some (1, .iaload, .iaload, []), some (3, .invokevirtual 122, .invokevirtual 124, [1011, 1012, 1013]), none, none, some (2, .istore 6, .istore 6, []), 
  none, some (1, .aload_n 2, .aload_n 2, []), some (3, .invokevirtual 69, .invokevirtual 82, [843, 844, 845]), none, none, some (2, .iload 5, .iload 5, []), 
  none, some (3, .if_icmp .eq 5, .if_icmp .eq 1021, []), none, none, some (1, .iconst 0, .iconst 0, []), some (1, .ireturn, .ireturn, []), some (2, .iload 5, .iload 5, []), 
  none, some (3, .ifCond .ne 15, .ifCond .ne 1038, []), none, none, some (1, .aload_n 3, .aload_n 3, []), some (1, .iconst 0, .iconst 0, []), some (1, .laload, .laload, []), 
  some (2, .iload 6, .iload 6, []), none, some (1, .i2l, .i2l, []), some (1, .lcmp, .lcmp, []), some (3, .ifCond .eq 5, .ifCond .eq 1038, []), none, none, 
  some (1, .iconst 0, .iconst 0, []), some (1, .ireturn, .ireturn, []), some (3, .goto 84, .goto 1122, []), none, none, some (1, .aload_n 1, .aload_n 1, []), 
  some (1, .aload_n 0, .aload_n 0, []), some (2, .iload 4, .iload 4, []), none, some (1, .iconst 1, .iconst 1, []), some (1, .iadd, .iadd, []), some (1, .iaload, .iaload, []), 
  some (1, .aload_n 0, .aload_n 0, []), some (2, .iload 4, .iload 4, []), none, some (1, .iconst 2, .iconst 2, []), some (1, .iadd, .iadd, []), some (1, .iaload, .iaload, []), 
  some (1, .aload_n 3, .aload_n 3, []), some (3, .invokestatic 123, .invokestatic 139, [734, 735]), none, none, some (2, .istore 5, .istore 5, []), none, 
  some (1, .aload_n 2, .aload_n 2, []), some (1, .aload_n 0, .aload_n 0, []), some (2, .iload 4, .iload 4, []), none, some (1, .iconst 1, .iconst 1, []), 
  some (1, .iadd, .iadd, []), some (1, .iaload, .iaload, []), some (1, .aload_n 0, .aload_n 0, []), some (2, .iload 4, .iload 4, []), none, some (1, .iconst 2, .iconst 2, []), 
  some (1, .iadd, .iadd, []), some (1, .iaload, .iaload, []), some (3, .invokevirtual 125, .invokevirtual 125, [1015, 1016, 1017]), none, none, some (2, .istore 6, .istore 6, []), 
  none, some (1, .aload_n 2, .aload_n 2, []), some (3, .invokevirtual 69, .invokevirtual 82, [843, 844, 845]), none, none, some (2, .iload 5, .iload 5, []), 
  none, some (3, .if_icmp .eq 5, .if_icmp .eq 1089, []), none, none, some (1, .iconst 0, .iconst 0, []), some (1, .ireturn, .ireturn, []), some (2, .iload 5, .iload 5, []), 
  none, some (3, .ifCond .ne 15, .ifCond .ne 1106, []), none, none, some (1, .aload_n 3, .aload_n 3, []), some (1, .iconst 0, .iconst 0, []), some (1, .laload, .laload, []), 
  some (2, .iload 6, .iload 6, []), none, some (1, .i2l, .i2l, []), some (1, .lcmp, .lcmp, []), some (3, .ifCond .eq 5, .ifCond .eq 1106, []), none, none, 
  some (1, .iconst 0, .iconst 0, []), some (1, .ireturn, .ireturn, []), some (3, .goto 16, .goto 1122, []), none, none, some (1, .aload_n 1, .aload_n 1, []), 
  some (3, .invokevirtual 126, .invokevirtual 63, [361, 362, 363]), none, none, some (1, .aload_n 2, .aload_n 2, []), some (3, .invokevirtual 129, .invokevirtual 126, [1019, 1020, 1021]), 
  none, none, some (3, .if_icmp .eq 5, .if_icmp .eq 1122, []), none, none, some (1, .iconst 0, .iconst 0, []), some (1, .ireturn, .ireturn, []), some (3, .iinc 4 6, .iinc 4 6, []), 
  none, none, some (3, .goto (-1102), .goto 23, []), none, none, some (1, .iconst 1, .iconst 1, []), some (1, .ireturn, .ireturn, [])])
def mt_ms : List mv_J := [mj_Ac_init, mj_Ab_init, mj_Al_init, mj_Al_size, mj_Al_add, mj_Al_add_5, mj_Al_grow, mj_Al_grow_7, mj_Al_get, mj_Al_elementData, mj_As_copyOf, mj_As_copyOf_11, mj_Ob_checkIndex, mj_Ma_max, mj_Ma_min, mj_Su_newLength, mj_Pr_checkIndex, mj_Rq_init, mj_Ty_sumOfSizes, mj_Ty_init, mj_Ty_sizeOf, mj_Ty_rankOf, mj_Br_init, mj_Br_isClosed, mj_Br_isAtOrBelow, mj_Br_sumToLay, mj_Br_isSlotEmpty, mj_Ca_takeOut, mj_Ca_isThere, mj_Ca_holds, mj_Ca_init, mj_Ca_loseFrom, mj_Ca_doPiece, mj_Ca_finishFirst, mj_St_init, mj_St_gather, mj_St_add, mj_St_addRanges, mj_St_become, mj_St_placeFor, mj_St_isFree, mj_PT_init, mj_PT_step, mj_PT_dismissLeaving, mj_PT_examine, mj_PT_exceedsPower, mj_PT_powerUsed, mj_PT_refuse, mj_PT_fits, mj_PT_grows, mj_PT_growsFrom, mj_PT_settleIn, mj_PT_canAllPause, mj_PT_measureBlocks, mj_PT_blockFor, mj_PT_turnAll, mj_PT_isSomeRequestStarted, mj_PT_moveAll, mj_PT_layOut, mj_PT_layRanges, mj_PT_layBlock, mj_PT_settle, mj_PT_decode, mj_PT_moved, mj_PT_bridge, mj_PT_bridgeNumbered, mj_PT_requireWithin, mj_PT_requireSlot, mj_PT_type, mj_PT_plug, mj_PT_pull, mj_PT_cardNumbered, mj_PT_leave, mj_PT_request, mj_PT_work, mj_PT_result, mj_PT_card, mj_PT_range, mj_PT_opening, mj_PT_power, mj_PT_slot, mj_Mo_init, mj_Mo_thrown, mj_Mo_bridge, mj_Mo_isBridge, mj_Mo_within, mj_Mo_depthOf, mj_Mo_type, mj_Mo_plug, mj_Mo_step, mj_Mo_goOn, mj_Mo_remove, mj_Mo_check, mj_Mo_powerOf, mj_Mo_isThere, mj_Mo_hangsUnder, mj_Mo_refuse, mj_Mo_fits, mj_Mo_lookAt, mj_Mo_mark, mj_Mo_sizeOf, mj_Mo_placeFor, mj_Mo_grows, mj_Mo_growsFrom, mj_Mo_isFree, mj_Mo_measure, mj_Mo_laidBy, mj_Mo_change, mj_Mo_moveAll, mj_Mo_plan, mj_Mo_settle, mj_Mo_pull, mj_Mo_isCard, mj_Mo_lose, mj_Mo_leave, mj_Mo_firstOf, mj_Mo_request, mj_Mo_waiting, mj_Mo_work, mj_Mo_result, mj_Mo_card, mj_Mo_range, mj_Mo_opening, mj_Mo_decode, mj_Mo_power, mj_Mo_slot, mj_Mo_moved, mj_Lw_bridge, mj_Lw_type, mj_Lw_plug, mj_Lw_pull, mj_Lw_leave, mj_Lw_request, mj_Lw_work, mj_Lw_result, mj_Lw_card, mj_Lw_range, mj_Lw_opening, mj_Lw_power, mj_Lw_slot, mj_Lw_law]
def mt_tb : List Cond := lw_tbl ++ [Cond.code x code maxLocals ret]
end
section
theorem mt_c_PT : mb_cl mt_tb mk_PT [189, 191, 193, 195, 197, 199, 201, 203, 205, 207, 209, 211, 213, 215] = true := by decide +kernel
theorem mt_c_Br : mb_cl mt_tb mk_Br [156, 158, 160, 162, 164, 166, 168, 170, 172] = true := by decide +kernel
theorem mt_c_Ty : mb_cl mt_tb mk_Ty [493, 495, 497, 499] = true := by decide +kernel
theorem mt_c_Ca : mb_cl mt_tb mk_Ca [537, 539, 541, 543, 545, 547, 549, 551, 553, 555, 557] = true := by decide +kernel
theorem mt_c_Rq : mb_cl mt_tb mk_Rq [608, 610, 612] = true := by decide +kernel
theorem mt_c_St : mb_cl mt_tb mk_St [118, 120, 122] = true := by decide +kernel
theorem mt_c_Mo : mb_cl mt_tb mk_Mo [778, 780, 782, 784, 786, 788, 790, 792, 794, 796, 798, 800, 802, 804, 806, 808, 810, 812, 814, 816, 818, 820, 822, 824, 826, 828, 830, 832, 834, 836, 838] = true := by decide +kernel
theorem mt_c_Al : mb_cl mt_tb mk_Al [102, 104, 106] = true := by decide +kernel
theorem mt_c_Ia : mb_cl mt_tb mk_Ia [] = true := by decide +kernel
theorem mt_c_Is : mb_cl mt_tb mk_Is [] = true := by decide +kernel
theorem mt_m_0 : mb_meth mt_cl mt_ty mt_tb mt_ms mj_Ac_init 93 49 [] = true := by decide +kernel
theorem mt_m_1 : mb_meth mt_cl mt_ty mt_tb mt_ms mj_Ab_init 90 50 [] = true := by decide +kernel
theorem mt_m_2 : mb_meth mt_cl mt_ty mt_tb mt_ms mj_Al_init 87 51 [] = true := by decide +kernel
theorem mt_m_3 : mb_meth mt_cl mt_ty mt_tb mt_ms mj_Al_size 593 51 [] = true := by decide +kernel
theorem mt_m_4 : mb_meth mt_cl mt_ty mt_tb mt_ms mj_Al_add 618 51 [] = true := by decide +kernel
theorem mt_m_5 : mb_meth mt_cl mt_ty mt_tb mt_ms mj_Al_add_5 622 51 [] = true := by decide +kernel
theorem mt_m_6 : mb_meth mt_cl mt_ty mt_tb mt_ms mj_Al_grow 626 51 [] = true := by decide +kernel
theorem mt_m_7 : mb_meth mt_cl mt_ty mt_tb mt_ms mj_Al_grow_7 630 51 [] = true := by decide +kernel
theorem mt_m_8 : mb_meth mt_cl mt_ty mt_tb mt_ms mj_Al_get 695 51 [] = true := by decide +kernel
theorem mt_m_9 : mb_meth mt_cl mt_ty mt_tb mt_ms mj_Al_elementData 705 51 [] = true := by decide +kernel
theorem mt_m_10 : mb_meth mt_cl mt_ty mt_tb mt_ms mj_As_copyOf 643 66 [] = true := by decide +kernel
theorem mt_m_11 : mb_meth mt_cl mt_ty mt_tb mt_ms mj_As_copyOf_11 660 66 [] = true := by decide +kernel
theorem mt_m_12 : mb_meth mt_cl mt_ty mt_tb mt_ms mj_Ob_checkIndex 698 67 [] = true := by decide +kernel
theorem mt_m_13 : mb_meth mt_cl mt_ty mt_tb mt_ms mj_Ma_max 636 65 [] = true := by decide +kernel
theorem mt_m_14 : mb_meth mt_cl mt_ty mt_tb mt_ms mj_Ma_min 666 65 [] = true := by decide +kernel
theorem mt_m_15 : mb_meth mt_cl mt_ty mt_tb mt_ms mj_Su_newLength 633 64 [] = true := by decide +kernel
theorem mt_m_16 : mb_meth mt_cl mt_ty mt_tb mt_ms mj_Pr_checkIndex 701 68 [] = true := by decide +kernel
theorem mt_m_17 : mb_meth mt_cl mt_ty mt_tb mt_ms mj_Rq_init 598 63 [] = true := by decide +kernel
theorem mt_m_18 : mb_meth mt_cl mt_ty mt_tb mt_ms mj_Ty_sumOfSizes 320 60 [] = true := by decide +kernel
theorem mt_m_19 : mb_meth mt_cl mt_ty mt_tb mt_ms mj_Ty_init 475 60 [] = true := by decide +kernel
theorem mt_m_20 : mb_meth mt_cl mt_ty mt_tb mt_ms mj_Ty_sizeOf 479 60 [] = true := by decide +kernel
theorem mt_m_21 : mb_meth mt_cl mt_ty mt_tb mt_ms mj_Ty_rankOf 482 60 [] = true := by decide +kernel
theorem mt_m_22 : mb_meth mt_cl mt_ty mt_tb mt_ms mj_Br_init 129 53 [] = true := by decide +kernel
theorem mt_m_23 : mb_meth mt_cl mt_ty mt_tb mt_ms mj_Br_isClosed 241 53 [] = true := by decide +kernel
theorem mt_m_24 : mb_meth mt_cl mt_ty mt_tb mt_ms mj_Br_isAtOrBelow 266 53 [] = true := by decide +kernel
theorem mt_m_25 : mb_meth mt_cl mt_ty mt_tb mt_ms mj_Br_sumToLay 316 53 [] = true := by decide +kernel
theorem mt_m_26 : mb_meth mt_cl mt_ty mt_tb mt_ms mj_Br_isSlotEmpty 449 53 [] = true := by decide +kernel
theorem mt_m_27 : mb_meth mt_cl mt_ty mt_tb mt_ms mj_Ca_takeOut 229 61 [] = true := by decide +kernel
theorem mt_m_28 : mb_meth mt_cl mt_ty mt_tb mt_ms mj_Ca_isThere 249 61 [] = true := by decide +kernel
theorem mt_m_29 : mb_meth mt_cl mt_ty mt_tb mt_ms mj_Ca_holds 360 61 [] = true := by decide +kernel
theorem mt_m_30 : mb_meth mt_cl mt_ty mt_tb mt_ms mj_Ca_init 512 61 [] = true := by decide +kernel
theorem mt_m_31 : mb_meth mt_cl mt_ty mt_tb mt_ms mj_Ca_loseFrom 574 61 [] = true := by decide +kernel
theorem mt_m_32 : mb_meth mt_cl mt_ty mt_tb mt_ms mj_Ca_doPiece 680 61 [] = true := by decide +kernel
theorem mt_m_33 : mb_meth mt_cl mt_ty mt_tb mt_ms mj_Ca_finishFirst 684 61 [] = true := by decide +kernel
theorem mt_m_34 : mb_meth mt_cl mt_ty mt_tb mt_ms mj_St_init 113 52 [] = true := by decide +kernel
theorem mt_m_35 : mb_meth mt_cl mt_ty mt_tb mt_ms mj_St_gather 237 52 [] = true := by decide +kernel
theorem mt_m_36 : mb_meth mt_cl mt_ty mt_tb mt_ms mj_St_add 245 52 [] = true := by decide +kernel
theorem mt_m_37 : mb_meth mt_cl mt_ty mt_tb mt_ms mj_St_addRanges 253 52 [] = true := by decide +kernel
theorem mt_m_38 : mb_meth mt_cl mt_ty mt_tb mt_ms mj_St_become 278 52 [] = true := by decide +kernel
theorem mt_m_39 : mb_meth mt_cl mt_ty mt_tb mt_ms mj_St_placeFor 285 52 [] = true := by decide +kernel
theorem mt_m_40 : mb_meth mt_cl mt_ty mt_tb mt_ms mj_St_isFree 299 52 [] = true := by decide +kernel
theorem mt_m_41 : mb_meth mt_cl mt_ty mt_tb mt_ms mj_PT_init 73 48 [] = true := by decide +kernel
theorem mt_m_42 : mb_meth mt_cl mt_ty mt_tb mt_ms mj_PT_step 221 48 [] = true := by decide +kernel
theorem mt_m_43 : mb_meth mt_cl mt_ty mt_tb mt_ms mj_PT_dismissLeaving 225 48 [] = true := by decide +kernel
theorem mt_m_44 : mb_meth mt_cl mt_ty mt_tb mt_ms mj_PT_examine 233 48 [] = true := by decide +kernel
theorem mt_m_45 : mb_meth mt_cl mt_ty mt_tb mt_ms mj_PT_exceedsPower 257 48 [] = true := by decide +kernel
theorem mt_m_46 : mb_meth mt_cl mt_ty mt_tb mt_ms mj_PT_powerUsed 261 48 [] = true := by decide +kernel
theorem mt_m_47 : mb_meth mt_cl mt_ty mt_tb mt_ms mj_PT_refuse 270 48 [] = true := by decide +kernel
theorem mt_m_48 : mb_meth mt_cl mt_ty mt_tb mt_ms mj_PT_fits 274 48 [] = true := by decide +kernel
theorem mt_m_49 : mb_meth mt_cl mt_ty mt_tb mt_ms mj_PT_grows 290 48 [] = true := by decide +kernel
end
section
theorem mt_m_50 : mb_meth mt_cl mt_ty mt_tb mt_ms mj_PT_growsFrom 295 48 [] = true := by decide +kernel
theorem mt_m_51 : mb_meth mt_cl mt_ty mt_tb mt_ms mj_PT_settleIn 303 48 [] = true := by decide +kernel
theorem mt_m_52 : mb_meth mt_cl mt_ty mt_tb mt_ms mj_PT_canAllPause 308 48 [] = true := by decide +kernel
theorem mt_m_53 : mb_meth mt_cl mt_ty mt_tb mt_ms mj_PT_measureBlocks 312 48 [] = true := by decide +kernel
theorem mt_m_54 : mb_meth mt_cl mt_ty mt_tb mt_ms mj_PT_blockFor 323 48 [] = true := by decide +kernel
theorem mt_m_55 : mb_meth mt_cl mt_ty mt_tb mt_ms mj_PT_turnAll 328 48 [] = true := by decide +kernel
theorem mt_m_56 : mb_meth mt_cl mt_ty mt_tb mt_ms mj_PT_isSomeRequestStarted 332 48 [] = true := by decide +kernel
theorem mt_m_57 : mb_meth mt_cl mt_ty mt_tb mt_ms mj_PT_moveAll 336 48 [] = true := by decide +kernel
theorem mt_m_58 : mb_meth mt_cl mt_ty mt_tb mt_ms mj_PT_layOut 340 48 [] = true := by decide +kernel
theorem mt_m_59 : mb_meth mt_cl mt_ty mt_tb mt_ms mj_PT_layRanges 344 48 [] = true := by decide +kernel
theorem mt_m_60 : mb_meth mt_cl mt_ty mt_tb mt_ms mj_PT_layBlock 347 48 [] = true := by decide +kernel
theorem mt_m_61 : mb_meth mt_cl mt_ty mt_tb mt_ms mj_PT_settle 351 48 [] = true := by decide +kernel
theorem mt_m_62 : mb_meth mt_cl mt_ty mt_tb mt_ms mj_PT_decode 356 48 [] = true := by decide +kernel
theorem mt_m_63 : mb_meth mt_cl mt_ty mt_tb mt_ms mj_PT_moved 364 48 [] = true := by decide +kernel
theorem mt_m_64 : mb_meth mt_cl mt_ty mt_tb mt_ms mj_PT_bridge 373 48 [] = true := by decide +kernel
theorem mt_m_65 : mb_meth mt_cl mt_ty mt_tb mt_ms mj_PT_bridgeNumbered 377 48 [] = true := by decide +kernel
theorem mt_m_66 : mb_meth mt_cl mt_ty mt_tb mt_ms mj_PT_requireWithin 380 48 [] = true := by decide +kernel
theorem mt_m_67 : mb_meth mt_cl mt_ty mt_tb mt_ms mj_PT_requireSlot 445 48 [] = true := by decide +kernel
theorem mt_m_68 : mb_meth mt_cl mt_ty mt_tb mt_ms mj_PT_type 471 48 [] = true := by decide +kernel
theorem mt_m_69 : mb_meth mt_cl mt_ty mt_tb mt_ms mj_PT_plug 508 48 [] = true := by decide +kernel
theorem mt_m_70 : mb_meth mt_cl mt_ty mt_tb mt_ms mj_PT_pull 566 48 [] = true := by decide +kernel
theorem mt_m_71 : mb_meth mt_cl mt_ty mt_tb mt_ms mj_PT_cardNumbered 570 48 [] = true := by decide +kernel
theorem mt_m_72 : mb_meth mt_cl mt_ty mt_tb mt_ms mj_PT_leave 582 48 [] = true := by decide +kernel
theorem mt_m_73 : mb_meth mt_cl mt_ty mt_tb mt_ms mj_PT_request 589 48 [] = true := by decide +kernel
theorem mt_m_74 : mb_meth mt_cl mt_ty mt_tb mt_ms mj_PT_work 676 48 [] = true := by decide +kernel
theorem mt_m_75 : mb_meth mt_cl mt_ty mt_tb mt_ms mj_PT_result 691 48 [] = true := by decide +kernel
theorem mt_m_76 : mb_meth mt_cl mt_ty mt_tb mt_ms mj_PT_card 712 48 [] = true := by decide +kernel
theorem mt_m_77 : mb_meth mt_cl mt_ty mt_tb mt_ms mj_PT_range 719 48 [] = true := by decide +kernel
theorem mt_m_78 : mb_meth mt_cl mt_ty mt_tb mt_ms mj_PT_opening 726 48 [] = true := by decide +kernel
theorem mt_m_79 : mb_meth mt_cl mt_ty mt_tb mt_ms mj_PT_power 733 48 [] = true := by decide +kernel
theorem mt_m_80 : mb_meth mt_cl mt_ty mt_tb mt_ms mj_PT_slot 740 48 [] = true := by decide +kernel
theorem mt_m_81 : mb_meth mt_cl mt_ty mt_tb mt_ms mj_Mo_init 745 54 [] = true := by decide +kernel
theorem mt_m_82 : mb_meth mt_cl mt_ty mt_tb mt_ms mj_Mo_thrown 846 54 [] = true := by decide +kernel
theorem mt_m_83 : mb_meth mt_cl mt_ty mt_tb mt_ms mj_Mo_bridge 850 54 [] = true := by decide +kernel
theorem mt_m_84 : mb_meth mt_cl mt_ty mt_tb mt_ms mj_Mo_isBridge 854 54 [] = true := by decide +kernel
theorem mt_m_85 : mb_meth mt_cl mt_ty mt_tb mt_ms mj_Mo_within 857 54 [] = true := by decide +kernel
theorem mt_m_86 : mb_meth mt_cl mt_ty mt_tb mt_ms mj_Mo_depthOf 861 54 [] = true := by decide +kernel
theorem mt_m_87 : mb_meth mt_cl mt_ty mt_tb mt_ms mj_Mo_type 865 54 [] = true := by decide +kernel
theorem mt_m_88 : mb_meth mt_cl mt_ty mt_tb mt_ms mj_Mo_plug 869 54 [] = true := by decide +kernel
theorem mt_m_89 : mb_meth mt_cl mt_ty mt_tb mt_ms mj_Mo_step 873 54 [] = true := by decide +kernel
theorem mt_m_90 : mb_meth mt_cl mt_ty mt_tb mt_ms mj_Mo_goOn 877 54 [] = true := by decide +kernel
theorem mt_m_91 : mb_meth mt_cl mt_ty mt_tb mt_ms mj_Mo_remove 881 54 [] = true := by decide +kernel
theorem mt_m_92 : mb_meth mt_cl mt_ty mt_tb mt_ms mj_Mo_check 885 54 [] = true := by decide +kernel
theorem mt_m_93 : mb_meth mt_cl mt_ty mt_tb mt_ms mj_Mo_powerOf 889 54 [] = true := by decide +kernel
theorem mt_m_94 : mb_meth mt_cl mt_ty mt_tb mt_ms mj_Mo_isThere 893 54 [] = true := by decide +kernel
theorem mt_m_95 : mb_meth mt_cl mt_ty mt_tb mt_ms mj_Mo_hangsUnder 897 54 [] = true := by decide +kernel
theorem mt_m_96 : mb_meth mt_cl mt_ty mt_tb mt_ms mj_Mo_refuse 901 54 [] = true := by decide +kernel
theorem mt_m_97 : mb_meth mt_cl mt_ty mt_tb mt_ms mj_Mo_fits 905 54 [] = true := by decide +kernel
theorem mt_m_98 : mb_meth mt_cl mt_ty mt_tb mt_ms mj_Mo_lookAt 909 54 [] = true := by decide +kernel
theorem mt_m_99 : mb_meth mt_cl mt_ty mt_tb mt_ms mj_Mo_mark 912 54 [] = true := by decide +kernel
end
section
theorem mt_m_100 : mb_meth mt_cl mt_ty mt_tb mt_ms mj_Mo_sizeOf 916 54 [] = true := by decide +kernel
theorem mt_m_101 : mb_meth mt_cl mt_ty mt_tb mt_ms mj_Mo_placeFor 920 54 [] = true := by decide +kernel
theorem mt_m_102 : mb_meth mt_cl mt_ty mt_tb mt_ms mj_Mo_grows 924 54 [] = true := by decide +kernel
theorem mt_m_103 : mb_meth mt_cl mt_ty mt_tb mt_ms mj_Mo_growsFrom 928 54 [] = true := by decide +kernel
theorem mt_m_104 : mb_meth mt_cl mt_ty mt_tb mt_ms mj_Mo_isFree 932 54 [] = true := by decide +kernel
theorem mt_m_105 : mb_meth mt_cl mt_ty mt_tb mt_ms mj_Mo_measure 936 54 [] = true := by decide +kernel
theorem mt_m_106 : mb_meth mt_cl mt_ty mt_tb mt_ms mj_Mo_laidBy 940 54 [] = true := by decide +kernel
theorem mt_m_107 : mb_meth mt_cl mt_ty mt_tb mt_ms mj_Mo_change 944 54 [] = true := by decide +kernel
theorem mt_m_108 : mb_meth mt_cl mt_ty mt_tb mt_ms mj_Mo_moveAll 948 54 [] = true := by decide +kernel
theorem mt_m_109 : mb_meth mt_cl mt_ty mt_tb mt_ms mj_Mo_plan 952 54 [] = true := by decide +kernel
theorem mt_m_110 : mb_meth mt_cl mt_ty mt_tb mt_ms mj_Mo_settle 956 54 [] = true := by decide +kernel
theorem mt_m_111 : mb_meth mt_cl mt_ty mt_tb mt_ms mj_Mo_pull 960 54 [] = true := by decide +kernel
theorem mt_m_112 : mb_meth mt_cl mt_ty mt_tb mt_ms mj_Mo_isCard 964 54 [] = true := by decide +kernel
theorem mt_m_113 : mb_meth mt_cl mt_ty mt_tb mt_ms mj_Mo_lose 968 54 [] = true := by decide +kernel
theorem mt_m_114 : mb_meth mt_cl mt_ty mt_tb mt_ms mj_Mo_leave 974 54 [] = true := by decide +kernel
theorem mt_m_115 : mb_meth mt_cl mt_ty mt_tb mt_ms mj_Mo_firstOf 978 54 [] = true := by decide +kernel
theorem mt_m_116 : mb_meth mt_cl mt_ty mt_tb mt_ms mj_Mo_request 982 54 [] = true := by decide +kernel
theorem mt_m_117 : mb_meth mt_cl mt_ty mt_tb mt_ms mj_Mo_waiting 986 54 [] = true := by decide +kernel
theorem mt_m_118 : mb_meth mt_cl mt_ty mt_tb mt_ms mj_Mo_work 990 54 [] = true := by decide +kernel
theorem mt_m_119 : mb_meth mt_cl mt_ty mt_tb mt_ms mj_Mo_result 994 54 [] = true := by decide +kernel
theorem mt_m_120 : mb_meth mt_cl mt_ty mt_tb mt_ms mj_Mo_card 998 54 [] = true := by decide +kernel
theorem mt_m_121 : mb_meth mt_cl mt_ty mt_tb mt_ms mj_Mo_range 1002 54 [] = true := by decide +kernel
theorem mt_m_122 : mb_meth mt_cl mt_ty mt_tb mt_ms mj_Mo_opening 1006 54 [] = true := by decide +kernel
theorem mt_m_123 : mb_meth mt_cl mt_ty mt_tb mt_ms mj_Mo_decode 1010 54 [] = true := by decide +kernel
theorem mt_m_124 : mb_meth mt_cl mt_ty mt_tb mt_ms mj_Mo_power 1014 54 [] = true := by decide +kernel
theorem mt_m_125 : mb_meth mt_cl mt_ty mt_tb mt_ms mj_Mo_slot 1018 54 [] = true := by decide +kernel
theorem mt_m_126 : mb_meth mt_cl mt_ty mt_tb mt_ms mj_Mo_moved 1022 54 [] = true := by decide +kernel
theorem mt_m_127 : mb_meth mt_cl mt_ty mt_tb mt_ms mj_Lw_bridge 367 47 [368, 369] = true := by decide +kernel
theorem mt_m_128 : mb_meth mt_cl mt_ty mt_tb mt_ms mj_Lw_type 467 47 [368, 369] = true := by decide +kernel
theorem mt_m_129 : mb_meth mt_cl mt_ty mt_tb mt_ms mj_Lw_plug 504 47 [368, 369] = true := by decide +kernel
theorem mt_m_130 : mb_meth mt_cl mt_ty mt_tb mt_ms mj_Lw_pull 562 47 [368, 369] = true := by decide +kernel
theorem mt_m_131 : mb_meth mt_cl mt_ty mt_tb mt_ms mj_Lw_leave 578 47 [368, 369] = true := by decide +kernel
theorem mt_m_132 : mb_meth mt_cl mt_ty mt_tb mt_ms mj_Lw_request 585 47 [368, 369] = true := by decide +kernel
theorem mt_m_133 : mb_meth mt_cl mt_ty mt_tb mt_ms mj_Lw_work 672 47 [368] = true := by decide +kernel
theorem mt_m_134 : mb_meth mt_cl mt_ty mt_tb mt_ms mj_Lw_result 687 47 [368] = true := by decide +kernel
theorem mt_m_135 : mb_meth mt_cl mt_ty mt_tb mt_ms mj_Lw_card 708 47 [368] = true := by decide +kernel
theorem mt_m_136 : mb_meth mt_cl mt_ty mt_tb mt_ms mj_Lw_range 715 47 [368] = true := by decide +kernel
theorem mt_m_137 : mb_meth mt_cl mt_ty mt_tb mt_ms mj_Lw_opening 722 47 [368] = true := by decide +kernel
theorem mt_m_138 : mb_meth mt_cl mt_ty mt_tb mt_ms mj_Lw_power 729 47 [368] = true := by decide +kernel
theorem mt_m_139 : mb_meth mt_cl mt_ty mt_tb mt_ms mj_Lw_slot 736 47 [368] = true := by decide +kernel
end
section
theorem mt_lini : mb_at mt_tb 47 (.initialized "PlugTreeLaw") = true := by decide +kernel
theorem mt_l1 : mb_rows mt_cl mt_ty mt_tb mt_ms mj_Lw_law 0 ((mj_c mj_Lw_law).take 60) = true := by decide +kernel
theorem mt_l2 : mb_rows mt_cl mt_ty mt_tb mt_ms mj_Lw_law 60 (((mj_c mj_Lw_law).drop 60).take 60) = true := by decide +kernel
theorem mt_l3 : mb_rows mt_cl mt_ty mt_tb mt_ms mj_Lw_law 120 ((((mj_c mj_Lw_law).drop 60).drop 60).take 60) = true := by decide +kernel
theorem mt_l4 : mb_rows mt_cl mt_ty mt_tb mt_ms mj_Lw_law 180 (((((mj_c mj_Lw_law).drop 60).drop 60).drop 60).take 60) = true := by decide +kernel
theorem mt_l5 : mb_rows mt_cl mt_ty mt_tb mt_ms mj_Lw_law 240 ((((((mj_c mj_Lw_law).drop 60).drop 60).drop 60).drop 60).take 60) = true := by decide +kernel
theorem mt_l6 : mb_rows mt_cl mt_ty mt_tb mt_ms mj_Lw_law 300 (((((((mj_c mj_Lw_law).drop 60).drop 60).drop 60).drop 60).drop 60).take 60) = true := by decide +kernel
theorem mt_l7 : mb_rows mt_cl mt_ty mt_tb mt_ms mj_Lw_law 360 ((((((((mj_c mj_Lw_law).drop 60).drop 60).drop 60).drop 60).drop 60).drop 60).take 60) = true := by decide +kernel
theorem mt_l8 : mb_rows mt_cl mt_ty mt_tb mt_ms mj_Lw_law 420 (((((((((mj_c mj_Lw_law).drop 60).drop 60).drop 60).drop 60).drop 60).drop 60).drop 60).take 60) = true := by decide +kernel
theorem mt_l9 : mb_rows mt_cl mt_ty mt_tb mt_ms mj_Lw_law 480 ((((((((((mj_c mj_Lw_law).drop 60).drop 60).drop 60).drop 60).drop 60).drop 60).drop 60).drop 60).take 60) = true := by decide +kernel
theorem mt_l10 : mb_rows mt_cl mt_ty mt_tb mt_ms mj_Lw_law 540 (((((((((((mj_c mj_Lw_law).drop 60).drop 60).drop 60).drop 60).drop 60).drop 60).drop 60).drop 60).drop 60).take 60) = true := by decide +kernel
theorem mt_l11 : mb_rows mt_cl mt_ty mt_tb mt_ms mj_Lw_law 600 ((((((((((((mj_c mj_Lw_law).drop 60).drop 60).drop 60).drop 60).drop 60).drop 60).drop 60).drop 60).drop 60).drop 60).take 60) = true := by decide +kernel
theorem mt_l12 : mb_rows mt_cl mt_ty mt_tb mt_ms mj_Lw_law 660 (((((((((((((mj_c mj_Lw_law).drop 60).drop 60).drop 60).drop 60).drop 60).drop 60).drop 60).drop 60).drop 60).drop 60).drop 60).take 60) = true := by decide +kernel
theorem mt_l13 : mb_rows mt_cl mt_ty mt_tb mt_ms mj_Lw_law 720 ((((((((((((((mj_c mj_Lw_law).drop 60).drop 60).drop 60).drop 60).drop 60).drop 60).drop 60).drop 60).drop 60).drop 60).drop 60).drop 60).take 60) = true := by decide +kernel
theorem mt_l14 : mb_rows mt_cl mt_ty mt_tb mt_ms mj_Lw_law 780 (((((((((((((((mj_c mj_Lw_law).drop 60).drop 60).drop 60).drop 60).drop 60).drop 60).drop 60).drop 60).drop 60).drop 60).drop 60).drop 60).drop 60).take 60) = true := by decide +kernel
theorem mt_l15 : mb_rows mt_cl mt_ty mt_tb mt_ms mj_Lw_law 840 ((((((((((((((((mj_c mj_Lw_law).drop 60).drop 60).drop 60).drop 60).drop 60).drop 60).drop 60).drop 60).drop 60).drop 60).drop 60).drop 60).drop 60).drop 60).take 60) = true := by decide +kernel
theorem mt_l16 : mb_rows mt_cl mt_ty mt_tb mt_ms mj_Lw_law 900 (((((((((((((((((mj_c mj_Lw_law).drop 60).drop 60).drop 60).drop 60).drop 60).drop 60).drop 60).drop 60).drop 60).drop 60).drop 60).drop 60).drop 60).drop 60).drop 60).take 60) = true := by decide +kernel
theorem mt_l17 : mb_rows mt_cl mt_ty mt_tb mt_ms mj_Lw_law 960 ((((((((((((((((((mj_c mj_Lw_law).drop 60).drop 60).drop 60).drop 60).drop 60).drop 60).drop 60).drop 60).drop 60).drop 60).drop 60).drop 60).drop 60).drop 60).drop 60).drop 60).take 60) = true := by decide +kernel
theorem mt_l18 : mb_rows mt_cl mt_ty mt_tb mt_ms mj_Lw_law 1020 (((((((((((((((((((mj_c mj_Lw_law).drop 60).drop 60).drop 60).drop 60).drop 60).drop 60).drop 60).drop 60).drop 60).drop 60).drop 60).drop 60).drop 60).drop 60).drop 60).drop 60).drop 60).take 60) = true := by decide +kernel
theorem mt_l19 : mb_rows mt_cl mt_ty mt_tb mt_ms mj_Lw_law 1080 ((((((((((((((((((((mj_c mj_Lw_law).drop 60).drop 60).drop 60).drop 60).drop 60).drop 60).drop 60).drop 60).drop 60).drop 60).drop 60).drop 60).drop 60).drop 60).drop 60).drop 60).drop 60).drop 60).take 60) = true := by decide +kernel
theorem mt_lrows : mb_rows mt_cl mt_ty mt_tb mt_ms mj_Lw_law 0 (mj_c mj_Lw_law) = true := (mb_split 60 _ _ mt_l1 (mb_split 60 _ _ mt_l2 (mb_split 60 _ _ mt_l3 (mb_split 60 _ _ mt_l4 (mb_split 60 _ _ mt_l5 (mb_split 60 _ _ mt_l6 (mb_split 60 _ _ mt_l7 (mb_split 60 _ _ mt_l8 (mb_split 60 _ _ mt_l9 (mb_split 60 _ _ mt_l10 (mb_split 60 _ _ mt_l11 (mb_split 60 _ _ mt_l12 (mb_split 60 _ _ mt_l13 (mb_split 60 _ _ mt_l14 (mb_split 60 _ _ mt_l15 (mb_split 60 _ _ mt_l16 (mb_split 60 _ _ mt_l17 (mb_split 60 _ _ mt_l18 (mb_split 60 _ _ mt_l19 rfl)))))))))))))))))))
theorem mt_cast : mb_at mt_tb 1034 (.castable "PlugTree$Request" "java/lang/Object") = true := by decide +kernel
end
section
/-! the tables are told truly; the claim out of a run of the small machine -/
def mt_G : List Cond := mt_tb.filter mv_gw
def mt_P (q : mv_J) : Prop := mv_jok mt_cl mt_G q ∧ ∀ pc len real i, mv_at q pc = some (len, real, i) → decode (mj_b q) pc = .ok (real, len) ∧ mv_row mt_cl mt_ty mt_G mt_ms q pc len real i
theorem mt_lw : mt_P mj_Lw_law := by
  have hG : mt_G = mt_tb.filter mv_gw := rfl
  refine ⟨⟨Or.inl ⟨rfl, List.mem_filter.mpr ⟨List.mem_append_right _ (List.mem_singleton.mpr rfl), rfl⟩⟩, mb_mem mt_lini, by decide +kernel, ⟨by decide +kernel, by decide +kernel⟩, by decide, rfl, fun i a b h _ => ?_⟩, fun pc len real i hat => ?_⟩
  · exact absurd h (by show ¬ (([] : List (Nat × Nat × Nat × Nat))[i]? = some a); simp)
  · unfold mv_at at hat
    split at hat
    · next x hx =>
      cases hat
      have := mb_rows_ok _ _ mt_lrows pc x hx
      rwa [Nat.zero_add] at this
    · cases hat
set_option maxRecDepth 100000 in
theorem mt_all : ∀ q ∈ mt_ms, mt_P q := List.forall_mem_cons.mpr ⟨mb_meth_ok mt_m_0, List.forall_mem_cons.mpr ⟨mb_meth_ok mt_m_1, List.forall_mem_cons.mpr ⟨mb_meth_ok mt_m_2, List.forall_mem_cons.mpr ⟨mb_meth_ok mt_m_3, List.forall_mem_cons.mpr ⟨mb_meth_ok mt_m_4, List.forall_mem_cons.mpr ⟨mb_meth_ok mt_m_5, List.forall_mem_cons.mpr ⟨mb_meth_ok mt_m_6, List.forall_mem_cons.mpr ⟨mb_meth_ok mt_m_7, List.forall_mem_cons.mpr ⟨mb_meth_ok mt_m_8, List.forall_mem_cons.mpr ⟨mb_meth_ok mt_m_9, List.forall_mem_cons.mpr ⟨mb_meth_ok mt_m_10, List.forall_mem_cons.mpr ⟨mb_meth_ok mt_m_11, List.forall_mem_cons.mpr ⟨mb_meth_ok mt_m_12, List.forall_mem_cons.mpr ⟨mb_meth_ok mt_m_13, List.forall_mem_cons.mpr ⟨mb_meth_ok mt_m_14, List.forall_mem_cons.mpr ⟨mb_meth_ok mt_m_15, List.forall_mem_cons.mpr ⟨mb_meth_ok mt_m_16, List.forall_mem_cons.mpr ⟨mb_meth_ok mt_m_17, List.forall_mem_cons.mpr ⟨mb_meth_ok mt_m_18, List.forall_mem_cons.mpr ⟨mb_meth_ok mt_m_19, List.forall_mem_cons.mpr ⟨mb_meth_ok mt_m_20, List.forall_mem_cons.mpr ⟨mb_meth_ok mt_m_21, List.forall_mem_cons.mpr ⟨mb_meth_ok mt_m_22, List.forall_mem_cons.mpr ⟨mb_meth_ok mt_m_23, List.forall_mem_cons.mpr ⟨mb_meth_ok mt_m_24, List.forall_mem_cons.mpr ⟨mb_meth_ok mt_m_25, List.forall_mem_cons.mpr ⟨mb_meth_ok mt_m_26, List.forall_mem_cons.mpr ⟨mb_meth_ok mt_m_27, List.forall_mem_cons.mpr ⟨mb_meth_ok mt_m_28, List.forall_mem_cons.mpr ⟨mb_meth_ok mt_m_29, List.forall_mem_cons.mpr ⟨mb_meth_ok mt_m_30, List.forall_mem_cons.mpr ⟨mb_meth_ok mt_m_31, List.forall_mem_cons.mpr ⟨mb_meth_ok mt_m_32, List.forall_mem_cons.mpr ⟨mb_meth_ok mt_m_33, List.forall_mem_cons.mpr ⟨mb_meth_ok mt_m_34, List.forall_mem_cons.mpr ⟨mb_meth_ok mt_m_35, List.forall_mem_cons.mpr ⟨mb_meth_ok mt_m_36, List.forall_mem_cons.mpr ⟨mb_meth_ok mt_m_37, List.forall_mem_cons.mpr ⟨mb_meth_ok mt_m_38, List.forall_mem_cons.mpr ⟨mb_meth_ok mt_m_39, List.forall_mem_cons.mpr ⟨mb_meth_ok mt_m_40, List.forall_mem_cons.mpr ⟨mb_meth_ok mt_m_41, List.forall_mem_cons.mpr ⟨mb_meth_ok mt_m_42, List.forall_mem_cons.mpr ⟨mb_meth_ok mt_m_43, List.forall_mem_cons.mpr ⟨mb_meth_ok mt_m_44, List.forall_mem_cons.mpr ⟨mb_meth_ok mt_m_45, List.forall_mem_cons.mpr ⟨mb_meth_ok mt_m_46, List.forall_mem_cons.mpr ⟨mb_meth_ok mt_m_47, List.forall_mem_cons.mpr ⟨mb_meth_ok mt_m_48, List.forall_mem_cons.mpr ⟨mb_meth_ok mt_m_49, List.forall_mem_cons.mpr ⟨mb_meth_ok mt_m_50, List.forall_mem_cons.mpr ⟨mb_meth_ok mt_m_51, List.forall_mem_cons.mpr ⟨mb_meth_ok mt_m_52, List.forall_mem_cons.mpr ⟨mb_meth_ok mt_m_53, List.forall_mem_cons.mpr ⟨mb_meth_ok mt_m_54, List.forall_mem_cons.mpr ⟨mb_meth_ok mt_m_55, List.forall_mem_cons.mpr ⟨mb_meth_ok mt_m_56, List.forall_mem_cons.mpr ⟨mb_meth_ok mt_m_57, List.forall_mem_cons.mpr ⟨mb_meth_ok mt_m_58, List.forall_mem_cons.mpr ⟨mb_meth_ok mt_m_59, List.forall_mem_cons.mpr ⟨mb_meth_ok mt_m_60, List.forall_mem_cons.mpr ⟨mb_meth_ok mt_m_61, List.forall_mem_cons.mpr ⟨mb_meth_ok mt_m_62, List.forall_mem_cons.mpr ⟨mb_meth_ok mt_m_63, List.forall_mem_cons.mpr ⟨mb_meth_ok mt_m_64, List.forall_mem_cons.mpr ⟨mb_meth_ok mt_m_65, List.forall_mem_cons.mpr ⟨mb_meth_ok mt_m_66, List.forall_mem_cons.mpr ⟨mb_meth_ok mt_m_67, List.forall_mem_cons.mpr ⟨mb_meth_ok mt_m_68, List.forall_mem_cons.mpr ⟨mb_meth_ok mt_m_69, List.forall_mem_cons.mpr ⟨mb_meth_ok mt_m_70, List.forall_mem_cons.mpr ⟨mb_meth_ok mt_m_71, List.forall_mem_cons.mpr ⟨mb_meth_ok mt_m_72, List.forall_mem_cons.mpr ⟨mb_meth_ok mt_m_73, List.forall_mem_cons.mpr ⟨mb_meth_ok mt_m_74, List.forall_mem_cons.mpr ⟨mb_meth_ok mt_m_75, List.forall_mem_cons.mpr ⟨mb_meth_ok mt_m_76, List.forall_mem_cons.mpr ⟨mb_meth_ok mt_m_77, List.forall_mem_cons.mpr ⟨mb_meth_ok mt_m_78, List.forall_mem_cons.mpr ⟨mb_meth_ok mt_m_79, List.forall_mem_cons.mpr ⟨mb_meth_ok mt_m_80, List.forall_mem_cons.mpr ⟨mb_meth_ok mt_m_81, List.forall_mem_cons.mpr ⟨mb_meth_ok mt_m_82, List.forall_mem_cons.mpr ⟨mb_meth_ok mt_m_83, List.forall_mem_cons.mpr ⟨mb_meth_ok mt_m_84, List.forall_mem_cons.mpr ⟨mb_meth_ok mt_m_85, List.forall_mem_cons.mpr ⟨mb_meth_ok mt_m_86, List.forall_mem_cons.mpr ⟨mb_meth_ok mt_m_87, List.forall_mem_cons.mpr ⟨mb_meth_ok mt_m_88, List.forall_mem_cons.mpr ⟨mb_meth_ok mt_m_89, List.forall_mem_cons.mpr ⟨mb_meth_ok mt_m_90, List.forall_mem_cons.mpr ⟨mb_meth_ok mt_m_91, List.forall_mem_cons.mpr ⟨mb_meth_ok mt_m_92, List.forall_mem_cons.mpr ⟨mb_meth_ok mt_m_93, List.forall_mem_cons.mpr ⟨mb_meth_ok mt_m_94, List.forall_mem_cons.mpr ⟨mb_meth_ok mt_m_95, List.forall_mem_cons.mpr ⟨mb_meth_ok mt_m_96, List.forall_mem_cons.mpr ⟨mb_meth_ok mt_m_97, List.forall_mem_cons.mpr ⟨mb_meth_ok mt_m_98, List.forall_mem_cons.mpr ⟨mb_meth_ok mt_m_99, List.forall_mem_cons.mpr ⟨mb_meth_ok mt_m_100, List.forall_mem_cons.mpr ⟨mb_meth_ok mt_m_101, List.forall_mem_cons.mpr ⟨mb_meth_ok mt_m_102, List.forall_mem_cons.mpr ⟨mb_meth_ok mt_m_103, List.forall_mem_cons.mpr ⟨mb_meth_ok mt_m_104, List.forall_mem_cons.mpr ⟨mb_meth_ok mt_m_105, List.forall_mem_cons.mpr ⟨mb_meth_ok mt_m_106, List.forall_mem_cons.mpr ⟨mb_meth_ok mt_m_107, List.forall_mem_cons.mpr ⟨mb_meth_ok mt_m_108, List.forall_mem_cons.mpr ⟨mb_meth_ok mt_m_109, List.forall_mem_cons.mpr ⟨mb_meth_ok mt_m_110, List.forall_mem_cons.mpr ⟨mb_meth_ok mt_m_111, List.forall_mem_cons.mpr ⟨mb_meth_ok mt_m_112, List.forall_mem_cons.mpr ⟨mb_meth_ok mt_m_113, List.forall_mem_cons.mpr ⟨mb_meth_ok mt_m_114, List.forall_mem_cons.mpr ⟨mb_meth_ok mt_m_115, List.forall_mem_cons.mpr ⟨mb_meth_ok mt_m_116, List.forall_mem_cons.mpr ⟨mb_meth_ok mt_m_117, List.forall_mem_cons.mpr ⟨mb_meth_ok mt_m_118, List.forall_mem_cons.mpr ⟨mb_meth_ok mt_m_119, List.forall_mem_cons.mpr ⟨mb_meth_ok mt_m_120, List.forall_mem_cons.mpr ⟨mb_meth_ok mt_m_121, List.forall_mem_cons.mpr ⟨mb_meth_ok mt_m_122, List.forall_mem_cons.mpr ⟨mb_meth_ok mt_m_123, List.forall_mem_cons.mpr ⟨mb_meth_ok mt_m_124, List.forall_mem_cons.mpr ⟨mb_meth_ok mt_m_125, List.forall_mem_cons.mpr ⟨mb_meth_ok mt_m_126, List.forall_mem_cons.mpr ⟨mb_meth_ok mt_m_127, List.forall_mem_cons.mpr ⟨mb_meth_ok mt_m_128, List.forall_mem_cons.mpr ⟨mb_meth_ok mt_m_129, List.forall_mem_cons.mpr ⟨mb_meth_ok mt_m_130, List.forall_mem_cons.mpr ⟨mb_meth_ok mt_m_131, List.forall_mem_cons.mpr ⟨mb_meth_ok mt_m_132, List.forall_mem_cons.mpr ⟨mb_meth_ok mt_m_133, List.forall_mem_cons.mpr ⟨mb_meth_ok mt_m_134, List.forall_mem_cons.mpr ⟨mb_meth_ok mt_m_135, List.forall_mem_cons.mpr ⟨mb_meth_ok mt_m_136, List.forall_mem_cons.mpr ⟨mb_meth_ok mt_m_137, List.forall_mem_cons.mpr ⟨mb_meth_ok mt_m_138, List.forall_mem_cons.mpr ⟨mb_meth_ok mt_m_139, List.forall_mem_cons.mpr ⟨mt_lw, fun _ h => absurd h List.not_mem_nil⟩⟩⟩⟩⟩⟩⟩⟩⟩⟩⟩⟩⟩⟩⟩⟩⟩⟩⟩⟩⟩⟩⟩⟩⟩⟩⟩⟩⟩⟩⟩⟩⟩⟩⟩⟩⟩⟩⟩⟩⟩⟩⟩⟩⟩⟩⟩⟩⟩⟩⟩⟩⟩⟩⟩⟩⟩⟩⟩⟩⟩⟩⟩⟩⟩⟩⟩⟩⟩⟩⟩⟩⟩⟩⟩⟩⟩⟩⟩⟩⟩⟩⟩⟩⟩⟩⟩⟩⟩⟩⟩⟩⟩⟩⟩⟩⟩⟩⟩⟩⟩⟩⟩⟩⟩⟩⟩⟩⟩⟩⟩⟩⟩⟩⟩⟩⟩⟩⟩⟩⟩⟩⟩⟩⟩⟩⟩⟩⟩⟩⟩⟩⟩⟩⟩⟩⟩⟩⟩⟩⟩
theorem mt_cok : mv_cok mt_cl mt_ty mt_as mt_G := by
  refine ⟨fun ci r hr => ?_, fun ci t ht => ?_⟩
  · have hm : r ∈ mt_cl := List.mem_of_getElem? hr
    simp only [mt_cl, List.mem_cons, List.not_mem_nil, or_false] at hm
    rcases hm with rfl | rfl | rfl | rfl | rfl | rfl | rfl | rfl | rfl | rfl
    · exact mb_cl_ok mt_c_PT
    · exact mb_cl_ok mt_c_Br
    · exact mb_cl_ok mt_c_Ty
    · exact mb_cl_ok mt_c_Ca
    · exact mb_cl_ok mt_c_Rq
    · exact mb_cl_ok mt_c_St
    · exact mb_cl_ok mt_c_Mo
    · exact mb_cl_ok mt_c_Al
    · exact mb_cl_ok mt_c_Ia
    · exact mb_cl_ok mt_c_Is
  · simp only [mt_as, List.mem_cons, List.not_mem_nil, or_false, Prod.mk.injEq] at ht
    rcases ht with ⟨rfl, rfl⟩ | ⟨rfl, rfl⟩ | ⟨rfl, rfl⟩ | ⟨rfl, rfl⟩ | ⟨rfl, rfl⟩
    · exact ⟨mk_Br, _, rfl, rfl, Or.inl rfl⟩
    · exact ⟨mk_Ty, _, rfl, rfl, Or.inl rfl⟩
    · exact ⟨mk_Ca, _, rfl, rfl, Or.inl rfl⟩
    · exact ⟨mk_Rq, _, rfl, rfl, Or.inl rfl⟩
    · exact ⟨mk_Rq, _, rfl, rfl, Or.inr (mb_mem mt_cast)⟩
theorem mt_OK : mv_OK mt_cl mt_ty mt_as mt_ms mt_G := ⟨mt_cok, fun w hw => (List.mem_filter.mp hw).2, fun j q hj => mt_all q (List.mem_of_getElem? hj)⟩
/-- the small machine's run of the law -/
abbrev mt_run (E : mv_E) : Nat → Nat → Nat → mv_F → mv_H → Option (mv_R × mv_H) := mv_run E mt_cl mt_ty mt_as mt_nc mt_ms
/-- what is left to be shown: the law's run comes to its end with 1, in its room -/
def mt_goal : Prop := ∀ (E : mv_E), E.2.2.1 ≤ 3072 → E.2.1 < E.1 → E.2.2.2.2.1 < E.1 → E.2.2.2.2.1 ≠ E.2.1 → ∃ (n : Nat) (h' : mv_H), mt_run E n 11 140 (0, mv_in 8 [.ref E.2.1], []) [] = some (.inl (some (.int 1)), h') ∧ h'.length ≤ 601024 ∧ mv_sz mt_cl h' ≤ 7293033
theorem mt_in {k : Nat} {w : Cond} (h : mb_at mt_tb k w = true) : w ∈ mt_G := mb_mem h
theorem mt_inst : ∀ (ci : Nat) (r : mv_K), mt_cl[ci]? = some r → Cond.instantiable r.1 r.2.2.2.1 ∈ mt_G := by
  intro ci r hr
  have hm : r ∈ mt_cl := List.mem_of_getElem? hr
  simp only [mt_cl, List.mem_cons, List.not_mem_nil, or_false] at hm
  rcases hm with rfl | rfl | rfl | rfl | rfl | rfl | rfl | rfl | rfl | rfl
  · exact mt_in (k := 70) (by decide +kernel)
  · exact mt_in (k := 126) (by decide +kernel)
  · exact mt_in (k := 472) (by decide +kernel)
  · exact mt_in (k := 509) (by decide +kernel)
  · exact mt_in (k := 595) (by decide +kernel)
  · exact mt_in (k := 110) (by decide +kernel)
  · exact mt_in (k := 742) (by decide +kernel)
  · exact mt_in (k := 84) (by decide +kernel)
  · exact mt_in (k := 382) (by decide +kernel)
  · exact mt_in (k := 451) (by decide +kernel)
section MTK
variable {args : Array Value} {s : State}
theorem mt_arrP {ty : FieldType} (hp : va_RA s 0 ty = (s.vm.findClass ("[" ++ ty.toString) = some 0)) (hc : ∀ c, va_RA s c ty = (s.vm.findClass ("[" ++ ty.toString) = some c)) (h : (Cond.arrayClass ty).before args s = true) : ∃ cA : ClassId, ArrOfT s cA ty ∧ va_RA s cA ty := by
  obtain ⟨c, k, comp, h1, h2, h3⟩ := Cond.arrayClass_spec h
  exact ⟨c, fun n z => ⟨fun k h => (by cases h), k, h2, comp, h3⟩, by rw [hc]; exact h1⟩
theorem mt_arrO {C : String} (h : (Cond.arrayOver (.object C)).before args s = true) : ∃ cA : ClassId, ArrOfT s cA (.object C) ∧ va_RA s cA (.object C) := by
  obtain ⟨comp, c, k, h1, h2, h3, h4, h5⟩ := Cond.arrayOver_spec h
  exact ⟨c, fun n z => ⟨fun k h => (by cases h), k, h3, comp, h4⟩, k, comp, h3, h4, h1, h5⟩
theorem mt_kn (hts : ∀ w ∈ mt_G, w.before args s = true) : ∃ g : mv_G, mv_kn mt_cl mt_ty g s := by
  have h1 : ∀ ci : Nat, ∃ (x : ClassId × (Nat → Nat)), ∀ r, mt_cl[ci]? = some r → u_Kn s r.1 r.2.1 r.2.2.1 x.1 x.2 := by
    intro ci
    cases hr : mt_cl[ci]? with
    | none => exact ⟨(0, fun _ => 0), fun r h => by cases h⟩
    | some r =>
      obtain ⟨cC, iS, h⟩ := u_known hts (mt_cok.1 ci r hr).1 (hts _ (mt_inst ci r hr))
      exact ⟨(cC, iS), fun r' h' => by cases h'; exact h⟩
  have h2 : ∀ t : Nat, ∃ (cA : ClassId), ∀ ty, mt_ty[t]? = some ty → ArrOfT s cA ty ∧ va_RA s cA ty := by
    intro t
    cases ht : mt_ty[t]? with
    | none => exact ⟨0, fun r h => by cases h⟩
    | some ty =>
      have hm : ty ∈ mt_ty := List.mem_of_getElem? ht
      have h3 : ∃ cA : ClassId, ArrOfT s cA ty ∧ va_RA s cA ty := by
        simp only [mt_ty, List.mem_cons, List.not_mem_nil, or_false] at hm
        rcases hm with rfl | rfl | rfl | rfl | rfl | rfl | rfl | rfl
        · exact mt_arrP rfl (fun _ => rfl) (hts _ (mt_in (k := 125) (by decide +kernel)))
        · exact mt_arrP rfl (fun _ => rfl) (hts _ (mt_in (k := 841) (by decide +kernel)))
        · exact mt_arrP rfl (fun _ => rfl) (hts _ (mt_in (k := 842) (by decide +kernel)))
        · exact mt_arrO (hts _ (mt_in (k := 78) (by decide +kernel)))
        · exact mt_arrO (hts _ (mt_in (k := 80) (by decide +kernel)))
        · exact mt_arrO (hts _ (mt_in (k := 82) (by decide +kernel)))
        · exact mt_arrO (hts _ (mt_in (k := 515) (by decide +kernel)))
        · exact mt_arrO (hts _ (mt_in (k := 662) (by decide +kernel)))
      obtain ⟨cA, h4⟩ := h3
      exact ⟨cA, fun ty' h' => by cases h'; exact h4⟩
  refine ⟨(fun ci => (h1 ci).choose.1, fun ci => (h1 ci).choose.2, fun t => (h2 t).choose), fun ci r hr => (h1 ci).choose_spec r hr, fun t ty ht => (h2 t).choose_spec ty ht⟩
theorem mt_lst {C n d : String} (h : (Cond.laysStatic C n d).before args s = true) : mv_lst s.heap.size C n d s s.heap := by
  obtain ⟨c, k, i, f, a, cell, hc, hi, hst, ha, hcell, hs, hcls, hlt, hty⟩ := Cond.laysStatic_spec h
  exact ⟨c, k, i, f, a, cell, hc, hi, hst, ha, hcell, hs, hcls, hlt, hty, (Array.getElem?_eq_some_iff.mp hcell).1⟩
theorem mt_zr {C n d : String} (hl : (Cond.laysStatic C n d).before args s = true) (hini : (Cond.initialized C).before args s = true) (hr : (Cond.isRef (.static C n d)).before args s = true) : ∃ v, mv_ref v = true ∧ va_Z C n d v (fun q => s.heap.size ≤ q) s s.heap := by
  obtain ⟨v, hv, h2⟩ := Cond.isRef_spec hr
  refine ⟨v, ?_, va_Zof hl hini hv (fun a ha hq => absurd hq (Nat.not_le.mpr ha))⟩
  cases v <;> first | rfl | cases h2
end MTK
end
section
/-! THE CLAIM OUT OF THE LAW'S RUN ON THE SMALL MACHINE -/
def R_law : String := "PlugTreeLaw"
def lw_P (b : Addr) (xs : List Int32) (args : Array Value) (s : State) : Prop := args = #[.ref b] ∧ s.IntsAt b xs ∧ xs.length ≤ 3072 ∧ (Jvm.Cond.and given_1 narrow_1).before args s = true
def lw_Q (_ : Array Value) (s : State) (o : Outcome) (t : State) : Prop := o = .returned (some (.int 1)) ∧ Framed s o t [] 601024 7293033
def lw_Z (below : List Frame) (a : Array Value) (s : State) : State → Prop := fun t => ∃ o, t.status = .running ∧ Ended t below o ∧ lw_Q a s o t
theorem mt_same {s t : State} {locs : List Loc} {k n K N : Nat} (h : s.sameButNew t locs k n) (hk : k ≤ K) (hn : n ≤ N) (hl : ∀ q ∈ locs, s.heap.size ≤ q.base) : s.sameButNew t [] K N := by
  obtain ⟨h1, h2, h3, h4, h5, h6⟩ := h
  refine ⟨h1, h2, Nat.le_trans h3 (by omega), h4, Nat.le_trans h5 hn, fun a c ha => ?_⟩
  obtain ⟨c', g1, g2, g3, g4⟩ := h6 a c ha
  refine ⟨c', g1, g2, g3, fun i _ => g4 i (fun hm => ?_)⟩
  have := hl _ hm
  have h7 := (Array.getElem?_eq_some_iff.mp ha).1
  exact absurd this (Nat.not_le.mpr h7)
theorem mt_start (hgoal : mt_goal) {p : Program} {e : Env} {s : State} {m : MethodId} {below : List Frame} {meth : Method} {c : Code} (l : Launch) {b L : Nat} {xs : Nat → Int32} (hL : L ≤ 3072) (hx : p.tables.exec = Jvm.exec) (hcode : c.code = code) (hret : meth.sig.returnType = ret) (hml : c.maxLocals = 8) (hnamed : s.methodNamed? x = some m) (hmeth : s.vm.method? m = some meth) (htab : c.exceptionTable.toList = []) (htr : e.platform.stackTraces = false)
    (hts : ∀ w ∈ mt_tb, w.before #[Value.ref b] s = true) (hst : ∀ w ∈ tables_1, w.before #[Value.ref b] s = true) (hX : va_X b L xs s s.heap) (hbl : b < s.heap.size) (hlocks : meth.locks = false) (hgv : (Jvm.Cond.and given_1 narrow_1).before #[Value.ref b] s = true) :
    W p l e room_1 s m #[Value.ref b] below meth c s.heap [] 0 0 (lw_Z below #[Value.ref b] s) (entryFrame m ([Value.ref b] : List Value).toArray 8) := by
  have hG : ∀ w ∈ mt_G, w.before #[Value.ref b] s = true := fun w hw => hts w (List.mem_filter.mp hw).1
  have hs := flat_of_before _ hgv
  obtain ⟨g, hK⟩ := mt_kn hG
  obtain ⟨mi, hMi⟩ := va_Mi.of (hs (.isRef (.mirror "[Ljava/lang/Object;")) (by decide +kernel))
  obtain ⟨eA, hev, hT⟩ := va_Tof (N := 0) (f := fun _ => .null) (A := fun q => s.heap.size ≤ q) (by decide) (hs (.arrayOf (.static "java/util/ArrayList" "DEFAULTCAPACITY_EMPTY_ELEMENTDATA" "[Ljava/lang/Object;") (.object "java/lang/Object")) (by decide +kernel)) (va_eqt (hs (.eq (.length (.static "java/util/ArrayList" "DEFAULTCAPACITY_EMPTY_ELEMENTDATA" "[Ljava/lang/Object;")) (.int 0)) (by decide +kernel))) (fun j hj => absurd hj (Nat.not_lt_zero j)) (fun a ha hq => absurd hq (Nat.not_le.mpr ha))
  have hZ := va_Zof (v := .ref eA) (A := fun q => s.heap.size ≤ q) (hst (.laysStatic "java/util/ArrayList" "DEFAULTCAPACITY_EMPTY_ELEMENTDATA" "[Ljava/lang/Object;") (by decide +kernel)) (hst (.initialized "java/util/ArrayList") (by decide +kernel)) hev (fun a ha hq => absurd hq (Nat.not_le.mpr ha))
  have heA : eA < s.heap.size := by
    obtain ⟨cell, h1, -⟩ := hT
    exact (Array.getElem?_eq_some_iff.mp h1).1
  have hne : eA ≠ b := by
    rintro rfl
    obtain ⟨cell, h1, h2, -⟩ := hT
    obtain ⟨scr, h3, h4, -⟩ := hX
    cases h1.symm.trans h3
    obtain ⟨-, k1, hk1, c1, e1⟩ := h2
    obtain ⟨-, k2, hk2, c2, e2⟩ := h4
    cases hk1.symm.trans hk2
    rw [e1] at e2
    cases e2
  obtain ⟨n, h', hrun, hc1, hc2⟩ := hgoal (s.heap.size, b, L, xs, eA, mi) hL hbl heA hne
  have hq : mt_ms[140]? = some mj_Lw_law := rfl
  have C : mv_ctx mt_cl mt_ty mt_G g (s.heap.size, b, L, xs, eA, mi) 11 mj_Lw_law p e room_1 s m #[Value.ref b] meth c := by
    refine ⟨hx, htr, hG, hK, hX, hbl, ⟨⟨⟨hZ, hT, hMi⟩, mt_lst (hst _ (by decide +kernel)), mt_lst (hst _ (by decide +kernel))⟩, mt_zr (hst _ (by decide +kernel)) (hst _ (by decide +kernel)) (hs _ (by decide +kernel)), mt_zr (hst _ (by decide +kernel)) (hst _ (by decide +kernel)) (hs _ (by decide +kernel))⟩, hnamed, hmeth, hcode, hml, hret, hlocks, htab, by decide, by decide⟩
  have hN : mv_nk mt_nc mt_cl s := by
    intro x y hxy
    simp only [mt_nc, List.mem_cons, List.not_mem_nil, or_false, Prod.mk.injEq] at hxy
    rcases hxy with ⟨rfl, rfl⟩ | ⟨rfl, rfl⟩
    · exact ⟨_, _, rfl, rfl, va_Nc.of (hs (.not (.castable "java/lang/IllegalStateException" "java/lang/IllegalArgumentException")) (by decide +kernel))⟩
    · exact ⟨_, _, rfl, rfl, va_Nc.of (hs (.not (.castable "java/lang/IllegalArgumentException" "java/lang/IllegalStateException")) (by decide +kernel))⟩
  have w := mv_sim mt_OK n 11 140 _ _ _ _ hrun hq (p := p) (l := l) (below := below) (H := s.heap) (locs := []) (n0 := 0) (z0 := 0) C hN ⟨rfl, fun i z hi => by simp at hi⟩ ⟨fun _ _ => rfl, fun q hq => by cases hq⟩ (mv_in_rel (as := [.ref b]) (n := 8) (by show 1 ≤ 8; omega)) (Nat.le_refl _) (Nat.le_refl _) (by show h'.length - 0 ≤ 601024; omega) (by show mv_sz mt_cl h' - 0 ≤ 7293033; omega)
  rw [← lg_entry_eq] at w
  refine mv_Wm (fun t ht => ?_) w
  obtain ⟨locs, q1, q2, q3, q4, q5, q6⟩ := ht
  exact ⟨_, q3, q4, rfl, ⟨_, rfl⟩, q5, mt_same q6 (by omega) (by omega) q2.2⟩
set_option maxHeartbeats 4000000 in
theorem lw_walk (hgoal : mt_goal) (l : Launch) (hfl : l.flags = flags0) (b : Addr) (xs : List Int32) : MetFree l x (headSpec (Jvm.Cond.code x code maxLocals ret :: tables_1) room_1) (lw_P b xs) (fun _ _ _ _ _ => True) lw_Q := by
  refine MetFree.of_bodyS (code := code) (maxLocals := maxLocals) (ret := ret) (by decide) ?_ ?_
  · intro args s m h hn
    obtain ⟨meth, c, h1, h2, h3, h4, h5, h6, -, -⟩ := Cond.code_spec hn (atoms_spec (ws := Jvm.Cond.code x code maxLocals ret :: tables_1) h _ List.mem_cons_self)
    exact ⟨meth, c, h1, h2, h3, h4, h5, h6⟩
  · intro p e s m args below meth c s₁ B hml0 hP _
    obtain ⟨rfl, hx, hbd, hgv⟩ := hP
    obtain ⟨scr, harrAt, hlist, hof, hsmall⟩ := hx
    obtain ⟨hcb, hkn, -, -⟩ := State.arrayAt?_spec harrAt
    have hown : s.vm.findClass R_law = some m.cls := findClass_of_methodNamed B.named
    have hts0 : ∀ c ∈ (Jvm.Cond.code x code maxLocals ret :: tables_1), c.before #[Value.ref b] s = true := atoms_spec (ws := Jvm.Cond.code x code maxLocals ret :: tables_1) B.pre
    have hts : ∀ w ∈ lw_tbl, w.before #[Value.ref b] s = true := k2_hts_sels lw_privs (fun w hw => hts0 w (List.mem_cons_of_mem _ hw)) lw_privs_ok
    have htsb : ∀ w ∈ mt_tb, w.before #[Value.ref b] s = true := fun w hw => by
      rcases List.mem_append.mp hw with h9 | h9
      · exact hts w h9
      · rw [List.mem_singleton.mp h9]
        exact hts0 _ List.mem_cons_self
    have hml : c.maxLocals = 8 := B.maxLocals_eq (hts0 _ List.mem_cons_self)
    have X₀ : Stand p l e room_1 s m #[Value.ref b] below meth c s₁ [] 0 0 := Stand.of_body B
    have hh0 : s₁.heap = s.heap := by rw [B.state]; rfl
    have hsz : scr.slots.size = xs.length := by rw [← Array.length_toList, hlist, List.length_map]
    have hval : ∀ j : Nat, j < xs.length → scr.slots[j]? = some (.int (xs.getD j 0)) := fun j hj => by
      rw [← Array.getElem?_toList, hlist]
      simp [hj]
    have hbl : b < s.heap.size := (Array.getElem?_eq_some_iff.mp hcb).1
    have hX : va_X b xs.length (fun j => xs.getD j 0) s s.heap := ⟨scr, hcb, hof, hkn, hsz, hval⟩
    have htr : e.platform.stackTraces = false := by
      rw [show e.platform.stackTraces = l.stackTraces by rw [X₀.admits.platform]]
      rw [Launch.stackTraces, hfl]
      decide +kernel
    obtain ⟨meth2, c2, g1, g2, g3, g4, g5, g6, g7, g8⟩ := Cond.code_spec B.named (hts0 _ List.mem_cons_self)
    have K : W p l e room_1 s m #[Value.ref b] below meth c s₁.heap [] 0 0 (lw_Z below #[Value.ref b] s) (entryFrame m ([Value.ref b] : List Value).toArray 8) := by
      rw [hh0]
      have e1 : meth2 = meth := Option.some.inj (g1.symm.trans B.method)
      subst e1
      have e2 : c2 = c := Option.some.inj (g2.symm.trans X₀.code)
      subst e2
      have h0 : c2.exceptionTable.size = 0 := by simpa [Array.isEmpty] using g7
      exact mt_start hgoal l hbd B.exec B.bytes B.returns hml B.named B.method (List.eq_nil_of_length_eq_zero (by simpa using h0)) htr htsb (fun w hw => hts0 w (List.mem_cons_of_mem _ hw)) hX hbl B.notSynchronized hgv
    obtain ⟨t, a1, o, b1, b2, b3⟩ := K s₁ rfl X₀
    exact ⟨t, o, a1, b1, b2, b3⟩
theorem lw_pre_spec {args : Array Value} {s : State} (h : (Jvm.Cond.and given_1 narrow_1).before args s = true) (hr : rest_1_c.before args s = true) : ∃ (b : Addr) (xs : List Int32), lw_P b xs args s := by
  have hs := flat_of_before _ h
  have hq := flat_of_before _ hr
  have hc : (Cond.count 1).before args s = true := hs _ (by decide +kernel)
  have harr : (Cond.arrayOf (.arg 0) .int).before args s = true := hs _ (by decide +kernel)
  have hle : (Cond.le (.length (.arg 0)) (.int 3072)).before args s = true := hs _ (by decide +kernel)
  have hlen : (Cond.isInt (.length (.arg 0))).before args s = true := hq _ (by decide +kernel)
  have hall : (Cond.all (.arg 0) (.isInt (.elem (.arg 0) (.index 0)))).before args s = true := hq _ (by decide +kernel)
  obtain ⟨b, xs, hb, hx⟩ := State.ints_of_pre rfl harr hlen hall
  have hsm : xs.length < 2 ^ 31 := hx.choose_spec.2.2.2
  have hev : (Term.length (.arg 0)).eval args s none [] s = some (.int xs.length.toInt32) := hx.length_eval hb
  have hv := Cond.le_ints hev (show (Term.int 3072).eval args s none [] s = some (.int 3072) from rfl)
  have hd : xs.length.toInt32 ≤ 3072 := by
    simpa [Cond.before, Cond.holds, hv] using hle
  have hN : xs.length ≤ 3072 := (Int32.ofNat_le_ofNat hsm (by decide)).mp (show Int32.ofNat xs.length ≤ Int32.ofNat 3072 from hd)
  exact ⟨b, xs, Cond.one_arg hc (show args[0]? = some (.ref b) from hb), hx, hN, h⟩
theorem lw_comes (hgoal : mt_goal) (l : Launch) (hfl : l.flags = flags0) : Comes l x (Jvm.Cond.code x code maxLocals ret :: tables_1) room_1 (fun tb e args s => Calls_1 tb e args s ∧ rest_1 tb e args s ∧ Pre_1 tb e args s)
    (fun _ _ args s o t => lw_Q args s o t) := by
  intro p e ha hc hk s m args below hf hfit hheap happ hpre
  obtain ⟨b, xs, hP⟩ := lw_pre_spec hpre.2.2 hpre.2.1
  obtain ⟨k, o, h1, h2, h3, hQ⟩ := lw_walk hgoal l hfl b xs p e ha hc hk s m args below hf ((Spec.applies_iff_loose hf).mp happ).1 hP trivial
  exact ⟨k, o, h1, h2, h3, hQ⟩
theorem lw_frame {s t : State} {o : Outcome} {args : Array Value} (h : Framed s o t [] 601024 7293033) :
    Framed s o t (fieldLocs frame_1_writes args s ++ arrayLocs frame_1_arrays args s ++ staticLocs frame_1_statics s) 601024 7293033 := h
theorem lw_limb (hgoal : mt_goal) (L : Cond) (hL : ∀ (args : Array Value) (s t : State), L.after args s (.returned (some (.int 1))) t = true) :
    ArmFor flags0 classFile x code maxLocals ret World_1 tables_1 room_1 Calls_1 rest_1 Pre_1
      (fun tb e a s o t => postC L tb e a s o t ∧ Framed s o t (fieldLocs frame_1_writes a s ++ arrayLocs frame_1_arrays a s ++ staticLocs frame_1_statics s) 601024 7293033) := by
  intro l hfl _ _ p e ha hc hk s m args below hf hfit hheap happ hpre
  obtain ⟨k, o, h1, h2, h3, rfl, hF⟩ := lw_comes hgoal l hfl p e ha hc hk s m args below hf hfit hheap happ hpre
  exact ⟨k, _, h1, h2, h3, hL args s _, lw_frame hF⟩
theorem mt_vc (hgoal : mt_goal) : Claimed_1_1 ∧ Claimed_1_2 := ⟨lw_limb hgoal limb_1_1 (fun args s t => by simp [limb_1_1, Cond.after, Cond.holds, Cond.value]), lw_limb hgoal limb_1_2 (fun args s t => Cond.after_iff.mpr (by
  first | (rw [show limb_1_2 = Cond.eq .result (.int 1) from rfl, Cond.eq_ints (x := 1) (y := 1) rfl rfl]; simp; done) | (simp [limb_1_2, Cond.value, Term.eval]; done)))⟩
end
section
/-! MEMORY: the heap as a function of whole numbers: μ a i is what stands at the place i of the cell a; at -1 its kind (an array's kind; 100 and more: an object's class), at -2 an array's length; at (-1, 0) how many cells there are -/
abbrev mm_T : Type := Int → Int → Int
def md_t (ty : FieldType) (z : Int) : Value := match ty with
  | .int => .int (Int32.ofInt z)
  | .boolean => .int (Int32.ofInt z)
  | .long => .long (Int64.ofInt z)
  | _ => if z < 0 then .null else .ref z.toNat
def md_a (k : Nat) (z : Int) : Value := match mt_ty[k]? with
  | some ty => md_t ty z
  | none => .null
def md_f (c i : Nat) (z : Int) : Value := match mt_cl[c]? with
  | some K => (match K.2.2.2.2[i]? with
    | some ty => md_t ty z
    | none => .null)
  | none => .null
def mm_c (μ : mm_T) (a : Int) : mv_C := if μ a (-1) < 100 then .inl ((μ a (-1)).toNat, (μ a (-2)).toNat, fun i => md_a (μ a (-1)).toNat (μ a i)) else .inr ((μ a (-1) - 100).toNat, fun i => md_f (μ a (-1) - 100).toNat i (μ a i))
def mm_h (E : mv_E) (μ : mm_T) : mv_H := (List.range (μ (-1) 0).toNat).map fun (i : Nat) => mm_c μ ((E.1 : Int) + (i : Int))
def mm_u (μ : mm_T) (a i z : Int) : mm_T := fun a' i' => if a' = a ∧ i' = i then z else μ a' i'
def mm_al (E : mv_E) (μ : mm_T) (k l : Int) (z0 : Int → Int) : mm_T := fun a i => if a = -1 ∧ i = 0 then μ (-1) 0 + 1 else if a = E.1 + μ (-1) 0 then (if i = -1 then k else if i = -2 then l else z0 i) else μ a i
def mm_i (E : mv_E) (μ : mm_T) (a : Int) : Prop := (E.1 : Int) ≤ a ∧ a < E.1 + μ (-1) 0
section MMA
variable {E : mv_E} {μ : mm_T} {a a' i z : Int}
theorem mm_h_len : (mm_h E μ).length = (μ (-1) 0).toNat := by simp [mm_h]
theorem mm_h_at {k : Nat} (hk : k < (μ (-1) 0).toNat) : (mm_h E μ)[k]? = some (mm_c μ ((E.1 : Int) + k)) := by
  unfold mm_h
  rw [List.getElem?_map, List.getElem?_range hk]
  rfl
theorem mm_lk (h : mm_i E μ a) : mv_lk E.1 (mm_h E μ) a.toNat = some (mm_c μ a) := by
  obtain ⟨h0, h1⟩ := h
  have h2 : E.1 ≤ a.toNat := by omega
  have h3 : a.toNat - E.1 < (μ (-1) 0).toNat := by omega
  unfold mv_lk
  rw [if_pos h2, mm_h_at h3]
  rw [show (E.1 : Int) + ((a.toNat - E.1 : Nat) : Int) = a by omega]
theorem mm_lkn (h : a < E.1) (h0 : 0 ≤ a) : mv_lk E.1 (mm_h E μ) a.toNat = none := by
  unfold mv_lk
  rw [if_neg (by omega)]
theorem mm_u_at : mm_u μ a i z a i = z := by simp [mm_u]
theorem mm_u_ne {i' : Int} (h : ¬ (a' = a ∧ i' = i)) : mm_u μ a i z a' i' = μ a' i' := by simp [mm_u, h]
theorem mm_u_c (h : a' ≠ a) : mm_c (mm_u μ a i z) a' = mm_c μ a' := by simp [mm_c, mm_u, h]
theorem mm_u_n (h : mm_i E μ a) : mm_u μ a i z (-1) 0 = μ (-1) 0 := mm_u_ne (by have := h.1; omega)
theorem mm_upd (h : mm_i E μ a) {c : mv_C} (hc : c = mm_c (mm_u μ a i z) a) : mv_up E.1 (mm_h E μ) a.toNat c = mm_h E (mm_u μ a i z) := by
  have hn : mm_u μ a i z (-1) 0 = μ (-1) 0 := mm_u_n h
  obtain ⟨h0, h1⟩ := h
  apply List.ext_getElem?
  intro k
  unfold mv_up
  by_cases hk : k < (μ (-1) 0).toNat
  · have e2 : (mm_h E (mm_u μ a i z))[k]? = some (mm_c (mm_u μ a i z) ((E.1 : Int) + k)) := mm_h_at (by rw [hn]; exact hk)
    rw [e2]
    by_cases hka : a.toNat - E.1 = k
    · subst hka
      rw [List.getElem?_set_self (by rw [mm_h_len]; exact hk), hc, show (E.1 : Int) + ((a.toNat - E.1 : Nat) : Int) = a by omega]
    · rw [List.getElem?_set_ne hka, mm_h_at hk, mm_u_c (by omega)]
  · rw [List.getElem?_eq_none (by rw [List.length_set, mm_h_len]; omega), List.getElem?_eq_none (by rw [mm_h_len, hn]; omega)]
theorem mm_push {k l : Int} {z0 : Int → Int} (hn : 0 ≤ μ (-1) 0) {c : mv_C} (hc : c = mm_c (mm_al E μ k l z0) (E.1 + μ (-1) 0)) : mm_h E μ ++ [c] = mm_h E (mm_al E μ k l z0) := by
  have e0 : mm_al E μ k l z0 (-1) 0 = μ (-1) 0 + 1 := by simp [mm_al]
  apply List.ext_getElem?
  intro j
  by_cases hj : j < (μ (-1) 0).toNat
  · rw [List.getElem?_append_left (by rw [mm_h_len]; exact hj), mm_h_at hj, mm_h_at (by rw [e0]; omega)]
    congr 1
    have h1 : (E.1 : Int) + j ≠ -1 := by omega
    have h2 : (E.1 : Int) + j ≠ E.1 + μ (-1) 0 := by omega
    simp [mm_c, mm_al, h1, h2]
  · by_cases hj2 : j = (μ (-1) 0).toNat
    · rw [List.getElem?_append_right (by rw [mm_h_len]; omega), mm_h_len, hj2, Nat.sub_self, mm_h_at (by rw [e0]; omega)]
      rw [hc, show (E.1 : Int) + ((μ (-1) 0).toNat : Int) = E.1 + μ (-1) 0 by omega]
      rfl
    · rw [List.getElem?_eq_none (by simp [mm_h_len]; omega), List.getElem?_eq_none (by rw [mm_h_len, e0]; omega)]
end MMA
/-! values: (0, z) an int, (1, z) a long, (2, z) the cell z, (3, 0) null -/
abbrev mg_V : Type := Nat × Int
def mg_e (v : mg_V) : Value := match v.1 with
  | 0 => .int (Int32.ofInt v.2)
  | 1 => .long (Int64.ofInt v.2)
  | 2 => .ref v.2.toNat
  | _ => .null
abbrev mg_L : Type := List (Option mg_V)
abbrev mg_F : Type := Nat × mg_L × List mg_V
def mg_eL (L : mg_L) : mv_L := L.map (Option.map mg_e)
def mg_eS (S : List mg_V) : List Value := S.map mg_e
def mg_eF (f : mg_F) : mv_F := (f.1, mg_eL f.2.1, mg_eS f.2.2)
abbrev mg_R : Type := Option mg_V ⊕ Int
def mg_eR (r : mg_R) : mv_R := match r with
  | .inl v => .inl (v.map mg_e)
  | .inr a => .inr a.toNat
def mg_w (E : mv_E) (d j : Nat) (f : mg_F) (μ : mm_T) (Q : mg_R → mm_T → Prop) : Prop := ∃ n r μ', mt_run E n d j (mg_eF f) (mm_h E μ) = some (mg_eR r, mm_h E μ') ∧ Q r μ'
def mg_at (j pc : Nat) : Option (Nat × Instr) := match mt_ms[j]? with
  | some q => (match mv_at q pc with
    | some x => some (x.1, x.2.2)
    | none => none)
  | none => none
def mg_pl (i : Instr) : Bool := match i with
  | .return_ => false
  | .ireturn => false
  | .lreturn => false
  | .areturn => false
  | .instanceof _ => false
  | .invokestatic _ => false
  | .invokevirtual _ => false
  | .invokespecial _ => false
  | _ => true
theorem mg_pl_ret {i : Instr} {ty : Option FieldType} {S : List Value} (h : mg_pl i = true) : mv_ret ty i S = none := by
  cases i <;> first | rfl | cases h
theorem mg_pl_thr {i : Instr} {b : Nat} {cl : List mv_K} {S : List Value} {H : mv_H} (h : mg_pl i = true) : mv_thr b cl i S H = none := by
  cases i <;> first | rfl | cases h
theorem mg_pl_inv {i : Instr} {b : Nat} {M : List mv_J} {S : List Value} {H : mv_H} (h : mg_pl i = true) : mv_inv b M i S H = none := by
  cases i <;> first | rfl | cases h
section MGA
variable {E : mv_E} {d j : Nat} {f f' : mg_F} {μ μ' : mm_T} {Q Q' : mg_R → mm_T → Prop}
theorem mg_mono (h : mg_w E d j f μ Q) (hq : ∀ r μ', Q r μ' → Q' r μ') : mg_w E d j f μ Q' := by
  obtain ⟨n, r, μ2, h1, h2⟩ := h
  exact ⟨n, r, μ2, h1, hq _ _ h2⟩
theorem mg_at_of {pc len : Nat} {i : Instr} (hr : mg_at j pc = some (len, i)) : ∃ q real, mt_ms[j]? = some q ∧ mv_at q pc = some (len, real, i) := by
  unfold mg_at at hr
  split at hr
  · next q hq =>
    split at hr
    · next x hx =>
      cases hr
      exact ⟨q, x.2.1, hq, hx⟩
    · cases hr
  · cases hr
theorem mg_step {len : Nat} {i : Instr} (hr : mg_at j f.1 = some (len, i)) (hp : mg_pl i = true) (hs : mv_step E mt_cl mt_ty mt_as i (f.1 + len) (mg_eL f.2.1) (mg_eS f.2.2) (mm_h E μ) = some (mg_eF f', mm_h E μ')) (k : mg_w E d j f' μ' Q) : mg_w E d j f μ Q := by
  obtain ⟨n, r, μ2, h1, h2⟩ := k
  refine ⟨n + 1, r, μ2, ?_, h2⟩
  obtain ⟨q, real, hq, hx⟩ := mg_at_of hr
  rw [← h1]
  show mv_run E mt_cl mt_ty mt_as mt_nc mt_ms (n + 1) d j (mg_eF f) (mm_h E μ) = mv_run E mt_cl mt_ty mt_as mt_nc mt_ms n d j (mg_eF f') (mm_h E μ')
  rw [mv_run]
  simp only [hq]
  rw [show (mg_eF f).1 = f.1 from rfl, hx]
  simp only [mg_pl_ret hp, mg_pl_thr hp, mg_pl_inv hp]
  rw [show (mg_eF f).2.1 = mg_eL f.2.1 from rfl, show (mg_eF f).2.2 = mg_eS f.2.2 from rfl, hs]
end MGA
end
section
/-! steps that see no memory, many at a time -/
def mg_k (L : mg_L) (i : Nat) : mg_L := match i with
  | 0 => L
  | k + 1 => match L[k]? with
    | some (some (1, _)) => L.set k none
    | _ => L
def mg_ld (L : mg_L) (k nx : Nat) (S : List mg_V) (ok : Nat → Bool) : Option mg_F := match L[k]? with
  | some (some v) => if ok v.1 = true then some (nx, L, v :: S) else none
  | _ => none
def mg_st (L : mg_L) (k nx : Nat) (S : List mg_V) (ok : Nat → Bool) : Option mg_F := match S with
  | v :: r => if ok v.1 = true then (if k < L.length then some (nx, (mg_k L k).set k (some v), r) else none) else none
  | _ => none
def mg_tI (t : Nat) : Bool := match t with
  | 0 => true
  | _ => false
def mg_tL (t : Nat) : Bool := match t with
  | 1 => true
  | _ => false
def mg_tA (t : Nat) : Bool := match t with
  | 2 => true
  | 3 => true
  | _ => false
def mg_pv (i : Instr) (nx : Nat) (L : mg_L) (S : List mg_V) : Option mg_F := match i with
  | .aconst_null => some (nx, L, (3, 0) :: S)
  | .iconst n => some (nx, L, (0, n) :: S)
  | .bipush n => if -128 ≤ n ∧ n < 128 then some (nx, L, (0, n) :: S) else none
  | .sipush n => if -32768 ≤ n ∧ n < 32768 then some (nx, L, (0, n) :: S) else none
  | .lconst n => some (nx, L, (1, ((n : Nat) : Int)) :: S)
  | .aload k => mg_ld L k nx S mg_tA
  | .aload_n k => mg_ld L k nx S mg_tA
  | .iload k => mg_ld L k nx S mg_tI
  | .iload_n k => mg_ld L k nx S mg_tI
  | .lload k => mg_ld L k nx S mg_tL
  | .lload_n k => mg_ld L k nx S mg_tL
  | .astore k => mg_st L k nx S mg_tA
  | .astore_n k => mg_st L k nx S mg_tA
  | .istore k => mg_st L k nx S mg_tI
  | .istore_n k => mg_st L k nx S mg_tI
  | .lstore k => (match S with
    | (1, z) :: r => if k + 1 < L.length then some (nx, ((mg_k L k).set k (some (1, z))).set (k + 1) none, r) else none
    | _ => none)
  | .iinc k n => (match L[k]? with
    | some (some (0, z)) => if k < L.length then some (nx, (mg_k L k).set k (some (0, z + n)), S) else none
    | _ => none)
  | .dup => (match S with
    | (0, z) :: r => some (nx, L, (0, z) :: (0, z) :: r)
    | (2, z) :: r => some (nx, L, (2, z) :: (2, z) :: r)
    | _ => none)
  | .pop => (match S with
    | (0, _) :: r => some (nx, L, r)
    | (2, _) :: r => some (nx, L, r)
    | _ => none)
  | .dup_x1 => (match S with
    | (0, z) :: (2, y) :: r => some (nx, L, (0, z) :: (2, y) :: (0, z) :: r)
    | (2, z) :: (2, y) :: r => some (nx, L, (2, z) :: (2, y) :: (2, z) :: r)
    | _ => none)
  | .dup_x2 => (match S with
    | (0, z) :: (0, y) :: (2, x) :: r => some (nx, L, (0, z) :: (0, y) :: (2, x) :: (0, z) :: r)
    | _ => none)
  | .dup2 => (match S with
    | (0, z) :: (2, y) :: r => some (nx, L, (0, z) :: (2, y) :: (0, z) :: (2, y) :: r)
    | _ => none)
  | .iadd => (match S with
    | (0, y) :: (0, x) :: r => some (nx, L, (0, x + y) :: r)
    | _ => none)
  | .isub => (match S with
    | (0, y) :: (0, x) :: r => some (nx, L, (0, x - y) :: r)
    | _ => none)
  | .imul => (match S with
    | (0, y) :: (0, x) :: r => some (nx, L, (0, x * y) :: r)
    | _ => none)
  | .ineg => (match S with
    | (0, x) :: r => some (nx, L, (0, -x) :: r)
    | _ => none)
  | .goto t => some (t.toNat, L, S)
  | .ifnull t => (match S with
    | (3, _) :: r => some (t.toNat, L, r)
    | (2, _) :: r => some (nx, L, r)
    | _ => none)
  | .ifnonnull t => (match S with
    | (2, _) :: r => some (t.toNat, L, r)
    | (3, _) :: r => some (nx, L, r)
    | _ => none)
  | .ldc_w n => if n < 2147483648 then some (nx, L, (0, (n : Int)) :: S) else none
  | .ldc2_w n => some (nx, L, (1, (n : Int)) :: S)
  | _ => none
section MGP
variable {L : mg_L} {S : List mg_V} {k nx : Nat}
theorem mg_eL_at : (mg_eL L)[k]? = (L[k]?).map (Option.map mg_e) := by simp [mg_eL]
theorem mg_eL_set (v : Option mg_V) : (mg_eL L).set k (v.map mg_e) = mg_eL (L.set k v) := by simp [mg_eL, List.map_set]
theorem mg_eL_len : (mg_eL L).length = L.length := by simp [mg_eL]
theorem mg_eS_cons (v : mg_V) : mg_eS (v :: S) = mg_e v :: mg_eS S := rfl
theorem mg_k_ok (i : Nat) : mv_kill (mg_eL L) i = mg_eL (mg_k L i) := by
  cases i with
  | zero => rfl
  | succ k =>
    unfold mv_kill mg_k
    simp only [mg_eL_at]
    cases hL : L[k]? with
    | none => rfl
    | some o =>
      cases o with
      | none => rfl
      | some v =>
        obtain ⟨t, z⟩ := v
        match t with
        | 0 => rfl
        | 1 =>
          show (mg_eL L).set k none = mg_eL (L.set k none)
          exact mg_eL_set none
        | 2 => rfl
        | t + 3 => rfl
theorem mg_ld_ok {ok : Nat → Bool} {ok2 : Value → Bool} {f' : mg_F} (hok : ∀ v : mg_V, ok v.1 = true → ok2 (mg_e v) = true) (h : mg_ld L k nx S ok = some f') : mv_ld (mg_eL L) k nx (mg_eS S) ok2 = some (mg_eF f') := by
  unfold mg_ld at h
  split at h
  · next v hv =>
    split at h
    · next hk =>
      cases h
      unfold mv_ld mv_get
      rw [mg_eL_at, hv]
      simp only [Option.map_some]
      rw [if_pos (hok v hk)]
      rfl
    · cases h
  · cases h
theorem mg_st_ok {ok : Nat → Bool} {ok2 : Value → Bool} {f' : mg_F} (hok : ∀ v : mg_V, ok v.1 = true → ok2 (mg_e v) = true) (h : mg_st L k nx S ok = some f') : mv_st (mg_eL L) k nx (mg_eS S) ok2 = some (mg_eF f') := by
  unfold mg_st at h
  split at h
  · next v r =>
    split at h
    · next hk =>
      split at h
      · next hl =>
        cases h
        unfold mv_st mv_set1
        simp only [mg_eS_cons]
        rw [if_pos (hok v hk), mg_eL_len, if_pos hl, mg_k_ok, show (some (mg_e v)) = (some v).map mg_e from rfl, mg_eL_set]
        rfl
      · cases h
    · cases h
  · cases h
theorem mg_tI_ok (v : mg_V) (h : mg_tI v.1 = true) : mv_isI (mg_e v) = true := by
  obtain ⟨t, z⟩ := v
  match t, h with
  | 0, _ => rfl
theorem mg_tL_ok (v : mg_V) (h : mg_tL v.1 = true) : mv_isL (mg_e v) = true := by
  obtain ⟨t, z⟩ := v
  match t, h with
  | 1, _ => rfl
theorem mg_tA_ok (v : mg_V) (h : mg_tA v.1 = true) : mv_ref (mg_e v) = true := by
  obtain ⟨t, z⟩ := v
  match t, h with
  | 2, _ => rfl
  | 3, _ => rfl
theorem mg_bi {n : Int} (h : -128 ≤ n ∧ n < 128) : (Int8.ofInt n).toInt32 = Int32.ofInt n := by
  apply Int32.toInt_inj.mp
  rw [Int8.toInt_toInt32, Int8.toInt_ofInt_of_le (by omega) (by omega), Int32.toInt_ofInt_of_le (by omega) (by omega)]
theorem mg_si {n : Int} (h : -32768 ≤ n ∧ n < 32768) : (Int16.ofInt n).toInt32 = Int32.ofInt n := by
  apply Int32.toInt_inj.mp
  rw [Int16.toInt_toInt32, Int16.toInt_ofInt_of_le (by omega) (by omega), Int32.toInt_ofInt_of_le (by omega) (by omega)]
set_option maxHeartbeats 2000000 in
theorem mg_pv_ok {E : mv_E} {i : Instr} {f' : mg_F} {h : mv_H} (hv : mg_pv i nx L S = some f') : mg_pl i = true ∧ mv_step E mt_cl mt_ty mt_as i nx (mg_eL L) (mg_eS S) h = some (mg_eF f', h) := by
  have lift : ∀ {i : Instr} {g : Option mv_F}, mv_pure i nx (mg_eL L) (mg_eS S) = g → g = some (mg_eF f') → (match mv_pure i nx (mg_eL L) (mg_eS S) with | some f => some (f, h) | none => none) = some (mg_eF f', h) := by
    intro i g h1 h2
    rw [h1, h2]
  cases i with
  | aconst_null => cases hv; exact ⟨rfl, rfl⟩
  | iconst n => cases hv; exact ⟨rfl, rfl⟩
  | bipush n =>
    simp only [mg_pv] at hv
    split at hv
    · next hn =>
      cases hv
      refine ⟨rfl, ?_⟩
      show some ((nx, mg_eL L, Value.int (Int8.ofInt n).toInt32 :: mg_eS S), h) = _
      rw [mg_bi hn]
      rfl
    · cases hv
  | sipush n =>
    simp only [mg_pv] at hv
    split at hv
    · next hn =>
      cases hv
      refine ⟨rfl, ?_⟩
      show some ((nx, mg_eL L, Value.int (Int16.ofInt n).toInt32 :: mg_eS S), h) = _
      rw [mg_si hn]
      rfl
    · cases hv
  | lconst n => cases hv; exact ⟨rfl, rfl⟩
  | aload k => exact ⟨rfl, lift rfl (mg_ld_ok mg_tA_ok hv)⟩
  | aload_n k => exact ⟨rfl, lift rfl (mg_ld_ok mg_tA_ok hv)⟩
  | iload k => exact ⟨rfl, lift rfl (mg_ld_ok mg_tI_ok hv)⟩
  | iload_n k => exact ⟨rfl, lift rfl (mg_ld_ok mg_tI_ok hv)⟩
  | lload k => exact ⟨rfl, lift rfl (mg_ld_ok mg_tL_ok hv)⟩
  | lload_n k => exact ⟨rfl, lift rfl (mg_ld_ok mg_tL_ok hv)⟩
  | astore k => exact ⟨rfl, lift rfl (mg_st_ok mg_tA_ok hv)⟩
  | astore_n k => exact ⟨rfl, lift rfl (mg_st_ok mg_tA_ok hv)⟩
  | istore k => exact ⟨rfl, lift rfl (mg_st_ok mg_tI_ok hv)⟩
  | istore_n k => exact ⟨rfl, lift rfl (mg_st_ok mg_tI_ok hv)⟩
  | lstore k =>
    simp only [mg_pv] at hv
    split at hv
    · next z r =>
      split at hv
      · next hl =>
        cases hv
        refine ⟨rfl, lift rfl ?_⟩
        show mv_stL (mg_eL L) k nx (mg_eS ((1, z) :: r)) = _
        unfold mv_stL mv_set2
        simp only [mg_eS_cons]
        show (match (if k + 1 < (mg_eL L).length then some (((mv_kill (mg_eL L) k).set k (some (Value.long (Int64.ofInt z)))).set (k + 1) none) else none) with | some L' => some (nx, L', mg_eS r) | none => none) = _
        rw [mg_eL_len, if_pos hl, mg_k_ok, show (some (Value.long (Int64.ofInt z))) = (some ((1, z) : mg_V)).map mg_e from rfl, mg_eL_set, show (none : Option Value) = (none : Option mg_V).map mg_e from rfl, mg_eL_set]
        rfl
      · cases hv
    · cases hv
  | iinc k n =>
    simp only [mg_pv] at hv
    split at hv
    · next z hz =>
      split at hv
      · next hl =>
        cases hv
        refine ⟨rfl, lift rfl ?_⟩
        show (match mv_get (mg_eL L) k with | some (.int x) => (match mv_set1 (mg_eL L) k (.int (x + Int32.ofInt n)) with | some L' => some (nx, L', mg_eS S) | none => none) | _ => none) = _
        have e1 : mv_get (mg_eL L) k = some (.int (Int32.ofInt z)) := by
          unfold mv_get
          rw [mg_eL_at, hz]
          rfl
        rw [e1]
        simp only []
        unfold mv_set1
        rw [mg_eL_len, if_pos hl, mg_k_ok, ← Int32.ofInt_add, show (some (Value.int (Int32.ofInt (z + n)))) = (some ((0, z + n) : mg_V)).map mg_e from rfl, mg_eL_set]
        rfl
      · cases hv
    · cases hv
  | dup =>
    simp only [mg_pv] at hv
    split at hv
    · cases hv; exact ⟨rfl, rfl⟩
    · cases hv; exact ⟨rfl, rfl⟩
    · cases hv
  | pop =>
    simp only [mg_pv] at hv
    split at hv
    · cases hv; exact ⟨rfl, rfl⟩
    · cases hv; exact ⟨rfl, rfl⟩
    · cases hv
  | dup_x1 =>
    simp only [mg_pv] at hv
    split at hv
    · cases hv; exact ⟨rfl, rfl⟩
    · cases hv; exact ⟨rfl, rfl⟩
    · cases hv
  | dup_x2 =>
    simp only [mg_pv] at hv
    split at hv
    · cases hv; exact ⟨rfl, rfl⟩
    · cases hv
  | dup2 =>
    simp only [mg_pv] at hv
    split at hv
    · cases hv; exact ⟨rfl, rfl⟩
    · cases hv
  | iadd =>
    simp only [mg_pv] at hv
    split at hv
    · next y x r =>
      cases hv
      refine ⟨rfl, ?_⟩
      show some ((nx, mg_eL L, Value.int (Int32.ofInt x + Int32.ofInt y) :: mg_eS r), h) = _
      rw [← Int32.ofInt_add]
      rfl
    · cases hv
  | isub =>
    simp only [mg_pv] at hv
    split at hv
    · next y x r =>
      cases hv
      refine ⟨rfl, ?_⟩
      show some ((nx, mg_eL L, Value.int (Int32.ofInt x - Int32.ofInt y) :: mg_eS r), h) = _
      rw [← Int32.ofInt_sub]
      rfl
    · cases hv
  | imul =>
    simp only [mg_pv] at hv
    split at hv
    · next y x r =>
      cases hv
      refine ⟨rfl, ?_⟩
      show some ((nx, mg_eL L, Value.int (Int32.ofInt x * Int32.ofInt y) :: mg_eS r), h) = _
      rw [← Int32.ofInt_mul]
      rfl
    · cases hv
  | ineg =>
    simp only [mg_pv] at hv
    split at hv
    · next x r =>
      cases hv
      refine ⟨rfl, ?_⟩
      show some ((nx, mg_eL L, Value.int (-Int32.ofInt x) :: mg_eS r), h) = _
      rw [← Int32.ofInt_neg]
      rfl
    · cases hv
  | goto t => cases hv; exact ⟨rfl, rfl⟩
  | ifnull t =>
    simp only [mg_pv] at hv
    split at hv
    · cases hv; exact ⟨rfl, rfl⟩
    · cases hv; exact ⟨rfl, rfl⟩
    · cases hv
  | ifnonnull t =>
    simp only [mg_pv] at hv
    split at hv
    · cases hv; exact ⟨rfl, rfl⟩
    · cases hv; exact ⟨rfl, rfl⟩
    · cases hv
  | ldc_w n =>
    simp only [mg_pv] at hv
    split at hv
    · cases hv
      exact ⟨rfl, rfl⟩
    · cases hv
  | ldc2_w n => cases hv; exact ⟨rfl, rfl⟩
  | _ => cases hv
end MGP
def mg_ps (j : Nat) : Nat → mg_F → Option mg_F
  | 0, f => some f
  | k + 1, f => match mg_at j f.1 with
    | some x => (match mg_pv x.2 (f.1 + x.1) f.2.1 f.2.2 with
      | some f' => mg_ps j k f'
      | none => none)
    | none => none
theorem mg_p {E : mv_E} {d j : Nat} {μ : mm_T} {Q : mg_R → mm_T → Prop} : ∀ (k : Nat) {f f' : mg_F}, mg_ps j k f = some f' → mg_w E d j f' μ Q → mg_w E d j f μ Q
  | 0, f, f', h, w => by cases h; exact w
  | k + 1, f, f', h, w => by
    rw [mg_ps] at h
    split at h
    · next x hx =>
      split at h
      · next f2 hf2 =>
        obtain ⟨h1, h2⟩ := mg_pv_ok (E := E) (h := mm_h E μ) hf2
        exact mg_step (len := x.1) (i := x.2) hx h1 h2 (mg_p k h w)
      · cases h
    · cases h
end
section
/-! steps over memory; branches; sums -/
def mm_o (E : mv_E) (μ : mm_T) (a k : Int) : Prop := mm_i E μ a ∧ μ a (-1) = k
def mm_r (E : mv_E) (μ : mm_T) (a t l : Int) : Prop := mm_i E μ a ∧ μ a (-1) = t ∧ μ a (-2) = l
def mg_ty (n : Nat) : Option FieldType := match mt_cl[n / 64]? with
  | some K => K.2.2.2.2[n % 64]?
  | none => none
def mg_fI (n : Nat) : Bool := match mg_ty n with
  | some .int => true
  | some .boolean => true
  | _ => false
def mg_fN (n : Nat) : Bool := match mg_ty n with
  | some .int => true
  | _ => false
def mg_fZ (n : Nat) : Bool := match mg_ty n with
  | some .boolean => true
  | _ => false
def mg_fL (n : Nat) : Bool := match mg_ty n with
  | some .long => true
  | _ => false
def mg_fA (n : Nat) : Bool := match mg_ty n with
  | some (.object _) => true
  | some (.array _) => true
  | _ => false
def mg_aA (t : Nat) : Bool := match mt_ty[t]? with
  | some (.object _) => true
  | _ => false
section MGH
variable {E : mv_E} {d j pc pn pt : Nat} {L : mg_L} {S : List mg_V} {μ : mm_T} {Q : mg_R → mm_T → Prop} {x y z a v i k l : Int} {n : Nat}
theorem mm_o.u {b w u : Int} (h : mm_o E μ a k) (hw : 0 ≤ w) (hb : 0 ≤ b) : mm_o E (mm_u μ b w u) a k := by
  obtain ⟨⟨h1, h2⟩, h3⟩ := h
  refine ⟨⟨h1, ?_⟩, ?_⟩
  · rw [mm_u_ne (by omega)]; exact h2
  · rw [mm_u_ne (by omega)]; exact h3
theorem mm_r.u {b w u t : Int} (h : mm_r E μ a t l) (hw : 0 ≤ w) (hb : 0 ≤ b) : mm_r E (mm_u μ b w u) a t l := by
  obtain ⟨⟨h1, h2⟩, h3, h4⟩ := h
  refine ⟨⟨h1, ?_⟩, ?_, ?_⟩
  · rw [mm_u_ne (by omega)]; exact h2
  · rw [mm_u_ne (by omega)]; exact h3
  · rw [mm_u_ne (by omega)]; exact h4
theorem mm_i.pos (h : mm_i E μ a) : 0 ≤ a := by have := h.1; omega
theorem mg_ti (h : -2147483648 ≤ z ∧ z < 2147483648) : (Int32.ofInt z).toInt = z := Int32.toInt_ofInt_of_le (by omega) (by omega)
theorem mg_tn (h : 0 ≤ z ∧ z < 2147483648) : (Int32.ofInt z).toNatClampNeg = z.toNat := by
  show (Int32.ofInt z).toInt.toNat = z.toNat
  rw [mg_ti (by omega)]
theorem mg_lt (hx : -2147483648 ≤ x ∧ x < 2147483648) (hy : -2147483648 ≤ y ∧ y < 2147483648) : (Int32.ofInt x < Int32.ofInt y) ↔ x < y := by rw [Int32.lt_iff_toInt_lt, mg_ti hx, mg_ti hy]
theorem mg_le (hx : -2147483648 ≤ x ∧ x < 2147483648) (hy : -2147483648 ≤ y ∧ y < 2147483648) : (Int32.ofInt x ≤ Int32.ofInt y) ↔ x ≤ y := by rw [Int32.le_iff_toInt_le, mg_ti hx, mg_ti hy]
theorem mg_eq (hx : -2147483648 ≤ x ∧ x < 2147483648) (hy : -2147483648 ≤ y ∧ y < 2147483648) : (Int32.ofInt x = Int32.ofInt y) ↔ x = y := by rw [← Int32.toInt_inj, mg_ti hx, mg_ti hy]
theorem mg_0 : (0 : Int32) = Int32.ofInt 0 := rfl
theorem mg_b1 {c : ClassFile.Cond} {t : Int} (hr : mg_at j pc = some (3, .ifCond c t)) (k1 : mv_c1 c (Int32.ofInt z) = true → mg_w E d j (t.toNat, L, S) μ Q) (k2 : mv_c1 c (Int32.ofInt z) = false → mg_w E d j (pc + 3, L, S) μ Q) : mg_w E d j (pc, L, (0, z) :: S) μ Q := by
  have e : mv_step E mt_cl mt_ty mt_as (.ifCond c t) (pc + 3) (mg_eL L) (mg_eS ((0, z) :: S)) (mm_h E μ) = some (mv_go (mv_c1 c (Int32.ofInt z)) t (pc + 3) (mg_eL L) (mg_eS S), mm_h E μ) := rfl
  cases h : mv_c1 c (Int32.ofInt z) with
  | true => exact mg_step (f' := (t.toNat, L, S)) hr rfl (by rw [e, h]; rfl) (k1 h)
  | false => exact mg_step (f' := (pc + 3, L, S)) hr rfl (by rw [e, h]; rfl) (k2 h)
theorem mg_b2 {c : ClassFile.Cond} {t : Int} (hr : mg_at j pc = some (3, .if_icmp c t)) (k1 : mv_c2 c (Int32.ofInt x) (Int32.ofInt y) = true → mg_w E d j (t.toNat, L, S) μ Q) (k2 : mv_c2 c (Int32.ofInt x) (Int32.ofInt y) = false → mg_w E d j (pc + 3, L, S) μ Q) : mg_w E d j (pc, L, (0, y) :: (0, x) :: S) μ Q := by
  have e : mv_step E mt_cl mt_ty mt_as (.if_icmp c t) (pc + 3) (mg_eL L) (mg_eS ((0, y) :: (0, x) :: S)) (mm_h E μ) = some (mv_go (mv_c2 c (Int32.ofInt x) (Int32.ofInt y)) t (pc + 3) (mg_eL L) (mg_eS S), mm_h E μ) := rfl
  cases h : mv_c2 c (Int32.ofInt x) (Int32.ofInt y) with
  | true => exact mg_step (f' := (t.toNat, L, S)) hr rfl (by rw [e, h]; rfl) (k1 h)
  | false => exact mg_step (f' := (pc + 3, L, S)) hr rfl (by rw [e, h]; rfl) (k2 h)
theorem mg_eq1 {t : Int} (hr : mg_at j pc = some (3, .ifCond .eq t)) (ht : t.toNat = pt) (hn : pc + 3 = pn) (hb : -2147483648 ≤ z ∧ z < 2147483648) (k1 : z = 0 → mg_w E d j (pt, L, S) μ Q) (k2 : z ≠ 0 → mg_w E d j (pn, L, S) μ Q) : mg_w E d j (pc, L, (0, z) :: S) μ Q := by
  subst ht hn
  exact mg_b1 hr (fun h => k1 ((mg_eq hb (by omega)).mp (of_decide_eq_true h))) (fun h => k2 (fun e => of_decide_eq_false h ((mg_eq hb (by omega)).mpr e)))
theorem mg_ne1 {t : Int} (hr : mg_at j pc = some (3, .ifCond .ne t)) (ht : t.toNat = pt) (hn : pc + 3 = pn) (hb : -2147483648 ≤ z ∧ z < 2147483648) (k1 : z ≠ 0 → mg_w E d j (pt, L, S) μ Q) (k2 : z = 0 → mg_w E d j (pn, L, S) μ Q) : mg_w E d j (pc, L, (0, z) :: S) μ Q := by
  subst ht hn
  refine mg_b1 hr (fun h => k1 (fun e => of_decide_eq_true h ((mg_eq hb (by omega)).mpr e))) (fun h => k2 ?_)
  exact (mg_eq hb (by omega)).mp (Decidable.not_not.mp (of_decide_eq_false h))
theorem mg_lt1 {t : Int} (hr : mg_at j pc = some (3, .ifCond .lt t)) (ht : t.toNat = pt) (hn : pc + 3 = pn) (hb : -2147483648 ≤ z ∧ z < 2147483648) (k1 : z < 0 → mg_w E d j (pt, L, S) μ Q) (k2 : 0 ≤ z → mg_w E d j (pn, L, S) μ Q) : mg_w E d j (pc, L, (0, z) :: S) μ Q := by
  subst ht hn
  exact mg_b1 hr (fun h => k1 ((mg_lt hb (by omega)).mp (of_decide_eq_true h))) (fun h => k2 (Int.not_lt.mp fun e => of_decide_eq_false h ((mg_lt hb (by omega)).mpr e)))
theorem mg_ge1 {t : Int} (hr : mg_at j pc = some (3, .ifCond .ge t)) (ht : t.toNat = pt) (hn : pc + 3 = pn) (hb : -2147483648 ≤ z ∧ z < 2147483648) (k1 : 0 ≤ z → mg_w E d j (pt, L, S) μ Q) (k2 : z < 0 → mg_w E d j (pn, L, S) μ Q) : mg_w E d j (pc, L, (0, z) :: S) μ Q := by
  subst ht hn
  exact mg_b1 hr (fun h => k1 ((mg_le (by omega) hb).mp (of_decide_eq_true h))) (fun h => k2 (Int.not_le.mp fun e => of_decide_eq_false h ((mg_le (by omega) hb).mpr e)))
theorem mg_gt1 {t : Int} (hr : mg_at j pc = some (3, .ifCond .gt t)) (ht : t.toNat = pt) (hn : pc + 3 = pn) (hb : -2147483648 ≤ z ∧ z < 2147483648) (k1 : 0 < z → mg_w E d j (pt, L, S) μ Q) (k2 : z ≤ 0 → mg_w E d j (pn, L, S) μ Q) : mg_w E d j (pc, L, (0, z) :: S) μ Q := by
  subst ht hn
  exact mg_b1 hr (fun h => k1 ((mg_lt (by omega) hb).mp (of_decide_eq_true h))) (fun h => k2 (Int.not_lt.mp fun e => of_decide_eq_false h ((mg_lt (by omega) hb).mpr e)))
theorem mg_le1 {t : Int} (hr : mg_at j pc = some (3, .ifCond .le t)) (ht : t.toNat = pt) (hn : pc + 3 = pn) (hb : -2147483648 ≤ z ∧ z < 2147483648) (k1 : z ≤ 0 → mg_w E d j (pt, L, S) μ Q) (k2 : 0 < z → mg_w E d j (pn, L, S) μ Q) : mg_w E d j (pc, L, (0, z) :: S) μ Q := by
  subst ht hn
  exact mg_b1 hr (fun h => k1 ((mg_le hb (by omega)).mp (of_decide_eq_true h))) (fun h => k2 (Int.not_le.mp fun e => of_decide_eq_false h ((mg_le hb (by omega)).mpr e)))
theorem mg_eq2 {t : Int} (hr : mg_at j pc = some (3, .if_icmp .eq t)) (ht : t.toNat = pt) (hn : pc + 3 = pn) (hx : -2147483648 ≤ x ∧ x < 2147483648) (hy : -2147483648 ≤ y ∧ y < 2147483648) (k1 : x = y → mg_w E d j (pt, L, S) μ Q) (k2 : x ≠ y → mg_w E d j (pn, L, S) μ Q) : mg_w E d j (pc, L, (0, y) :: (0, x) :: S) μ Q := by
  subst ht hn
  exact mg_b2 hr (fun h => k1 ((mg_eq hx hy).mp (of_decide_eq_true h))) (fun h => k2 (fun e => of_decide_eq_false h ((mg_eq hx hy).mpr e)))
theorem mg_ne2 {t : Int} (hr : mg_at j pc = some (3, .if_icmp .ne t)) (ht : t.toNat = pt) (hn : pc + 3 = pn) (hx : -2147483648 ≤ x ∧ x < 2147483648) (hy : -2147483648 ≤ y ∧ y < 2147483648) (k1 : x ≠ y → mg_w E d j (pt, L, S) μ Q) (k2 : x = y → mg_w E d j (pn, L, S) μ Q) : mg_w E d j (pc, L, (0, y) :: (0, x) :: S) μ Q := by
  subst ht hn
  refine mg_b2 hr (fun h => k1 (fun e => of_decide_eq_true h ((mg_eq hx hy).mpr e))) (fun h => k2 ?_)
  exact (mg_eq hx hy).mp (Decidable.not_not.mp (of_decide_eq_false h))
theorem mg_lt2 {t : Int} (hr : mg_at j pc = some (3, .if_icmp .lt t)) (ht : t.toNat = pt) (hn : pc + 3 = pn) (hx : -2147483648 ≤ x ∧ x < 2147483648) (hy : -2147483648 ≤ y ∧ y < 2147483648) (k1 : x < y → mg_w E d j (pt, L, S) μ Q) (k2 : y ≤ x → mg_w E d j (pn, L, S) μ Q) : mg_w E d j (pc, L, (0, y) :: (0, x) :: S) μ Q := by
  subst ht hn
  exact mg_b2 hr (fun h => k1 ((mg_lt hx hy).mp (of_decide_eq_true h))) (fun h => k2 (Int.not_lt.mp fun e => of_decide_eq_false h ((mg_lt hx hy).mpr e)))
theorem mg_ge2 {t : Int} (hr : mg_at j pc = some (3, .if_icmp .ge t)) (ht : t.toNat = pt) (hn : pc + 3 = pn) (hx : -2147483648 ≤ x ∧ x < 2147483648) (hy : -2147483648 ≤ y ∧ y < 2147483648) (k1 : y ≤ x → mg_w E d j (pt, L, S) μ Q) (k2 : x < y → mg_w E d j (pn, L, S) μ Q) : mg_w E d j (pc, L, (0, y) :: (0, x) :: S) μ Q := by
  subst ht hn
  exact mg_b2 hr (fun h => k1 ((mg_le hy hx).mp (of_decide_eq_true h))) (fun h => k2 (Int.not_le.mp fun e => of_decide_eq_false h ((mg_le hy hx).mpr e)))
theorem mg_gt2 {t : Int} (hr : mg_at j pc = some (3, .if_icmp .gt t)) (ht : t.toNat = pt) (hn : pc + 3 = pn) (hx : -2147483648 ≤ x ∧ x < 2147483648) (hy : -2147483648 ≤ y ∧ y < 2147483648) (k1 : y < x → mg_w E d j (pt, L, S) μ Q) (k2 : x ≤ y → mg_w E d j (pn, L, S) μ Q) : mg_w E d j (pc, L, (0, y) :: (0, x) :: S) μ Q := by
  subst ht hn
  exact mg_b2 hr (fun h => k1 ((mg_lt hy hx).mp (of_decide_eq_true h))) (fun h => k2 (Int.not_lt.mp fun e => of_decide_eq_false h ((mg_lt hy hx).mpr e)))
theorem mg_le2 {t : Int} (hr : mg_at j pc = some (3, .if_icmp .le t)) (ht : t.toNat = pt) (hn : pc + 3 = pn) (hx : -2147483648 ≤ x ∧ x < 2147483648) (hy : -2147483648 ≤ y ∧ y < 2147483648) (k1 : x ≤ y → mg_w E d j (pt, L, S) μ Q) (k2 : y < x → mg_w E d j (pn, L, S) μ Q) : mg_w E d j (pc, L, (0, y) :: (0, x) :: S) μ Q := by
  subst ht hn
  exact mg_b2 hr (fun h => k1 ((mg_le hx hy).mp (of_decide_eq_true h))) (fun h => k2 (Int.not_le.mp fun e => of_decide_eq_false h ((mg_le hx hy).mpr e)))
/-- two references compared -/
theorem mg_acq {t : Int} (hr : mg_at j pc = some (3, .if_acmp .eq t)) (ht : t.toNat = pt) (hn : pc + 3 = pn) (hx : 0 ≤ x) (hy : 0 ≤ y) (k1 : x = y → mg_w E d j (pt, L, S) μ Q) (k2 : x ≠ y → mg_w E d j (pn, L, S) μ Q) : mg_w E d j (pc, L, (2, y) :: (2, x) :: S) μ Q := by
  subst ht hn
  have e : mv_step E mt_cl mt_ty mt_as (.if_acmp .eq t) (pc + 3) (mg_eL L) (mg_eS ((2, y) :: (2, x) :: S)) (mm_h E μ) = some (mv_go (decide (x.toNat = y.toNat)) t (pc + 3) (mg_eL L) (mg_eS S), mm_h E μ) := rfl
  by_cases h : x = y
  · exact mg_step (f' := (t.toNat, L, S)) hr rfl (by rw [e, decide_eq_true (by omega)]; rfl) (k1 h)
  · exact mg_step (f' := (pc + 3, L, S)) hr rfl (by rw [e, decide_eq_false (by omega)]; rfl) (k2 h)
theorem mg_acn {t : Int} (hr : mg_at j pc = some (3, .if_acmp .ne t)) (ht : t.toNat = pt) (hn : pc + 3 = pn) (hx : 0 ≤ x) (hy : 0 ≤ y) (k1 : x ≠ y → mg_w E d j (pt, L, S) μ Q) (k2 : x = y → mg_w E d j (pn, L, S) μ Q) : mg_w E d j (pc, L, (2, y) :: (2, x) :: S) μ Q := by
  subst ht hn
  have e : mv_step E mt_cl mt_ty mt_as (.if_acmp .ne t) (pc + 3) (mg_eL L) (mg_eS ((2, y) :: (2, x) :: S)) (mm_h E μ) = some (mv_go (!decide (x.toNat = y.toNat)) t (pc + 3) (mg_eL L) (mg_eS S), mm_h E μ) := rfl
  by_cases h : x = y
  · exact mg_step (f' := (pc + 3, L, S)) hr rfl (by rw [e, decide_eq_true (by omega)]; rfl) (k2 h)
  · exact mg_step (f' := (t.toNat, L, S)) hr rfl (by rw [e, decide_eq_false (by omega)]; rfl) (k1 h)
/-- a reference and null compared -/
theorem mg_acn0 {t : Int} (hr : mg_at j pc = some (3, .if_acmp .ne t)) (ht : t.toNat = pt) (hn : pc + 3 = pn) (k1 : mg_w E d j (pt, L, S) μ Q) : mg_w E d j (pc, L, (3, y) :: (2, x) :: S) μ Q := by
  subst ht hn
  exact mg_step (f' := (t.toNat, L, S)) hr rfl rfl k1
theorem mg_acq0 {t : Int} (hr : mg_at j pc = some (3, .if_acmp .eq t)) (ht : t.toNat = pt) (hn : pc + 3 = pn) (k1 : mg_w E d j (pn, L, S) μ Q) : mg_w E d j (pc, L, (3, y) :: (2, x) :: S) μ Q := by
  subst ht hn
  exact mg_step (f' := (pc + 3, L, S)) hr rfl rfl k1
theorem mg_idiv (hr : mg_at j pc = some (1, .idiv)) (hn : pc + 1 = pn) (hx : 0 ≤ x ∧ x < 2147483648) (hy : 0 < y ∧ y < 2147483648) (k : mg_w E d j (pn, L, (0, x / y) :: S) μ Q) : mg_w E d j (pc, L, (0, y) :: (0, x) :: S) μ Q := by
  subst hn
  have h0 : ¬ Int32.ofInt y = 0 := fun e => by have := (mg_eq (x := y) (y := 0) (by omega) (by omega)).mp e; omega
  have hd : Int32.ofInt x / Int32.ofInt y = Int32.ofInt (x / y) := by
    apply Int32.toInt_inj.mp
    have h1 : x / y ≤ x := Int.ediv_le_self y hx.1
    have h2 : 0 ≤ x / y := Int.ediv_nonneg hx.1 (by omega)
    rw [Int32.toInt_div_of_ne_left _ _ (fun e => by
      have := congrArg Int32.toInt e
      rw [mg_ti (by omega)] at this
      have h9 : Int32.minValue.toInt = -2147483648 := rfl
      omega), mg_ti (by omega), mg_ti (by omega), mg_ti (by omega), Int.tdiv_eq_ediv_of_nonneg hx.1]
  have e : mv_step E mt_cl mt_ty mt_as .idiv (pc + 1) (mg_eL L) (mg_eS ((0, y) :: (0, x) :: S)) (mm_h E μ) = (match (if Int32.ofInt y = 0 then none else some (pc + 1, mg_eL L, Value.int (Int32.ofInt x / Int32.ofInt y) :: mg_eS S)) with | some f => some (f, mm_h E μ) | none => none) := rfl
  exact mg_step (f' := (pc + 1, L, (0, x / y) :: S)) hr rfl (by rw [e, if_neg h0, hd]; rfl) k
theorem mg_irem (hr : mg_at j pc = some (1, .irem)) (hn : pc + 1 = pn) (hx : 0 ≤ x ∧ x < 2147483648) (hy : 0 < y ∧ y < 2147483648) (k : mg_w E d j (pn, L, (0, x % y) :: S) μ Q) : mg_w E d j (pc, L, (0, y) :: (0, x) :: S) μ Q := by
  subst hn
  have h0 : ¬ Int32.ofInt y = 0 := fun e => by have := (mg_eq (x := y) (y := 0) (by omega) (by omega)).mp e; omega
  have hd : Int32.ofInt x / Int32.ofInt y = Int32.ofInt (x / y) := by
    apply Int32.toInt_inj.mp
    have h1 : x / y ≤ x := Int.ediv_le_self y hx.1
    have h2 : 0 ≤ x / y := Int.ediv_nonneg hx.1 (by omega)
    rw [Int32.toInt_div_of_ne_left _ _ (fun e => by
      have := congrArg Int32.toInt e
      rw [mg_ti (by omega)] at this
      have h9 : Int32.minValue.toInt = -2147483648 := rfl
      omega), mg_ti (by omega), mg_ti (by omega), mg_ti (by omega), Int.tdiv_eq_ediv_of_nonneg hx.1]
  have hm : Int32.ofInt x - Int32.ofInt x / Int32.ofInt y * Int32.ofInt y = Int32.ofInt (x % y) := by
    rw [hd, ← Int32.ofInt_mul, ← Int32.ofInt_sub, Int.emod_def, Int.mul_comm]
  have e : mv_step E mt_cl mt_ty mt_as .irem (pc + 1) (mg_eL L) (mg_eS ((0, y) :: (0, x) :: S)) (mm_h E μ) = (match (if Int32.ofInt y = 0 then none else some (pc + 1, mg_eL L, Value.int (Int32.ofInt x - Int32.ofInt x / Int32.ofInt y * Int32.ofInt y) :: mg_eS S)) with | some f => some (f, mm_h E μ) | none => none) := rfl
  exact mg_step (f' := (pc + 1, L, (0, x % y) :: S)) hr rfl (by rw [e, if_neg h0, hm]; rfl) k
theorem mg_iand (hr : mg_at j pc = some (1, .iand)) (hn : pc + 1 = pn) (hz : Int32.ofInt x &&& Int32.ofInt y = Int32.ofInt z) (k : mg_w E d j (pn, L, (0, z) :: S) μ Q) : mg_w E d j (pc, L, (0, y) :: (0, x) :: S) μ Q := by
  subst hn
  have e : mv_step E mt_cl mt_ty mt_as .iand (pc + 1) (mg_eL L) (mg_eS ((0, y) :: (0, x) :: S)) (mm_h E μ) = some ((pc + 1, mg_eL L, Value.int (Int32.ofInt x &&& Int32.ofInt y) :: mg_eS S), mm_h E μ) := rfl
  exact mg_step (f' := (pc + 1, L, (0, z) :: S)) hr rfl (by rw [e, hz]; rfl) k
theorem mg_ishl (hr : mg_at j pc = some (1, .ishl)) (hn : pc + 1 = pn) (hz : Int32.ofInt x <<< (Int32.ofInt y &&& 31) = Int32.ofInt z) (k : mg_w E d j (pn, L, (0, z) :: S) μ Q) : mg_w E d j (pc, L, (0, y) :: (0, x) :: S) μ Q := by
  subst hn
  have e : mv_step E mt_cl mt_ty mt_as .ishl (pc + 1) (mg_eL L) (mg_eS ((0, y) :: (0, x) :: S)) (mm_h E μ) = some ((pc + 1, mg_eL L, Value.int (Int32.ofInt x <<< (Int32.ofInt y &&& 31)) :: mg_eS S), mm_h E μ) := rfl
  exact mg_step (f' := (pc + 1, L, (0, z) :: S)) hr rfl (by rw [e, hz]; rfl) k
theorem mg_ishr (hr : mg_at j pc = some (1, .ishr)) (hn : pc + 1 = pn) (hz : Int32.ofInt x >>> (Int32.ofInt y &&& 31) = Int32.ofInt z) (k : mg_w E d j (pn, L, (0, z) :: S) μ Q) : mg_w E d j (pc, L, (0, y) :: (0, x) :: S) μ Q := by
  subst hn
  have e : mv_step E mt_cl mt_ty mt_as .ishr (pc + 1) (mg_eL L) (mg_eS ((0, y) :: (0, x) :: S)) (mm_h E μ) = some ((pc + 1, mg_eL L, Value.int (Int32.ofInt x >>> (Int32.ofInt y &&& 31)) :: mg_eS S), mm_h E μ) := rfl
  exact mg_step (f' := (pc + 1, L, (0, z) :: S)) hr rfl (by rw [e, hz]; rfl) k
theorem mg_i2l (hr : mg_at j pc = some (1, .i2l)) (hn : pc + 1 = pn) (k : mg_w E d j (pn, L, (1, z.bmod 4294967296) :: S) μ Q) : mg_w E d j (pc, L, (0, z) :: S) μ Q := by
  subst hn
  have e : mv_step E mt_cl mt_ty mt_as .i2l (pc + 1) (mg_eL L) (mg_eS ((0, z) :: S)) (mm_h E μ) = some ((pc + 1, mg_eL L, Value.long (Int32.ofInt z).toInt64 :: mg_eS S), mm_h E μ) := rfl
  have h1 : (Int32.ofInt z).toInt64 = Int64.ofInt (z.bmod 4294967296) := by
    rw [← Int64.ofInt_int32ToInt, Int32.toInt_ofInt]
  exact mg_step (f' := (pc + 1, L, (1, z.bmod 4294967296) :: S)) hr rfl (by rw [e, h1]; rfl) k
theorem mg_tsw {w lo hi : Int} {ts : Array Int} {len : Nat} (hr : mg_at j pc = some (len, .tableswitch w lo hi ts)) (hb : -2147483648 ≤ z ∧ z < 2147483648) (k : mg_w E d j ((mv_sw z w lo hi ts.toList).toNat, L, S) μ Q) : mg_w E d j (pc, L, (0, z) :: S) μ Q := by
  have e : mv_step E mt_cl mt_ty mt_as (.tableswitch w lo hi ts) (pc + len) (mg_eL L) (mg_eS ((0, z) :: S)) (mm_h E μ) = some (((mv_sw (Int32.ofInt z).toInt w lo hi ts.toList).toNat, mg_eL L, mg_eS S), mm_h E μ) := rfl
  exact mg_step (f' := ((mv_sw z w lo hi ts.toList).toNat, L, S)) hr rfl (by rw [e, mg_ti hb]; rfl) k
/-! objects -/
theorem mm_co {c : Nat} (hk : μ a (-1) = 100 + (c : Int)) : mm_c μ a = .inr (c, fun i => md_f c i (μ a i)) := by
  unfold mm_c
  rw [if_neg (by omega), show (μ a (-1) - 100).toNat = c by omega]
theorem mm_ca {t : Nat} (hk : μ a (-1) = (t : Int)) (ht : t < 100) : mm_c μ a = .inl (t, (μ a (-2)).toNat, fun i => md_a t (μ a i)) := by
  unfold mm_c
  rw [if_pos (by omega), show (μ a (-1)).toNat = t by omega]
theorem mg_ty_f {ty : FieldType} (h : mg_ty n = some ty) : md_f (n / 64) (n % 64) z = md_t ty z := by
  unfold mg_ty at h
  unfold md_f
  split at h
  · next K hK => simp only [hK, h]
  · cases h
theorem mg_gf0 {w : mg_V} (hr : mg_at j pc = some (3, .getfield n)) (ho : mm_o E μ a k) (hc : k = 100 + ((n / 64 : Nat) : Int)) (hw : md_f (n / 64) (n % 64) (μ a ((n % 64 : Nat) : Int)) = mg_e w) (kk : mg_w E d j (pc + 3, L, w :: S) μ Q) : mg_w E d j (pc, L, (2, a) :: S) μ Q := by
  subst hc
  refine mg_step (f' := (pc + 3, L, w :: S)) hr rfl ?_ kk
  show (match mv_lk E.1 (mm_h E μ) a.toNat with | some (.inr y) => if y.1 = n / 64 then some ((pc + 3, mg_eL L, y.2 (n % 64) :: mg_eS S), mm_h E μ) else none | _ => none) = _
  rw [mm_lk ho.1, mm_co ho.2]
  simp only [if_true]
  rw [hw]
  rfl
theorem mg_gI (hr : mg_at j pc = some (3, .getfield n)) (hn : pc + 3 = pn) (ht : mg_fI n = true) (hc : k = 100 + ((n / 64 : Nat) : Int)) (hf : ((n % 64 : Nat) : Int) = i) (ho : mm_o E μ a k) (kk : mg_w E d j (pn, L, (0, μ a i) :: S) μ Q) : mg_w E d j (pc, L, (2, a) :: S) μ Q := by
  subst hn hf
  refine mg_gf0 (w := (0, μ a ((n % 64 : Nat) : Int))) hr ho hc ?_ kk
  unfold mg_fI at ht
  split at ht
  · next h => rw [mg_ty_f h]; rfl
  · next h => rw [mg_ty_f h]; rfl
  · cases ht
theorem mg_gL (hr : mg_at j pc = some (3, .getfield n)) (hn : pc + 3 = pn) (ht : mg_fL n = true) (hc : k = 100 + ((n / 64 : Nat) : Int)) (hf : ((n % 64 : Nat) : Int) = i) (ho : mm_o E μ a k) (kk : mg_w E d j (pn, L, (1, μ a i) :: S) μ Q) : mg_w E d j (pc, L, (2, a) :: S) μ Q := by
  subst hn hf
  refine mg_gf0 (w := (1, μ a ((n % 64 : Nat) : Int))) hr ho hc ?_ kk
  unfold mg_fL at ht
  split at ht
  · next h => rw [mg_ty_f h]; rfl
  · cases ht
theorem mg_fA_of (ht : mg_fA n = true) : md_f (n / 64) (n % 64) z = if z < 0 then .null else .ref z.toNat := by
  unfold mg_fA at ht
  split at ht
  · next h => rw [mg_ty_f h]; rfl
  · next h => rw [mg_ty_f h]; rfl
  · cases ht
theorem mg_gR (hr : mg_at j pc = some (3, .getfield n)) (hn : pc + 3 = pn) (ht : mg_fA n = true) (hc : k = 100 + ((n / 64 : Nat) : Int)) (hf : ((n % 64 : Nat) : Int) = i) (ho : mm_o E μ a k) (h0 : 0 ≤ μ a i) (kk : mg_w E d j (pn, L, (2, μ a i) :: S) μ Q) : mg_w E d j (pc, L, (2, a) :: S) μ Q := by
  subst hn hf
  refine mg_gf0 (w := (2, μ a ((n % 64 : Nat) : Int))) hr ho hc ?_ kk
  rw [mg_fA_of ht, if_neg (by omega)]
  rfl
theorem mg_gN (hr : mg_at j pc = some (3, .getfield n)) (hn : pc + 3 = pn) (ht : mg_fA n = true) (hc : k = 100 + ((n / 64 : Nat) : Int)) (hf : ((n % 64 : Nat) : Int) = i) (ho : mm_o E μ a k) (h0 : μ a i < 0) (kk : mg_w E d j (pn, L, (3, 0) :: S) μ Q) : mg_w E d j (pc, L, (2, a) :: S) μ Q := by
  subst hn hf
  refine mg_gf0 (w := (3, 0)) hr ho hc ?_ kk
  rw [mg_fA_of ht, if_pos h0]
  rfl
theorem mg_gA (hr : mg_at j pc = some (3, .getfield n)) (hn : pc + 3 = pn) (ht : mg_fA n = true) (hc : k = 100 + ((n / 64 : Nat) : Int)) (hf : ((n % 64 : Nat) : Int) = i) (ho : mm_o E μ a k) (k1 : 0 ≤ μ a i → mg_w E d j (pn, L, (2, μ a i) :: S) μ Q) (k2 : μ a i < 0 → mg_w E d j (pn, L, (3, 0) :: S) μ Q) : mg_w E d j (pc, L, (2, a) :: S) μ Q := by
  by_cases h0 : μ a i < 0
  · exact mg_gN hr hn ht hc hf ho h0 (k2 h0)
  · exact mg_gR hr hn ht hc hf ho (by omega) (k1 (by omega))
theorem mg_pf0 {w : mg_V} {u : Int} {ty : FieldType} (hr : mg_at j pc = some (3, .putfield n)) (hty : mg_ty n = some ty) (ho : mm_o E μ a k) (hc : k = 100 + ((n / 64 : Nat) : Int)) (hw : md_t ty u = mg_e w) (hfit : fits ty (mg_e w) = true) (hs : mv_tS ty = true) (kk : mg_w E d j (pc + 3, L, S) (mm_u μ a ((n % 64 : Nat) : Int) u) Q) : mg_w E d j (pc, L, w :: (2, a) :: S) μ Q := by
  subst hc
  refine mg_step (f' := (pc + 3, L, S)) hr rfl ?_ kk
  have hty2 : ∃ K, mt_cl[n / 64]? = some K ∧ K.2.2.2.2[n % 64]? = some ty := by
    unfold mg_ty at hty
    split at hty
    · next K hK => exact ⟨K, hK, hty⟩
    · cases hty
  obtain ⟨K, hK, hKt⟩ := hty2
  show (match mv_lk E.1 (mm_h E μ) a.toNat with | some (.inr y) => (match mt_cl[n / 64]? with | some K => (match K.2.2.2.2[n % 64]? with | some ty => if y.1 = n / 64 ∧ fits ty (mg_e w) = true ∧ mv_tS ty = true then some ((pc + 3, mg_eL L, mg_eS S), mv_up E.1 (mm_h E μ) a.toNat (.inr (n / 64, updV y.2 (n % 64) (mg_e w)))) else none | none => none) | none => none) | _ => none) = _
  rw [mm_lk ho.1, mm_co ho.2]
  simp only [hK, hKt]
  rw [if_pos ⟨trivial, hfit, hs⟩]
  have hup : mv_up E.1 (mm_h E μ) a.toNat (.inr (n / 64, updV (fun i => md_f (n / 64) i (μ a i)) (n % 64) (mg_e w))) = mm_h E (mm_u μ a ((n % 64 : Nat) : Int) u) := by
    refine mm_upd ho.1 ?_
    rw [mm_co (c := n / 64) (by rw [mm_u_ne (by omega)]; exact ho.2)]
    congr 2
    funext q
    by_cases hq : q = n % 64
    · subst hq
      simp only [updV, if_true, mm_u_at]
      rw [mg_ty_f hty, hw]
    · rw [mm_u_ne (by omega)]
      simp [updV, hq]
  rw [hup]
  rfl
theorem mg_pI (hr : mg_at j pc = some (3, .putfield n)) (hn : pc + 3 = pn) (ht : mg_ty n = some .int) (hc : k = 100 + ((n / 64 : Nat) : Int)) (hf : ((n % 64 : Nat) : Int) = i) (ho : mm_o E μ a k) (kk : mg_w E d j (pn, L, S) (mm_u μ a i z) Q) : mg_w E d j (pc, L, (0, z) :: (2, a) :: S) μ Q := by
  subst hn hf
  exact mg_pf0 hr ht ho hc rfl rfl rfl kk
theorem mg_pZ (hr : mg_at j pc = some (3, .putfield n)) (hn : pc + 3 = pn) (ht : mg_ty n = some .boolean) (hc : k = 100 + ((n / 64 : Nat) : Int)) (hf : ((n % 64 : Nat) : Int) = i) (ho : mm_o E μ a k) (hz : z = 0 ∨ z = 1) (kk : mg_w E d j (pn, L, S) (mm_u μ a i z) Q) : mg_w E d j (pc, L, (0, z) :: (2, a) :: S) μ Q := by
  subst hn hf
  refine mg_pf0 hr ht ho hc rfl ?_ rfl kk
  rcases hz with rfl | rfl <;> rfl
theorem mg_pL (hr : mg_at j pc = some (3, .putfield n)) (hn : pc + 3 = pn) (ht : mg_ty n = some .long) (hc : k = 100 + ((n / 64 : Nat) : Int)) (hf : ((n % 64 : Nat) : Int) = i) (ho : mm_o E μ a k) (kk : mg_w E d j (pn, L, S) (mm_u μ a i z) Q) : mg_w E d j (pc, L, (1, z) :: (2, a) :: S) μ Q := by
  subst hn hf
  exact mg_pf0 hr ht ho hc rfl rfl rfl kk
theorem mg_pA (hr : mg_at j pc = some (3, .putfield n)) (hn : pc + 3 = pn) (ht : mg_fA n = true) (hc : k = 100 + ((n / 64 : Nat) : Int)) (hf : ((n % 64 : Nat) : Int) = i) (ho : mm_o E μ a k) (hz : 0 ≤ z) (kk : mg_w E d j (pn, L, S) (mm_u μ a i z) Q) : mg_w E d j (pc, L, (2, z) :: (2, a) :: S) μ Q := by
  subst hn hf
  unfold mg_fA at ht
  split at ht
  · next h => exact mg_pf0 (u := z) hr h ho hc (by show (if z < 0 then Value.null else .ref z.toNat) = _; rw [if_neg (by omega)]; rfl) rfl rfl kk
  · next h => exact mg_pf0 (u := z) hr h ho hc (by show (if z < 0 then Value.null else .ref z.toNat) = _; rw [if_neg (by omega)]; rfl) rfl rfl kk
  · cases ht
theorem mg_pN (hr : mg_at j pc = some (3, .putfield n)) (hn : pc + 3 = pn) (ht : mg_fA n = true) (hc : k = 100 + ((n / 64 : Nat) : Int)) (hf : ((n % 64 : Nat) : Int) = i) (ho : mm_o E μ a k) (kk : mg_w E d j (pn, L, S) (mm_u μ a i (-1)) Q) : mg_w E d j (pc, L, (3, 0) :: (2, a) :: S) μ Q := by
  subst hn hf
  unfold mg_fA at ht
  split at ht
  · next h => exact mg_pf0 (u := -1) hr h ho hc rfl rfl rfl kk
  · next h => exact mg_pf0 (u := -1) hr h ho hc rfl rfl rfl kk
  · cases ht
end MGH
end
section
/-! arrays; what is made -/
section MGA2
variable {E : mv_E} {d j pc pn pt : Nat} {L : mg_L} {S : List mg_V} {μ : mm_T} {Q : mg_R → mm_T → Prop} {x y z a v i k l : Int} {n t : Nat}
theorem mg_len (hr : mg_at j pc = some (1, .arraylength)) (hn : pc + 1 = pn) (ht : (mt_ty[t]?).isSome = true) (ht2 : t < 100) (hl : 0 ≤ l) (ho : mm_r E μ a (t : Int) l) (kk : mg_w E d j (pn, L, (0, l) :: S) μ Q) : mg_w E d j (pc, L, (2, a) :: S) μ Q := by
  subst hn
  refine mg_step (f' := (pc + 1, L, (0, l) :: S)) hr rfl ?_ kk
  obtain ⟨ty, hty⟩ := Option.isSome_iff_exists.mp ht
  show (match mv_lk E.1 (mm_h E μ) a.toNat with | some (.inl y) => (match mt_ty[y.1]? with | some _ => some ((pc + 1, mg_eL L, Value.int (Int32.ofNat y.2.1) :: mg_eS S), mm_h E μ) | none => none) | some (.inr _) => none | none => if a.toNat = E.2.1 then some ((pc + 1, mg_eL L, Value.int (Int32.ofNat E.2.2.1) :: mg_eS S), mm_h E μ) else if a.toNat = E.2.2.2.2.1 then some ((pc + 1, mg_eL L, Value.int 0 :: mg_eS S), mm_h E μ) else none) = _
  rw [mm_lk ho.1, mm_ca ho.2.1 ht2]
  simp only [hty, ho.2.2]
  rw [show Int32.ofNat l.toNat = Int32.ofInt l by rw [show Int32.ofNat l.toNat = Int32.ofInt (l.toNat : Int) from rfl, Int.toNat_of_nonneg hl]]
  rfl
/-- the script's length -/
theorem mg_lenS (hr : mg_at j pc = some (1, .arraylength)) (hn : pc + 1 = pn) (h0 : E.2.1 < E.1) (kk : mg_w E d j (pn, L, (0, (E.2.2.1 : Int)) :: S) μ Q) : mg_w E d j (pc, L, (2, (E.2.1 : Int)) :: S) μ Q := by
  subst hn
  refine mg_step (f' := (pc + 1, L, (0, (E.2.2.1 : Int)) :: S)) hr rfl ?_ kk
  show (match mv_lk E.1 (mm_h E μ) (E.2.1 : Int).toNat with | some (.inl y) => (match mt_ty[y.1]? with | some _ => some ((pc + 1, mg_eL L, Value.int (Int32.ofNat y.2.1) :: mg_eS S), mm_h E μ) | none => none) | some (.inr _) => none | none => if (E.2.1 : Int).toNat = E.2.1 then some ((pc + 1, mg_eL L, Value.int (Int32.ofNat E.2.2.1) :: mg_eS S), mm_h E μ) else if (E.2.1 : Int).toNat = E.2.2.2.2.1 then some ((pc + 1, mg_eL L, Value.int 0 :: mg_eS S), mm_h E μ) else none) = _
  rw [mm_lkn (by omega) (by omega)]
  simp only [Int.toNat_natCast, if_true]
  rfl
/-- the length of the lists' empty array -/
theorem mg_lenE (hr : mg_at j pc = some (1, .arraylength)) (hn : pc + 1 = pn) (h0 : E.2.2.2.2.1 < E.1) (h1 : E.2.2.2.2.1 ≠ E.2.1) (kk : mg_w E d j (pn, L, (0, 0) :: S) μ Q) : mg_w E d j (pc, L, (2, (E.2.2.2.2.1 : Int)) :: S) μ Q := by
  subst hn
  refine mg_step (f' := (pc + 1, L, (0, 0) :: S)) hr rfl ?_ kk
  show (match mv_lk E.1 (mm_h E μ) (E.2.2.2.2.1 : Int).toNat with | some (.inl y) => (match mt_ty[y.1]? with | some _ => some ((pc + 1, mg_eL L, Value.int (Int32.ofNat y.2.1) :: mg_eS S), mm_h E μ) | none => none) | some (.inr _) => none | none => if (E.2.2.2.2.1 : Int).toNat = E.2.1 then some ((pc + 1, mg_eL L, Value.int (Int32.ofNat E.2.2.1) :: mg_eS S), mm_h E μ) else if (E.2.2.2.2.1 : Int).toNat = E.2.2.2.2.1 then some ((pc + 1, mg_eL L, Value.int 0 :: mg_eS S), mm_h E μ) else none) = _
  rw [mm_lkn (by omega) (by omega)]
  simp only [Int.toNat_natCast, if_true]
  rw [if_neg h1]
  rfl
theorem mg_rd0 {w : mg_V} {want : FieldType → Bool} {ty : FieldType} (hty : mt_ty[t]? = some ty) (hw : want ty = true) (ht2 : t < 100) (ho : mm_r E μ a (t : Int) l) (hi : 0 ≤ i ∧ i < l) (hl : l ≤ 2147483648) (he : md_t ty (μ a i) = mg_e w) : mv_rd E.1 mt_ty want (mm_h E μ) a.toNat (Int32.ofInt i) = some (mg_e w) := by
  unfold mv_rd
  rw [mm_lk ho.1, mm_ca ho.2.1 ht2]
  simp only [hty]
  have h0 : ¬ (Int32.ofInt i < 0 ∨ (μ a (-2)).toNat ≤ (Int32.ofInt i).toNatClampNeg) := by
    rw [mg_tn (by omega), ho.2.2]
    rintro (h | h)
    · have := (mg_lt (x := i) (y := 0) (by omega) (by omega)).mp h
      omega
    · omega
  rw [if_pos ⟨hw, h0⟩, mg_tn (by omega)]
  simp only [md_a, hty]
  rw [show ((i.toNat : Nat) : Int) = i by omega, he]
theorem mg_ial (hr : mg_at j pc = some (1, .iaload)) (hn : pc + 1 = pn) (hi : 0 ≤ i ∧ i < l) (hl : l ≤ 2147483648) (ho : mm_r E μ a 0 l) (kk : mg_w E d j (pn, L, (0, μ a i) :: S) μ Q) : mg_w E d j (pc, L, (0, i) :: (2, a) :: S) μ Q := by
  subst hn
  refine mg_step (f' := (pc + 1, L, (0, μ a i) :: S)) hr rfl ?_ kk
  have e := mg_rd0 (t := 0) (w := (0, μ a i)) (want := mv_tI) (ty := .int) rfl rfl (by omega) ho hi hl rfl
  show (match mv_lk E.1 (mm_h E μ) a.toNat with | some _ => mv_at_ (pc + 1) (mg_eL L) (mg_eS S) (mm_h E μ) (mv_rd E.1 mt_ty mv_tI (mm_h E μ) a.toNat (Int32.ofInt i)) | none => _) = _
  rw [mm_lk ho.1, e]
  rfl
/-- an int of the script -/
theorem mg_ialS (hr : mg_at j pc = some (1, .iaload)) (hn : pc + 1 = pn) (h0 : E.2.1 < E.1) (hi : 0 ≤ i ∧ i < (E.2.2.1 : Int)) (hl : E.2.2.1 ≤ 3072) (kk : mg_w E d j (pn, L, (0, (E.2.2.2.1 i.toNat).toInt) :: S) μ Q) : mg_w E d j (pc, L, (0, i) :: (2, (E.2.1 : Int)) :: S) μ Q := by
  subst hn
  refine mg_step (f' := (pc + 1, L, (0, (E.2.2.2.1 i.toNat).toInt) :: S)) hr rfl ?_ kk
  show (match mv_lk E.1 (mm_h E μ) (E.2.1 : Int).toNat with | some _ => mv_at_ (pc + 1) (mg_eL L) (mg_eS S) (mm_h E μ) (mv_rd E.1 mt_ty mv_tI (mm_h E μ) (E.2.1 : Int).toNat (Int32.ofInt i)) | none => if (E.2.1 : Int).toNat = E.2.1 ∧ ¬ (Int32.ofInt i < 0 ∨ E.2.2.1 ≤ (Int32.ofInt i).toNatClampNeg) then some ((pc + 1, mg_eL L, Value.int (E.2.2.2.1 (Int32.ofInt i).toNatClampNeg) :: mg_eS S), mm_h E μ) else none) = _
  rw [mm_lkn (by omega) (by omega)]
  have h1 : ¬ (Int32.ofInt i < 0 ∨ E.2.2.1 ≤ (Int32.ofInt i).toNatClampNeg) := by
    rw [mg_tn (by omega)]
    rintro (h | h)
    · have := (mg_lt (x := i) (y := 0) (by omega) (by omega)).mp h
      omega
    · omega
  simp only []
  rw [if_pos ⟨by omega, h1⟩, mg_tn (by omega)]
  show some ((pc + 1, mg_eL L, Value.int (E.2.2.2.1 i.toNat) :: mg_eS S), mm_h E μ) = some ((pc + 1, mg_eL L, Value.int (Int32.ofInt (E.2.2.2.1 i.toNat).toInt) :: mg_eS S), mm_h E μ)
  rw [Int32.ofInt_toInt]
theorem mg_bal (hr : mg_at j pc = some (1, .baload)) (hn : pc + 1 = pn) (hi : 0 ≤ i ∧ i < l) (hl : l ≤ 2147483648) (ho : mm_r E μ a 1 l) (kk : mg_w E d j (pn, L, (0, μ a i) :: S) μ Q) : mg_w E d j (pc, L, (0, i) :: (2, a) :: S) μ Q := by
  subst hn
  refine mg_step (f' := (pc + 1, L, (0, μ a i) :: S)) hr rfl ?_ kk
  have e := mg_rd0 (t := 1) (w := (0, μ a i)) (want := mv_tZ) (ty := .boolean) rfl rfl (by omega) ho hi hl rfl
  show mv_at_ (pc + 1) (mg_eL L) (mg_eS S) (mm_h E μ) (mv_rd E.1 mt_ty mv_tZ (mm_h E μ) a.toNat (Int32.ofInt i)) = _
  rw [e]
  rfl
theorem mg_lal (hr : mg_at j pc = some (1, .laload)) (hn : pc + 1 = pn) (hi : 0 ≤ i ∧ i < l) (hl : l ≤ 2147483648) (ho : mm_r E μ a 2 l) (kk : mg_w E d j (pn, L, (1, μ a i) :: S) μ Q) : mg_w E d j (pc, L, (0, i) :: (2, a) :: S) μ Q := by
  subst hn
  refine mg_step (f' := (pc + 1, L, (1, μ a i) :: S)) hr rfl ?_ kk
  have e := mg_rd0 (t := 2) (w := (1, μ a i)) (want := mv_tL) (ty := .long) rfl rfl (by omega) ho hi hl rfl
  show mv_at_ (pc + 1) (mg_eL L) (mg_eS S) (mm_h E μ) (mv_rd E.1 mt_ty mv_tL (mm_h E μ) a.toNat (Int32.ofInt i)) = _
  rw [e]
  rfl
theorem mg_aA_of (h : mg_aA t = true) : ∃ C, mt_ty[t]? = some (.object C) := by
  unfold mg_aA at h
  split at h
  · next C hC => exact ⟨C, hC⟩
  · cases h
theorem mg_aal (hr : mg_at j pc = some (1, .aaload)) (hn : pc + 1 = pn) (ht : mg_aA t = true) (ht2 : t < 100) (hi : 0 ≤ i ∧ i < l) (hl : l ≤ 2147483648) (ho : mm_r E μ a (t : Int) l) (k1 : 0 ≤ μ a i → mg_w E d j (pn, L, (2, μ a i) :: S) μ Q) (k2 : μ a i < 0 → mg_w E d j (pn, L, (3, 0) :: S) μ Q) : mg_w E d j (pc, L, (0, i) :: (2, a) :: S) μ Q := by
  subst hn
  obtain ⟨C, hC⟩ := mg_aA_of ht
  by_cases h0 : μ a i < 0
  · refine mg_step (f' := (pc + 1, L, (3, 0) :: S)) hr rfl ?_ (k2 h0)
    have e := mg_rd0 (w := (3, 0)) (want := mv_tA) (ty := .object C) hC rfl ht2 ho hi hl (by show (if μ a i < 0 then Value.null else _) = _; rw [if_pos h0]; rfl)
    show mv_at_ (pc + 1) (mg_eL L) (mg_eS S) (mm_h E μ) (mv_rd E.1 mt_ty mv_tA (mm_h E μ) a.toNat (Int32.ofInt i)) = _
    rw [e]
    rfl
  · refine mg_step (f' := (pc + 1, L, (2, μ a i) :: S)) hr rfl ?_ (k1 (by omega))
    have e := mg_rd0 (w := (2, μ a i)) (want := mv_tA) (ty := .object C) hC rfl ht2 ho hi hl (by show (if μ a i < 0 then Value.null else _) = _; rw [if_neg h0]; rfl)
    show mv_at_ (pc + 1) (mg_eL L) (mg_eS S) (mm_h E μ) (mv_rd E.1 mt_ty mv_tA (mm_h E μ) a.toNat (Int32.ofInt i)) = _
    rw [e]
    rfl
theorem mg_wr0 {w : Value} {want : FieldType → Bool} {ty : FieldType} (hty : mt_ty[t]? = some ty) (hw : want ty = true) (ht2 : t < 100) (ho : mm_r E μ a (t : Int) l) (hi : 0 ≤ i ∧ i < l) (hl : l ≤ 2147483648) (he : md_t ty z = w) : mv_wr E.1 mt_ty want (mm_h E μ) a.toNat (Int32.ofInt i) w = some (mm_h E (mm_u μ a i z)) := by
  unfold mv_wr
  rw [mm_lk ho.1, mm_ca ho.2.1 ht2]
  simp only [hty]
  have h0 : ¬ (Int32.ofInt i < 0 ∨ (μ a (-2)).toNat ≤ (Int32.ofInt i).toNatClampNeg) := by
    rw [mg_tn (by omega), ho.2.2]
    rintro (h | h)
    · have := (mg_lt (x := i) (y := 0) (by omega) (by omega)).mp h
      omega
    · omega
  rw [if_pos ⟨hw, h0⟩, mg_tn (by omega)]
  congr 1
  refine mm_upd ho.1 ?_
  rw [mm_ca (t := t) (by rw [mm_u_ne (by omega)]; exact ho.2.1) ht2, mm_u_ne (by omega)]
  congr 3
  funext q
  by_cases hq : q = i.toNat
  · subst hq
    simp only [updV, if_true]
    rw [show ((i.toNat : Nat) : Int) = i by omega, mm_u_at]
    simp only [md_a, hty]
    exact he.symm
  · rw [mm_u_ne (by omega)]
    simp [updV, hq]
theorem mg_ias (hr : mg_at j pc = some (1, .iastore)) (hn : pc + 1 = pn) (hi : 0 ≤ i ∧ i < l) (hl : l ≤ 2147483648) (ho : mm_r E μ a 0 l) (kk : mg_w E d j (pn, L, S) (mm_u μ a i z) Q) : mg_w E d j (pc, L, (0, z) :: (0, i) :: (2, a) :: S) μ Q := by
  subst hn
  refine mg_step (f' := (pc + 1, L, S)) hr rfl ?_ kk
  have e := mg_wr0 (t := 0) (z := z) (want := mv_tI) (ty := .int) rfl rfl (by omega) ho hi hl rfl
  show mv_to_ (pc + 1) (mg_eL L) (mg_eS S) (mv_wr E.1 mt_ty mv_tI (mm_h E μ) a.toNat (Int32.ofInt i) (md_t .int z)) = _
  rw [e]
  rfl
theorem mg_bas (hr : mg_at j pc = some (1, .bastore)) (hn : pc + 1 = pn) (hz : z = 0 ∨ z = 1) (hi : 0 ≤ i ∧ i < l) (hl : l ≤ 2147483648) (ho : mm_r E μ a 1 l) (kk : mg_w E d j (pn, L, S) (mm_u μ a i z) Q) : mg_w E d j (pc, L, (0, z) :: (0, i) :: (2, a) :: S) μ Q := by
  subst hn
  refine mg_step (f' := (pc + 1, L, S)) hr rfl ?_ kk
  have e := mg_wr0 (t := 1) (z := z) (w := narrow .boolean (.int (Int32.ofInt z))) (want := mv_tZ) (ty := .boolean) rfl rfl (by omega) ho hi hl (by rcases hz with rfl | rfl <;> rfl)
  show mv_to_ (pc + 1) (mg_eL L) (mg_eS S) (mv_wr E.1 mt_ty mv_tZ (mm_h E μ) a.toNat (Int32.ofInt i) (narrow .boolean (.int (Int32.ofInt z)))) = _
  rw [e]
  rfl
theorem mg_las (hr : mg_at j pc = some (1, .lastore)) (hn : pc + 1 = pn) (hi : 0 ≤ i ∧ i < l) (hl : l ≤ 2147483648) (ho : mm_r E μ a 2 l) (kk : mg_w E d j (pn, L, S) (mm_u μ a i z) Q) : mg_w E d j (pc, L, (1, z) :: (0, i) :: (2, a) :: S) μ Q := by
  subst hn
  refine mg_step (f' := (pc + 1, L, S)) hr rfl ?_ kk
  have e := mg_wr0 (t := 2) (z := z) (want := mv_tL) (ty := .long) rfl rfl (by omega) ho hi hl rfl
  show mv_to_ (pc + 1) (mg_eL L) (mg_eS S) (mv_wr E.1 mt_ty mv_tL (mm_h E μ) a.toNat (Int32.ofInt i) (md_t .long z)) = _
  rw [e]
  rfl
theorem mg_aasN (hr : mg_at j pc = some (1, .aastore)) (hn : pc + 1 = pn) (ht : mg_aA t = true) (ht2 : t < 100) (hi : 0 ≤ i ∧ i < l) (hl : l ≤ 2147483648) (ho : mm_r E μ a (t : Int) l) (kk : mg_w E d j (pn, L, S) (mm_u μ a i (-1)) Q) : mg_w E d j (pc, L, (3, 0) :: (0, i) :: (2, a) :: S) μ Q := by
  subst hn
  obtain ⟨C, hC⟩ := mg_aA_of ht
  refine mg_step (f' := (pc + 1, L, S)) hr rfl ?_ kk
  have e := mg_wr0 (z := -1) (w := .null) (want := mv_tA) (ty := .object C) hC rfl ht2 ho hi hl rfl
  show mv_to_ (pc + 1) (mg_eL L) (mg_eS S) (mv_wr E.1 mt_ty mv_tA (mm_h E μ) a.toNat (Int32.ofInt i) .null) = _
  rw [e]
  rfl
theorem mm_cof {c : Nat} (ho : mm_o E μ a (100 + (c : Int))) : mv_cof E.1 (mm_h E μ) a.toNat = some c := by
  unfold mv_cof
  rw [mm_lk ho.1, mm_co ho.2]
theorem mm_kof (ht2 : t < 100) (ho : mm_r E μ a (t : Int) l) : mv_kof E.1 (mm_h E μ) a.toNat = some t := by
  unfold mv_kof
  rw [mm_lk ho.1, mm_ca ho.2.1 ht2]
theorem mg_aas {c : Nat} (hr : mg_at j pc = some (1, .aastore)) (hn : pc + 1 = pn) (ht : mg_aA t = true) (ht2 : t < 100) (hc : k = 100 + (c : Int)) (hct : mt_as.contains (c, t) = true) (hi : 0 ≤ i ∧ i < l) (hl : l ≤ 2147483648) (ho : mm_r E μ a (t : Int) l) (hv : mm_o E μ v k) (kk : mg_w E d j (pn, L, S) (mm_u μ a i v) Q) : mg_w E d j (pc, L, (2, v) :: (0, i) :: (2, a) :: S) μ Q := by
  subst hn hc
  obtain ⟨C, hC⟩ := mg_aA_of ht
  refine mg_step (f' := (pc + 1, L, S)) hr rfl ?_ kk
  have h0 : 0 ≤ v := hv.1.pos
  have e := mg_wr0 (z := v) (w := .ref v.toNat) (want := mv_tA) (ty := .object C) hC rfl ht2 ho hi hl (by show (if v < 0 then Value.null else _) = _; rw [if_neg (by omega)])
  show (match mv_cof E.1 (mm_h E μ) v.toNat, mv_kof E.1 (mm_h E μ) a.toNat with | some ci, some t => if mt_as.contains (ci, t) = true then mv_to_ (pc + 1) (mg_eL L) (mg_eS S) (mv_wr E.1 mt_ty mv_tA (mm_h E μ) a.toNat (Int32.ofInt i) (.ref v.toNat)) else none | _, _ => none) = _
  rw [mm_cof hv, mm_kof ht2 ho]
  simp only [hct, if_true]
  rw [e]
  rfl
theorem mg_cast (hr : mg_at j pc = some (3, .checkcast n)) (hn : pc + 3 = pn) (hc : k = 100 + (n : Int)) (ho : mm_o E μ a k) (kk : mg_w E d j (pn, L, (2, a) :: S) μ Q) : mg_w E d j (pc, L, (2, a) :: S) μ Q := by
  subst hn hc
  refine mg_step (f' := (pc + 3, L, (2, a) :: S)) hr rfl ?_ kk
  show (if mv_cof E.1 (mm_h E μ) a.toNat = some n then some ((pc + 3, mg_eL L, Value.ref a.toNat :: mg_eS S), mm_h E μ) else none) = _
  rw [mm_cof ho, if_pos rfl]
  rfl
theorem mg_oi (hr : mg_at j pc = some (3, .monitorexit)) (hn : pc + 3 = pn) (hS : decide (((mg_eS S).map fun v => v.category).sum ≤ 24) = true) (kk : mg_w E d j (pn, L, S) μ Q) : mg_w E d j (pc, L, (2, a) :: S) μ Q := by
  subst hn
  refine mg_step (f' := (pc + 3, L, S)) hr rfl ?_ kk
  show (if ((mg_eS S).map fun v => v.category).sum ≤ 24 then some ((pc + 3, mg_eL L, mg_eS S), mm_h E μ) else none) = _
  rw [if_pos (of_decide_eq_true hS)]
  rfl
/-- what an object's fields hold when it is made -/
def mm_z (c : Nat) (i : Int) : Int := match mt_cl[c]? with
  | some K => (match K.2.2.2.2[i.toNat]? with
    | some (.object _) => -1
    | some (.array _) => -1
    | _ => 0)
  | none => 0
theorem mm_z_ok (c q : Nat) {K : mv_K} (hK : mt_cl[c]? = some K) (hs : K.2.2.2.2.all (fun ty => match ty with | .int => true | .boolean => true | .long => true | .object _ => true | .array _ => true | _ => false) = true) : md_f c q (mm_z c (q : Int)) = mv_def K q := by
  unfold md_f mm_z mv_def
  simp only [hK, Int.toNat_natCast]
  cases h : K.2.2.2.2[q]? with
  | none => rfl
  | some ty =>
    have := List.all_eq_true.mp hs ty (List.mem_of_getElem? h)
    cases ty <;> first | rfl | cases this
theorem mg_new {K : mv_K} (hr : mg_at j pc = some (3, .new n)) (hn : pc + 3 = pn) (hK : mt_cl[n]? = some K) (hs : K.2.2.2.2.all (fun ty => match ty with | .int => true | .boolean => true | .long => true | .object _ => true | .array _ => true | _ => false) = true) (hk : 100 + (n : Int) = k) (h0 : 0 ≤ μ (-1) 0) (kk : mg_w E d j (pn, L, (2, E.1 + μ (-1) 0) :: S) (mm_al E μ k 0 (mm_z n)) Q) : mg_w E d j (pc, L, S) μ Q := by
  subst hn hk
  refine mg_step (f' := (pc + 3, L, (2, E.1 + μ (-1) 0) :: S)) hr rfl ?_ kk
  show (match mt_cl[n]? with | some K => some ((pc + 3, mg_eL L, Value.ref (E.1 + (mm_h E μ).length) :: mg_eS S), mm_h E μ ++ [(Sum.inr (n, mv_def K) : mv_C)]) | none => none) = _
  simp only [hK]
  rw [mm_push (k := 100 + (n : Int)) (l := 0) (z0 := mm_z n) h0 ?_, mm_h_len]
  · show _ = some ((pc + 3, mg_eL L, Value.ref ((E.1 : Int) + μ (-1) 0).toNat :: mg_eS S), _)
    rw [show ((E.1 : Int) + μ (-1) 0).toNat = E.1 + (μ (-1) 0).toNat by omega]
  · have e1 : mm_al E μ (100 + (n : Int)) 0 (mm_z n) (E.1 + μ (-1) 0) (-1) = 100 + (n : Int) := by
      have : ¬ ((E.1 : Int) + μ (-1) 0 = -1 ∧ (-1 : Int) = 0) := by omega
      simp [mm_al]
    rw [mm_co e1]
    congr 2
    funext q
    have e2 : mm_al E μ (100 + (n : Int)) 0 (mm_z n) (E.1 + μ (-1) 0) (q : Int) = mm_z n q := by
      have h1 : ¬ ((E.1 : Int) + μ (-1) 0 = -1 ∧ (q : Int) = 0) := by omega
      have h2 : ¬ ((q : Int) = -1) := by omega
      have h3 : ¬ ((q : Int) = -2) := by omega
      unfold mm_al
      rw [if_neg h1, if_pos rfl, if_neg h2, if_neg h3]
    rw [e2, mm_z_ok n q hK hs]
theorem mg_mk0 {ty : FieldType} {u : Int} (hty : mt_ty[t]? = some ty) (ht2 : t < 100) (h0 : 0 ≤ μ (-1) 0) (hl : 0 ≤ l) {w : Value} (hw : md_t ty u = w) : mm_h E μ ++ [.inl (t, l.toNat, fun _ => w)] = mm_h E (mm_al E μ (t : Int) l (fun _ => u)) := by
  refine mm_push h0 ?_
  have e1 : mm_al E μ (t : Int) l (fun _ => u) (E.1 + μ (-1) 0) (-1) = (t : Int) := by simp [mm_al]
  have e2 : mm_al E μ (t : Int) l (fun _ => u) (E.1 + μ (-1) 0) (-2) = l := by simp [mm_al]
  rw [mm_ca e1 ht2, e2]
  congr 3
  funext q
  have e3 : mm_al E μ (t : Int) l (fun _ => u) (E.1 + μ (-1) 0) (q : Int) = u := by
    have h1 : ¬ ((E.1 : Int) + μ (-1) 0 = -1 ∧ (q : Int) = 0) := by omega
    have h2 : ¬ ((q : Int) = -1) := by omega
    have h3 : ¬ ((q : Int) = -2) := by omega
    unfold mm_al
    rw [if_neg h1, if_pos rfl, if_neg h2, if_neg h3]
  rw [e3]
  simp only [md_a, hty]
  exact hw.symm
theorem mg_na {at_ : ArrayType} (hr : mg_at j pc = some (2, .newarray at_)) (hn : pc + 2 = pn) (ht : mv_kd at_ = t) (hok : at_ = .int ∨ at_ = .boolean ∨ at_ = .long) (hl : 0 ≤ l ∧ l ≤ 60000000) (h0 : 0 ≤ μ (-1) 0) (kk : mg_w E d j (pn, L, (2, E.1 + μ (-1) 0) :: S) (mm_al E μ (t : Int) l (fun _ => 0)) Q) : mg_w E d j (pc, L, (0, l) :: S) μ Q := by
  subst hn ht
  refine mg_step (f' := (pc + 2, L, (2, E.1 + μ (-1) 0) :: S)) hr rfl ?_ kk
  show (if ¬ Int32.ofInt l < 0 ∧ (Int32.ofInt l).toNatClampNeg ≤ 60000000 then some ((pc + 2, mg_eL L, Value.ref (E.1 + (mm_h E μ).length) :: mg_eS S), mm_h E μ ++ [(Sum.inl (mv_kd at_, (Int32.ofInt l).toNatClampNeg, fun _ => defaultValue (newarray.typeOf at_)) : mv_C)]) else none) = _
  have h1 : ¬ Int32.ofInt l < 0 := fun h => by have := (mg_lt (x := l) (y := 0) (by omega) (by omega)).mp h; omega
  rw [mg_tn (by omega), if_pos ⟨h1, by omega⟩, mm_h_len]
  have e : mm_h E μ ++ [(Sum.inl (mv_kd at_, l.toNat, fun _ => defaultValue (newarray.typeOf at_)) : mv_C)] = mm_h E (mm_al E μ ((mv_kd at_ : Nat) : Int) l (fun _ => 0)) := by
    rcases hok with rfl | rfl | rfl
    · exact mg_mk0 (ty := .int) rfl (by decide) h0 hl.1 rfl
    · exact mg_mk0 (ty := .boolean) rfl (by decide) h0 hl.1 rfl
    · exact mg_mk0 (ty := .long) rfl (by decide) h0 hl.1 rfl
  rw [e]
  show _ = some ((pc + 2, mg_eL L, Value.ref ((E.1 : Int) + μ (-1) 0).toNat :: mg_eS S), _)
  rw [show ((E.1 : Int) + μ (-1) 0).toNat = E.1 + (μ (-1) 0).toNat by omega]
theorem mg_an (hr : mg_at j pc = some (3, .anewarray t)) (hn : pc + 3 = pn) (ht : mg_aA t = true) (ht2 : t < 100) (hl : 0 ≤ l ∧ l ≤ 60000000) (h0 : 0 ≤ μ (-1) 0) (kk : mg_w E d j (pn, L, (2, E.1 + μ (-1) 0) :: S) (mm_al E μ (t : Int) l (fun _ => -1)) Q) : mg_w E d j (pc, L, (0, l) :: S) μ Q := by
  subst hn
  obtain ⟨C, hC⟩ := mg_aA_of ht
  refine mg_step (f' := (pc + 3, L, (2, E.1 + μ (-1) 0) :: S)) hr rfl ?_ kk
  show (if ¬ Int32.ofInt l < 0 ∧ (Int32.ofInt l).toNatClampNeg ≤ 60000000 then some ((pc + 3, mg_eL L, Value.ref (E.1 + (mm_h E μ).length) :: mg_eS S), mm_h E μ ++ [(Sum.inl (t, (Int32.ofInt l).toNatClampNeg, fun _ => Value.null) : mv_C)]) else none) = _
  have h1 : ¬ Int32.ofInt l < 0 := fun h => by have := (mg_lt (x := l) (y := 0) (by omega) (by omega)).mp h; omega
  rw [mg_tn (by omega), if_pos ⟨h1, by omega⟩, mm_h_len, mg_mk0 (ty := .object C) (u := -1) (w := Value.null) hC ht2 h0 hl.1 rfl]
  show _ = some ((pc + 3, mg_eL L, Value.ref ((E.1 : Int) + μ (-1) 0).toNat :: mg_eS S), _)
  rw [show ((E.1 : Int) + μ (-1) 0).toNat = E.1 + (μ (-1) 0).toNat by omega]
end MGA2
end
section
/-! calls, returns, throws -/
theorem mv_run_le {E : mv_E} {cl : List mv_K} {tys : List FieldType} {asg nc : List (Nat × Nat)} {M : List mv_J} : ∀ (n : Nat) {m d j : Nat} {f : mv_F} {h : mv_H} {z : mv_R × mv_H}, mv_run E cl tys asg nc M n d j f h = some z → n ≤ m → mv_run E cl tys asg nc M m d j f h = some z := by
  intro n
  induction n with
  | zero => intro m d j f h z hr _; cases hr
  | succ n ih =>
    intro m d j f h z hr hm
    cases m with
    | zero => omega
    | succ m =>
      have hm' : n ≤ m := by omega
      rw [mv_run] at hr
      rw [mv_run]
      cases hq : M[j]? with
      | none => rw [hq] at hr; cases hr
      | some q =>
        rw [hq] at hr
        simp only [] at hr ⊢
        cases hx : mv_at q f.1 with
        | none => rw [hx] at hr; cases hr
        | some x =>
          rw [hx] at hr
          simp only [] at hr ⊢
          cases hv : mv_ret (mj_r q) x.2.2 f.2.2 with
          | some v => rw [hv] at hr; exact hr
          | none =>
            rw [hv] at hr
            simp only [] at hr ⊢
            cases hw : mv_thr E.1 cl x.2.2 f.2.2 h with
            | some w => rw [hw] at hr; exact hr
            | none =>
              rw [hw] at hr
              simp only [] at hr ⊢
              cases hu : mv_inv E.1 M x.2.2 f.2.2 h with
              | some u =>
                rw [hu] at hr
                simp only [] at hr ⊢
                cases d with
                | zero => cases hr
                | succ d' =>
                  simp only [] at hr ⊢
                  cases h1e : mv_run E cl tys asg nc M n d' u.1 (0, mv_in (mj_n u.2.1) u.2.2.1, []) h with
                  | none => rw [h1e] at hr; cases hr
                  | some w =>
                    rw [h1e] at hr
                    rw [ih h1e hm']
                    obtain ⟨r1, h1⟩ := w
                    cases r1 with
                    | inl v => exact ih hr hm'
                    | inr a =>
                      simp only [] at hr ⊢
                      cases hh : mj_hr q with
                      | nil => rw [hh] at hr; exact hr
                      | cons y ys =>
                        rw [hh] at hr
                        simp only [] at hr ⊢
                        cases hf : mv_find nc E.1 q f.1 h1 a with
                        | none => rw [hf] at hr; cases hr
                        | some pc' =>
                          rw [hf] at hr
                          exact ih hr hm'
              | none =>
                rw [hu] at hr
                simp only [] at hr ⊢
                cases hy : mv_step E cl tys asg x.2.2 (f.1 + x.1) f.2.1 f.2.2 h with
                | none => rw [hy] at hr; cases hr
                | some y =>
                  rw [hy] at hr
                  exact ih hr hm'
def mg_ent (as : List mg_V) : mg_L := match as with
  | [] => []
  | v :: r => if v.1 = 1 then some v :: none :: mg_ent r else some v :: mg_ent r
def mg_in (n : Nat) (as : List mg_V) : mg_L := mg_ent as ++ List.replicate (n - (mg_ent as).length) none
theorem mg_e_cat (v : mg_V) : (mg_e v).category = 2 ↔ v.1 = 1 := by
  obtain ⟨t, z⟩ := v
  match t with
  | 0 => exact ⟨fun h => (by cases h), fun h => (by cases h)⟩
  | 1 => exact ⟨fun _ => rfl, fun _ => rfl⟩
  | 2 => exact ⟨fun h => (by cases h), fun h => (by cases h)⟩
  | t + 3 => exact ⟨fun h => (by cases h), fun h => (by simp at h)⟩
theorem mg_ent_ok : ∀ (as : List mg_V), mv_ent (mg_eS as) = mg_eL (mg_ent as)
  | [] => rfl
  | v :: r => by
    have ih := mg_ent_ok r
    rw [mg_eS_cons]
    unfold mv_ent mg_ent
    by_cases h : v.1 = 1
    · rw [if_pos ((mg_e_cat v).mpr h), if_pos h, ih]
      rfl
    · rw [if_neg (fun e => h ((mg_e_cat v).mp e)), if_neg h, ih]
      rfl
theorem mg_in_ok (n : Nat) (as : List mg_V) : mv_in n (mg_eS as) = mg_eL (mg_in n as) := by
  unfold mv_in mg_in
  rw [mg_ent_ok, mg_eL_len]
  simp [mg_eL]
section MGC
variable {E : mv_E} {d j pc pn j2 : Nat} {L L2 : mg_L} {as S rest : List mg_V} {μ : mm_T} {Q Q2 : mg_R → mm_T → Prop} {x y z a v i k l : Int} {n : Nat} {q0 q : mv_J}
theorem mg_call0 {len : Nat} {ins : Instr} (hr : mg_at j pc = some (len, ins)) (hq0 : mt_ms[j]? = some q0) (hret : mv_ret (mj_r q0) ins (mg_eS S) = none) (hthr : mv_thr E.1 mt_cl ins (mg_eS S) (mm_h E μ) = none) (hinv : mv_inv E.1 mt_ms ins (mg_eS S) (mm_h E μ) = some (j2, q, mg_eS as, mg_eS rest)) (hL : mg_in (mj_n q) as = L2)
    (w : mg_w E d j2 (0, L2, []) μ Q2) (k1 : ∀ (v : Option mg_V) (μ' : mm_T), Q2 (.inl v) μ' → mg_w E (d + 1) j (pc + len, L, v.toList ++ rest) μ' Q)
    (k2 : ∀ (a : Int) (μ' : mm_T), Q2 (.inr a) μ' → (mj_hr q0 = [] ∧ Q (.inr a) μ') ∨ (mj_hr q0 ≠ [] ∧ ∃ (ci pc' : Nat), mm_o E μ' a (100 + (ci : Int)) ∧ mv_seek mt_nc ci pc (mj_hr q0) = some pc' ∧ mg_w E (d + 1) j (pc', L, [(2, a)]) μ' Q)) : mg_w E (d + 1) j (pc, L, S) μ Q := by
  obtain ⟨q1, real, hq, hx⟩ := mg_at_of hr
  cases Option.some.inj (hq.symm.trans hq0)
  obtain ⟨n1, r1, μ1, h1, h2⟩ := w
  have e0 : mg_eF (0, L2, []) = (0, mv_in (mj_n q) (mg_eS as), []) := by rw [mg_in_ok, hL]; rfl
  rw [e0] at h1
  have key : ∀ (m : Nat), mt_run E (m + 1) (d + 1) j (mg_eF (pc, L, S)) (mm_h E μ) = (match mt_run E m d j2 (0, mv_in (mj_n q) (mg_eS as), []) (mm_h E μ) with
      | none => none
      | some (.inl v, h1) => mt_run E m (d + 1) j (pc + len, mg_eL L, v.toList ++ mg_eS rest) h1
      | some (.inr a, h1) => match mj_hr q0 with
        | [] => some (.inr a, h1)
        | _ :: _ => match mv_find mt_nc E.1 q0 pc h1 a with
          | some pc' => mt_run E m (d + 1) j (pc', mg_eL L, [.ref a]) h1
          | none => none) := by
    intro m
    show mv_run E mt_cl mt_ty mt_as mt_nc mt_ms (m + 1) (d + 1) j (pc, mg_eL L, mg_eS S) (mm_h E μ) = _
    rw [mv_run]
    simp only [hq0, hx, hret, hthr, hinv]
    rfl
  cases r1 with
  | inl v =>
    obtain ⟨n2, r2, μ2, h3, h4⟩ := k1 v μ1 h2
    refine ⟨max n1 n2 + 1, r2, μ2, ?_, h4⟩
    rw [key, show mt_run E (max n1 n2) d j2 (0, mv_in (mj_n q) (mg_eS as), []) (mm_h E μ) = _ from mv_run_le n1 h1 (Nat.le_max_left _ _)]
    have e1 : mg_eF (pc + len, L, v.toList ++ rest) = (pc + len, mg_eL L, (v.map mg_e).toList ++ mg_eS rest) := by cases v <;> rfl
    rw [e1] at h3
    exact mv_run_le n2 h3 (Nat.le_max_right _ _)
  | inr a =>
    rcases k2 a μ1 h2 with ⟨hh, hQ⟩ | ⟨hh, ci, pc', ho, hs, w2⟩
    · refine ⟨n1 + 1, .inr a, μ1, ?_, hQ⟩
      rw [key, h1]
      simp only [mg_eR, hh]
    · obtain ⟨n2, r2, μ2, h3, h4⟩ := w2
      refine ⟨max n1 n2 + 1, r2, μ2, ?_, h4⟩
      rw [key, show mt_run E (max n1 n2) d j2 (0, mv_in (mj_n q) (mg_eS as), []) (mm_h E μ) = _ from mv_run_le n1 h1 (Nat.le_max_left _ _)]
      simp only [mg_eR]
      cases hhr : mj_hr q0 with
      | nil => exact absurd hhr hh
      | cons y ys =>
        simp only []
        have e1 : mv_find mt_nc E.1 q0 pc (mm_h E μ1) a.toNat = some pc' := by
          unfold mv_find
          rw [mm_cof ho]
          exact hs
        simp only [e1]
        exact mv_run_le n2 h3 (Nat.le_max_right _ _)
theorem mg_fit (h : (decide (mj_a q ≤ S.length) && decide (((mg_eS (S.drop (mj_a q))).map fun v => v.category).sum ≤ 8) && decide ((mg_ent (S.take (mj_a q)).reverse).length ≤ mj_n q)) = true) : mv_fitS q (mg_eS S) = true := by
  unfold mv_fitS
  have e1 : (mg_eS S).length = S.length := by simp [mg_eS]
  have e2 : (mg_eS S).drop (mj_a q) = mg_eS (S.drop (mj_a q)) := by simp [mg_eS, List.map_drop]
  have e3 : ((mg_eS S).take (mj_a q)).reverse = mg_eS (S.take (mj_a q)).reverse := by simp [mg_eS, List.map_take]
  rw [e1, e2, e3, mg_ent_ok, mg_eL_len]
  exact h
theorem mg_take : ((mg_eS S).take n).reverse = mg_eS (S.take n).reverse := by simp [mg_eS, List.map_take]
theorem mg_drop : (mg_eS S).drop n = mg_eS (S.drop n) := by simp [mg_eS, List.map_drop]
/-- a static method; what it throws goes on -/
theorem mg_cs (hr : mg_at j pc = some (3, .invokestatic j2)) (hn : pc + 3 = pn) (hq0 : mt_ms[j]? = some q0) (hh : mj_hr q0 = []) (hq : mt_ms[j2]? = some q) (hfit : (decide (mj_a q ≤ S.length) && decide (((mg_eS (S.drop (mj_a q))).map fun v => v.category).sum ≤ 8) && decide ((mg_ent (S.take (mj_a q)).reverse).length ≤ mj_n q)) = true) (hL : mg_in (mj_n q) (S.take (mj_a q)).reverse = L2) (hrest : S.drop (mj_a q) = rest)
    (w : mg_w E d j2 (0, L2, []) μ Q2) (k1 : ∀ (v : Option mg_V) (μ' : mm_T), Q2 (.inl v) μ' → mg_w E (d + 1) j (pn, L, v.toList ++ rest) μ' Q) (k2 : ∀ (a : Int) (μ' : mm_T), Q2 (.inr a) μ' → Q (.inr a) μ') : mg_w E (d + 1) j (pc, L, S) μ Q := by
  subst hn hrest
  refine mg_call0 (q := q) (rest := S.drop (mj_a q)) hr hq0 rfl rfl ?_ hL w k1 (fun a μ' h => Or.inl ⟨hh, k2 a μ' h⟩)
  simp only [mv_inv, hq]
  rw [if_pos (mg_fit hfit), mg_take, mg_drop]
/-- a method of an object of the class that the method names -/
theorem mg_cv {as2 : List mg_V} (hr : mg_at j pc = some (3, .invokevirtual j2)) (hn : pc + 3 = pn) (hq0 : mt_ms[j]? = some q0) (hh : mj_hr q0 = []) (hq : mt_ms[j2]? = some q) (hfit : (decide (mj_a q ≤ S.length) && decide (((mg_eS (S.drop (mj_a q))).map fun v => v.category).sum ≤ 8) && decide ((mg_ent (S.take (mj_a q)).reverse).length ≤ mj_n q)) = true) (has : (S.take (mj_a q)).reverse = (2, a) :: as2) (hL : mg_in (mj_n q) ((2, a) :: as2) = L2) (hrest : S.drop (mj_a q) = rest) (hc : k = 100 + ((mj_k q : Nat) : Int)) (ho : mm_o E μ a k)
    (w : mg_w E d j2 (0, L2, []) μ Q2) (k1 : ∀ (v : Option mg_V) (μ' : mm_T), Q2 (.inl v) μ' → mg_w E (d + 1) j (pn, L, v.toList ++ rest) μ' Q) (k2 : ∀ (a : Int) (μ' : mm_T), Q2 (.inr a) μ' → Q (.inr a) μ') : mg_w E (d + 1) j (pc, L, S) μ Q := by
  subst hn hrest hc
  refine mg_call0 (q := q) (as := (2, a) :: as2) (rest := S.drop (mj_a q)) hr hq0 rfl rfl ?_ hL w k1 (fun a μ' h => Or.inl ⟨hh, k2 a μ' h⟩)
  simp only [mv_inv, hq]
  rw [mg_take, has, mg_eS_cons]
  show (if mv_fitS q (mg_eS S) = true ∧ mv_cof E.1 (mm_h E μ) a.toNat = some (mj_k q) then some (j2, q, Value.ref a.toNat :: mg_eS as2, (mg_eS S).drop (mj_a q)) else none) = _
  rw [if_pos ⟨mg_fit hfit, mm_cof ho⟩, mg_drop]
  rfl
/-- a constructor -/
theorem mg_ci {as2 : List mg_V} (hr : mg_at j pc = some (3, .invokespecial j2)) (hn : pc + 3 = pn) (hq0 : mt_ms[j]? = some q0) (hh : mj_hr q0 = []) (hq : mt_ms[j2]? = some q) (hfit : (decide (mj_a q ≤ S.length) && decide (((mg_eS (S.drop (mj_a q))).map fun v => v.category).sum ≤ 8) && decide ((mg_ent (S.take (mj_a q)).reverse).length ≤ mj_n q)) = true) (has : (S.take (mj_a q)).reverse = (2, a) :: as2) (hL : mg_in (mj_n q) ((2, a) :: as2) = L2) (hrest : S.drop (mj_a q) = rest)
    (w : mg_w E d j2 (0, L2, []) μ Q2) (k1 : ∀ (v : Option mg_V) (μ' : mm_T), Q2 (.inl v) μ' → mg_w E (d + 1) j (pn, L, v.toList ++ rest) μ' Q) (k2 : ∀ (a : Int) (μ' : mm_T), Q2 (.inr a) μ' → Q (.inr a) μ') : mg_w E (d + 1) j (pc, L, S) μ Q := by
  subst hn hrest
  refine mg_call0 (q := q) (as := (2, a) :: as2) (rest := S.drop (mj_a q)) hr hq0 rfl rfl ?_ hL w k1 (fun a μ' h => Or.inl ⟨hh, k2 a μ' h⟩)
  simp only [mv_inv, hq]
  rw [mg_take, has, mg_eS_cons]
  show (if mv_fitS q (mg_eS S) = true then some (j2, q, Value.ref a.toNat :: mg_eS as2, (mg_eS S).drop (mj_a q)) else none) = _
  rw [if_pos (mg_fit hfit), mg_drop]
  rfl
/-- a method of an object, with handlers around the call -/
theorem mg_cvh {as2 : List mg_V} (hr : mg_at j pc = some (3, .invokevirtual j2)) (hn : pc + 3 = pn) (hq0 : mt_ms[j]? = some q0) (hh : mj_hr q0 ≠ []) (hq : mt_ms[j2]? = some q) (hfit : (decide (mj_a q ≤ S.length) && decide (((mg_eS (S.drop (mj_a q))).map fun v => v.category).sum ≤ 8) && decide ((mg_ent (S.take (mj_a q)).reverse).length ≤ mj_n q)) = true) (has : (S.take (mj_a q)).reverse = (2, a) :: as2) (hL : mg_in (mj_n q) ((2, a) :: as2) = L2) (hrest : S.drop (mj_a q) = rest) (hc : k = 100 + ((mj_k q : Nat) : Int)) (ho : mm_o E μ a k)
    (w : mg_w E d j2 (0, L2, []) μ Q2) (k1 : ∀ (v : Option mg_V) (μ' : mm_T), Q2 (.inl v) μ' → mg_w E (d + 1) j (pn, L, v.toList ++ rest) μ' Q) (k2 : ∀ (a : Int) (μ' : mm_T), Q2 (.inr a) μ' → ∃ (ci pc' : Nat), mm_o E μ' a (100 + (ci : Int)) ∧ mv_seek mt_nc ci pc (mj_hr q0) = some pc' ∧ mg_w E (d + 1) j (pc', L, [(2, a)]) μ' Q) : mg_w E (d + 1) j (pc, L, S) μ Q := by
  subst hn hrest hc
  refine mg_call0 (q := q) (as := (2, a) :: as2) (rest := S.drop (mj_a q)) hr hq0 rfl rfl ?_ hL w k1 (fun a μ' h => Or.inr ⟨hh, k2 a μ' h⟩)
  simp only [mv_inv, hq]
  rw [mg_take, has, mg_eS_cons]
  show (if mv_fitS q (mg_eS S) = true ∧ mv_cof E.1 (mm_h E μ) a.toNat = some (mj_k q) then some (j2, q, Value.ref a.toNat :: mg_eS as2, (mg_eS S).drop (mj_a q)) else none) = _
  rw [if_pos ⟨mg_fit hfit, mm_cof ho⟩, mg_drop]
  rfl
theorem mg_ret0 {len : Nat} {ins : Instr} {v : Option mg_V} (hr : mg_at j pc = some (len, ins)) (hq0 : mt_ms[j]? = some q0) (hret : mv_ret (mj_r q0) ins (mg_eS S) = some (v.map mg_e)) (h : Q (.inl v) μ) : mg_w E d j (pc, L, S) μ Q := by
  obtain ⟨q1, real, hq, hx⟩ := mg_at_of hr
  cases Option.some.inj (hq.symm.trans hq0)
  refine ⟨1, .inl v, μ, ?_, h⟩
  show mv_run E mt_cl mt_ty mt_as mt_nc mt_ms 1 d j (pc, mg_eL L, mg_eS S) (mm_h E μ) = _
  rw [mv_run]
  simp only [hq0, hx, hret]
  rfl
theorem mg_retV (hr : mg_at j pc = some (1, .return_)) (hq0 : mt_ms[j]? = some q0) (ht : mj_r q0 = none) (h : Q (.inl none) μ) : mg_w E d j (pc, L, []) μ Q :=
  mg_ret0 (v := none) hr hq0 (by rw [ht]; rfl) h
theorem mg_retI (hr : mg_at j pc = some (1, .ireturn)) (hq0 : mt_ms[j]? = some q0) (ht : mj_r q0 = some .int) (h : Q (.inl (some (0, z))) μ) : mg_w E d j (pc, L, [(0, z)]) μ Q :=
  mg_ret0 (v := some (0, z)) hr hq0 (by rw [ht]; rfl) h
theorem mg_retZ (hr : mg_at j pc = some (1, .ireturn)) (hq0 : mt_ms[j]? = some q0) (ht : mj_r q0 = some .boolean) (hz : z = 0 ∨ z = 1) (h : Q (.inl (some (0, z))) μ) : mg_w E d j (pc, L, [(0, z)]) μ Q :=
  mg_ret0 (v := some (0, z)) hr hq0 (by rw [ht]; rcases hz with rfl | rfl <;> rfl) h
theorem mg_retL (hr : mg_at j pc = some (1, .lreturn)) (hq0 : mt_ms[j]? = some q0) (ht : mj_r q0 = some .long) (h : Q (.inl (some (1, z))) μ) : mg_w E d j (pc, L, [(1, z)]) μ Q :=
  mg_ret0 (v := some (1, z)) hr hq0 (by rw [ht]; rfl) h
theorem mg_retA {C : String} (hr : mg_at j pc = some (1, .areturn)) (hq0 : mt_ms[j]? = some q0) (ht : mj_r q0 = some (.object C)) (h : Q (.inl (some (2, z))) μ) : mg_w E d j (pc, L, [(2, z)]) μ Q :=
  mg_ret0 (v := some (2, z)) hr hq0 (by rw [ht]; rfl) h
theorem mg_retR {ty : FieldType} (hr : mg_at j pc = some (1, .areturn)) (hq0 : mt_ms[j]? = some q0) (ht : mj_r q0 = some (.array ty)) (h : Q (.inl (some (2, z))) μ) : mg_w E d j (pc, L, [(2, z)]) μ Q :=
  mg_ret0 (v := some (2, z)) hr hq0 (by rw [ht]; rfl) h
/-- a new exception is thrown -/
theorem mg_thr {K : mv_K} (hr : mg_at j pc = some (3, .instanceof n)) (hK : mt_cl[n]? = some K) (hKf : K.2.2.2.2 = []) (hS : decide (((mg_eS S).map fun v => v.category).sum ≤ 24) = true) (hd : 5 ≤ d) (hk : 100 + (n : Int) = k) (h0 : 0 ≤ μ (-1) 0) (h : Q (.inr (E.1 + μ (-1) 0)) (mm_al E μ k 0 (mm_z n))) : mg_w E d j (pc, L, S) μ Q := by
  subst hk
  obtain ⟨q0, real, hq0, hx⟩ := mg_at_of hr
  refine ⟨1, .inr (E.1 + μ (-1) 0), _, ?_, h⟩
  show mv_run E mt_cl mt_ty mt_as mt_nc mt_ms 1 d j (pc, mg_eL L, mg_eS S) (mm_h E μ) = _
  rw [mv_run]
  have e1 : mv_ret (mj_r q0) (.instanceof n) (mg_eS S) = none := rfl
  have e2 : mv_thr E.1 mt_cl (.instanceof n) (mg_eS S) (mm_h E μ) = some (E.1 + (mm_h E μ).length, mm_h E μ ++ [.inr (n, mv_def K)]) := by
    show (match mt_cl[n]? with | some K => if ((mg_eS S).map fun v => Value.category v).sum ≤ 24 then some (E.1 + (mm_h E μ).length, mm_h E μ ++ [(Sum.inr (n, mv_def K) : mv_C)]) else none | none => none) = _
    simp only [hK]
    rw [if_pos (of_decide_eq_true hS)]
  simp only [hq0, hx, e1, e2]
  rw [if_pos hd, mm_h_len]
  have e3 : mm_h E μ ++ [(Sum.inr (n, mv_def K) : mv_C)] = mm_h E (mm_al E μ (100 + (n : Int)) 0 (mm_z n)) := by
    refine mm_push h0 ?_
    have e1 : mm_al E μ (100 + (n : Int)) 0 (mm_z n) (E.1 + μ (-1) 0) (-1) = 100 + (n : Int) := by simp [mm_al]
    rw [mm_co e1]
    congr 2
    funext q
    have e2 : mm_al E μ (100 + (n : Int)) 0 (mm_z n) (E.1 + μ (-1) 0) (q : Int) = mm_z n q := by
      have h1 : ¬ ((E.1 : Int) + μ (-1) 0 = -1 ∧ (q : Int) = 0) := by omega
      have h2 : ¬ ((q : Int) = -1) := by omega
      have h3 : ¬ ((q : Int) = -2) := by omega
      unfold mm_al
      rw [if_neg h1, if_pos rfl, if_neg h2, if_neg h3]
    rw [e2, mm_z_ok n q hK (by rw [hKf]; rfl)]
  rw [e3]
  show some (Sum.inr (E.1 + (μ (-1) 0).toNat), _) = some (Sum.inr ((E.1 : Int) + μ (-1) 0).toNat, _)
  rw [show ((E.1 : Int) + μ (-1) 0).toNat = E.1 + (μ (-1) 0).toNat by omega]
end MGC
end
section
/-! NAMES: memory with cells called by names of our choosing: κ p i is what stands at the place i of the cell named p, references as names; A p is the cell's address. A name p is in use when 0 ≤ κ p (-1). At (-1, 0) stands how many cells there are, at (-1, 1) how many slots they have. Names 9001, 9002, 9003: the script, the lists' empty array, the class object of their arrays. -/
def nm_a (κ : mm_T) (p : Int) : Prop := 0 ≤ κ p (-1)
def nm_k (κ : mm_T) (p : Int) : Prop := nm_a κ p ∨ p = 9001 ∨ p = 9002 ∨ p = 9003
def nm_rf (k i : Int) : Bool := if k < 100 then decide (3 ≤ k) else (decide (i < 64) && mg_fA (64 * (k - 100).toNat + i.toNat))
def nm_R (E : mv_E) (A : Int → Int) (κ μ : mm_T) : Prop :=
  (∀ p, nm_a κ p → mm_i E μ (A p) ∧ μ (A p) (-1) = κ p (-1) ∧ μ (A p) (-2) = κ p (-2)) ∧
  (∀ p q, nm_a κ p → nm_a κ q → A p = A q → p = q) ∧
  (∀ p i, nm_a κ p → 0 ≤ i → if nm_rf (κ p (-1)) i = true then (κ p i < 0 ∧ μ (A p) i < 0) ∨ (nm_k κ (κ p i) ∧ 0 ≤ κ p i ∧ 0 ≤ A (κ p i) ∧ μ (A p) i = A (κ p i)) else μ (A p) i = κ p i) ∧
  (0 ≤ μ (-1) 0 ∧ κ (-1) 0 = μ (-1) 0 ∧ κ (-1) 1 = (mv_sz mt_cl (mm_h E μ) : Int)) ∧
  (A 9001 = E.2.1 ∧ A 9002 = E.2.2.2.2.1 ∧ A 9003 = E.2.2.2.2.2) ∧
  (∀ p, p < 0 ∨ (9001 ≤ p ∧ p ≤ 9003) → ¬ nm_a κ p)
def nm_v (A : Int → Int) (v : mg_V) : mg_V := if v.1 = 2 then (2, A v.2) else v
def nm_l (A : Int → Int) (L : mg_L) : mg_L := L.map (Option.map (nm_v A))
def nm_s (A : Int → Int) (S : List mg_V) : List mg_V := S.map (nm_v A)
def nm_f (A : Int → Int) (f : mg_F) : mg_F := (f.1, nm_l A f.2.1, nm_s A f.2.2)
def nm_kv (κ : mm_T) (v : mg_V) : Prop := v.1 = 2 → nm_k κ v.2
def nm_kf (κ : mm_T) (f : mg_F) : Prop := (∀ v, some v ∈ f.2.1 → nm_kv κ v) ∧ ∀ v ∈ f.2.2, nm_kv κ v
abbrev nm_O : Type := Option mg_V ⊕ Nat
def nm_res (E : mv_E) (A : Int → Int) (κ μ : mm_T) (r : mg_R) (o : nm_O) : Prop := match r, o with
  | .inl none, .inl none => True
  | .inl (some v), .inl (some w) => v = nm_v A w ∧ nm_kv κ w
  | .inr a, .inr c => mm_o E μ a (100 + (c : Int))
  | _, _ => False
/-- what was known stays known, at its address -/
def nm_x (A A' : Int → Int) (κ κ' : mm_T) : Prop := ∀ p, nm_k κ p → A' p = A p ∧ nm_k κ' p
def nm_w (E : mv_E) (d j : Nat) (f : mg_F) (κ : mm_T) (Q : nm_O → mm_T → Prop) : Prop := ∀ A μ, nm_R E A κ μ → nm_kf κ f → mg_w E d j (nm_f A f) μ (fun r μ' => ∃ A' κ' o, nm_R E A' κ' μ' ∧ nm_x A A' κ κ' ∧ nm_res E A' κ' μ' r o ∧ Q o κ')
section NMA
variable {E : mv_E} {A A' A2 : Int → Int} {κ κ' κ2 μ μ' : mm_T} {d j pc pn pt : Nat} {L : mg_L} {S : List mg_V} {f f' : mg_F} {Q Q' : nm_O → mm_T → Prop} {x y z a v i k l p : Int} {n t : Nat}
theorem nm_x.refl : nm_x A A κ κ := fun _ h => ⟨rfl, h⟩
theorem nm_x.trans (h1 : nm_x A A' κ κ') (h2 : nm_x A' A2 κ' κ2) : nm_x A A2 κ κ2 := fun p hp => ⟨(h2 p (h1 p hp).2).1.trans (h1 p hp).1, (h2 p (h1 p hp).2).2⟩
theorem nm_mono (h : nm_w E d j f κ Q) (hq : ∀ o κ', Q o κ' → Q' o κ') : nm_w E d j f κ Q' := fun A μ hR hk => mg_mono (h A μ hR hk) (fun _ _ ⟨A', κ', o, h1, h2, h3, h4⟩ => ⟨A', κ', o, h1, h2, h3, hq _ _ h4⟩)
/-- a step that leaves memory as it was -/
theorem nm_same (hk : nm_kf κ f → nm_kf κ f') (h : ∀ A μ, nm_R E A κ μ → nm_kf κ f → ∀ Q2, mg_w E d j (nm_f A f') μ Q2 → mg_w E d j (nm_f A f) μ Q2) (w : nm_w E d j f' κ Q) : nm_w E d j f κ Q := fun A μ hR hf => h A μ hR hf _ (w A μ hR (hk hf))
theorem nm_kf_tail {v : mg_V} {pc2 : Nat} (h : nm_kf κ (pc, L, v :: S)) : nm_kf κ (pc2, L, S) := ⟨h.1, fun w hw => h.2 w (List.mem_cons_of_mem _ hw)⟩
theorem nm_kf_cons {v : mg_V} {pc2 : Nat} (hv : nm_kv κ v) (h : nm_kf κ (pc, L, S)) : nm_kf κ (pc2, L, v :: S) := ⟨h.1, fun w hw => by
  rcases List.mem_cons.mp hw with rfl | hw
  · exact hv
  · exact h.2 w hw⟩
theorem nm_kv0 {t : Nat} (h : t ≠ 2) : nm_kv κ (t, z) := fun e => absurd e h
theorem nm_s_cons {v : mg_V} : nm_s A (v :: S) = nm_v A v :: nm_s A S := rfl
theorem nm_v2 : nm_v A (2, z) = (2, A z) := rfl
theorem nm_l_at {k : Nat} : (nm_l A L)[k]? = (L[k]?).map (Option.map (nm_v A)) := by simp [nm_l]
theorem nm_l_set {k : Nat} (v : Option mg_V) : (nm_l A L).set k (v.map (nm_v A)) = nm_l A (L.set k v) := by simp [nm_l, List.map_set]
theorem nm_l_len : (nm_l A L).length = L.length := by simp [nm_l]
theorem nm_v1 (v : mg_V) : (nm_v A v).1 = v.1 := by
  unfold nm_v
  split
  · next h => exact h.symm
  · rfl
theorem nm_mk (i : Nat) : mg_k (nm_l A L) i = nm_l A (mg_k L i) := by
  cases i with
  | zero => rfl
  | succ k =>
    unfold mg_k
    simp only [nm_l_at]
    cases hL : L[k]? with
    | none => rfl
    | some o =>
      cases o with
      | none => rfl
      | some v =>
        obtain ⟨t, z⟩ := v
        match t with
        | 0 => rfl
        | 1 =>
          show (nm_l A L).set k none = nm_l A (L.set k none)
          exact nm_l_set none
        | 2 => rfl
        | t + 3 => rfl
theorem nm_ld {k nx : Nat} {ok : Nat → Bool} (h : mg_ld L k nx S ok = some f') : mg_ld (nm_l A L) k nx (nm_s A S) ok = some (nm_f A f') := by
  unfold mg_ld at h ⊢
  rw [nm_l_at]
  split at h
  · next v hv =>
    rw [hv]
    simp only [Option.map_some]
    split at h
    · next hk =>
      cases h
      rw [if_pos (by rw [nm_v1]; exact hk)]
      rfl
    · cases h
  · cases h
theorem nm_st {k nx : Nat} {ok : Nat → Bool} (h : mg_st L k nx S ok = some f') : mg_st (nm_l A L) k nx (nm_s A S) ok = some (nm_f A f') := by
  unfold mg_st at h ⊢
  split at h
  · next v r =>
    rw [nm_s_cons]
    simp only []
    split at h
    · next hk =>
      split at h
      · next hl =>
        cases h
        rw [if_pos (by rw [nm_v1]; exact hk), nm_l_len, if_pos hl, nm_mk, show (some (nm_v A v)) = (some v).map (nm_v A) from rfl, nm_l_set]
        rfl
      · cases h
    · cases h
  · cases h
theorem nm_ld_k {k nx : Nat} {ok : Nat → Bool} (h : mg_ld L k nx S ok = some f') (hf : nm_kf κ (pc, L, S)) : nm_kf κ f' := by
  unfold mg_ld at h
  split at h
  · next v hv =>
    split at h
    · cases h
      exact nm_kf_cons (hf.1 v (List.mem_of_getElem? hv)) hf
    · cases h
  · cases h
theorem nm_mem_k {i : Nat} {v : mg_V} (h : some v ∈ mg_k L i) : some v ∈ L := by
  unfold mg_k at h
  split at h
  · exact h
  · split at h
    · rcases List.mem_or_eq_of_mem_set h with h | h
      · exact h
      · cases h
    · exact h
theorem nm_st_k {k nx : Nat} {ok : Nat → Bool} (h : mg_st L k nx S ok = some f') (hf : nm_kf κ (pc, L, S)) : nm_kf κ f' := by
  unfold mg_st at h
  split at h
  · next v r =>
    split at h
    · split at h
      · cases h
        refine ⟨fun w hw => ?_, fun w hw => hf.2 w (List.mem_cons_of_mem _ hw)⟩
        rcases List.mem_or_eq_of_mem_set hw with h | h
        · exact hf.1 w (nm_mem_k h)
        · cases h
          exact hf.2 v (List.mem_cons_self)
      · cases h
    · cases h
  · cases h
set_option maxHeartbeats 2000000 in
theorem nm_pv {ins : Instr} {nx : Nat} (h : mg_pv ins nx L S = some f') : mg_pv ins nx (nm_l A L) (nm_s A S) = some (nm_f A f') ∧ ∀ pc, nm_kf κ (pc, L, S) → nm_kf κ f' := by
  have c : ∀ {v : mg_V} {nx : Nat}, v.1 ≠ 2 → ∀ pc, nm_kf κ (pc, L, S) → nm_kf κ (nx, L, v :: S) := fun hv pc hf => nm_kf_cons (fun e => absurd e hv) hf
  cases ins with
  | aconst_null => cases h; exact ⟨rfl, c (by decide)⟩
  | iconst n => cases h; exact ⟨rfl, c (by show (0 : Nat) ≠ 2; decide)⟩
  | bipush n =>
    simp only [mg_pv] at h ⊢
    split at h
    · next hn => cases h; rw [if_pos hn]; exact ⟨rfl, c (by show (0 : Nat) ≠ 2; decide)⟩
    · cases h
  | sipush n =>
    simp only [mg_pv] at h ⊢
    split at h
    · next hn => cases h; rw [if_pos hn]; exact ⟨rfl, c (by show (0 : Nat) ≠ 2; decide)⟩
    · cases h
  | lconst n => cases h; exact ⟨rfl, c (by show (1 : Nat) ≠ 2; decide)⟩
  | aload k => exact ⟨nm_ld h, fun pc hf => nm_ld_k h hf⟩
  | aload_n k => exact ⟨nm_ld h, fun pc hf => nm_ld_k h hf⟩
  | iload k => exact ⟨nm_ld h, fun pc hf => nm_ld_k h hf⟩
  | iload_n k => exact ⟨nm_ld h, fun pc hf => nm_ld_k h hf⟩
  | lload k => exact ⟨nm_ld h, fun pc hf => nm_ld_k h hf⟩
  | lload_n k => exact ⟨nm_ld h, fun pc hf => nm_ld_k h hf⟩
  | astore k => exact ⟨nm_st h, fun pc hf => nm_st_k h hf⟩
  | astore_n k => exact ⟨nm_st h, fun pc hf => nm_st_k h hf⟩
  | istore k => exact ⟨nm_st h, fun pc hf => nm_st_k h hf⟩
  | istore_n k => exact ⟨nm_st h, fun pc hf => nm_st_k h hf⟩
  | lstore k =>
    simp only [mg_pv] at h ⊢
    split at h
    · next z r =>
      split at h
      · next hl =>
        cases h
        refine ⟨?_, fun pc hf => ⟨fun w hw => ?_, fun w hw => hf.2 w (List.mem_cons_of_mem _ hw)⟩⟩
        · show (if k + 1 < (nm_l A L).length then some (nx, ((mg_k (nm_l A L) k).set k (some (1, z))).set (k + 1) none, nm_s A r) else none) = _
          rw [nm_l_len, if_pos hl, nm_mk, show (some ((1, z) : mg_V)) = (some ((1, z) : mg_V)).map (nm_v A) from rfl, nm_l_set, show (none : Option mg_V) = (none : Option mg_V).map (nm_v A) from rfl, nm_l_set]
          rfl
        · rcases List.mem_or_eq_of_mem_set hw with h | h
          · rcases List.mem_or_eq_of_mem_set h with h | h
            · exact hf.1 w (nm_mem_k h)
            · cases h
              exact fun e => by cases e
          · cases h
      · cases h
    · cases h
  | iinc k n =>
    simp only [mg_pv] at h ⊢
    split at h
    · next z hz =>
      split at h
      · next hl =>
        cases h
        refine ⟨?_, fun pc hf => ⟨fun w hw => ?_, hf.2⟩⟩
        · rw [nm_l_at, hz]
          show (if k < (nm_l A L).length then some (nx, (mg_k (nm_l A L) k).set k (some (0, z + n)), nm_s A S) else none) = _
          rw [nm_l_len, if_pos hl, nm_mk, show (some ((0, z + n) : mg_V)) = (some ((0, z + n) : mg_V)).map (nm_v A) from rfl, nm_l_set]
          rfl
        · rcases List.mem_or_eq_of_mem_set hw with h | h
          · exact hf.1 w (nm_mem_k h)
          · cases h
            exact fun e => by cases e
      · cases h
    · cases h
  | dup =>
    simp only [mg_pv] at h ⊢
    split at h
    · cases h; exact ⟨rfl, fun pc hf => nm_kf_cons (hf.2 _ List.mem_cons_self) hf⟩
    · cases h; exact ⟨rfl, fun pc hf => nm_kf_cons (hf.2 _ List.mem_cons_self) hf⟩
    · cases h
  | pop =>
    simp only [mg_pv] at h ⊢
    split at h
    · cases h; exact ⟨rfl, fun pc hf => nm_kf_tail hf⟩
    · cases h; exact ⟨rfl, fun pc hf => nm_kf_tail hf⟩
    · cases h
  | dup_x1 =>
    simp only [mg_pv] at h ⊢
    split at h
    · cases h; exact ⟨rfl, fun pc hf => ⟨hf.1, fun w hw => hf.2 w (by simp at hw ⊢; grind)⟩⟩
    · cases h; exact ⟨rfl, fun pc hf => ⟨hf.1, fun w hw => hf.2 w (by simp at hw ⊢; grind)⟩⟩
    · cases h
  | dup_x2 =>
    simp only [mg_pv] at h ⊢
    split at h
    · cases h; exact ⟨rfl, fun pc hf => ⟨hf.1, fun w hw => hf.2 w (by simp at hw ⊢; grind)⟩⟩
    · cases h
  | dup2 =>
    simp only [mg_pv] at h ⊢
    split at h
    · cases h; exact ⟨rfl, fun pc hf => ⟨hf.1, fun w hw => hf.2 w (by simp at hw ⊢; grind)⟩⟩
    · cases h
  | iadd =>
    simp only [mg_pv] at h ⊢
    split at h
    · cases h; exact ⟨rfl, fun pc hf => nm_kf_cons (fun e => by cases e) (nm_kf_tail (pc2 := 0) (nm_kf_tail (pc2 := 0) hf))⟩
    · cases h
  | isub =>
    simp only [mg_pv] at h ⊢
    split at h
    · cases h; exact ⟨rfl, fun pc hf => nm_kf_cons (fun e => by cases e) (nm_kf_tail (pc2 := 0) (nm_kf_tail (pc2 := 0) hf))⟩
    · cases h
  | imul =>
    simp only [mg_pv] at h ⊢
    split at h
    · cases h; exact ⟨rfl, fun pc hf => nm_kf_cons (fun e => by cases e) (nm_kf_tail (pc2 := 0) (nm_kf_tail (pc2 := 0) hf))⟩
    · cases h
  | ineg =>
    simp only [mg_pv] at h ⊢
    split at h
    · cases h; exact ⟨rfl, fun pc hf => nm_kf_cons (fun e => by cases e) (nm_kf_tail (pc2 := 0) hf)⟩
    · cases h
  | goto t => cases h; exact ⟨rfl, fun pc hf => hf⟩
  | ifnull t =>
    simp only [mg_pv] at h ⊢
    split at h
    · cases h; exact ⟨rfl, fun pc hf => nm_kf_tail hf⟩
    · cases h; exact ⟨rfl, fun pc hf => nm_kf_tail hf⟩
    · cases h
  | ifnonnull t =>
    simp only [mg_pv] at h ⊢
    split at h
    · cases h; exact ⟨rfl, fun pc hf => nm_kf_tail hf⟩
    · cases h; exact ⟨rfl, fun pc hf => nm_kf_tail hf⟩
    · cases h
  | ldc_w n =>
    simp only [mg_pv] at h ⊢
    split at h
    · next hn => cases h; rw [if_pos hn]; exact ⟨rfl, c (by show (0 : Nat) ≠ 2; decide)⟩
    · cases h
  | ldc2_w n => cases h; exact ⟨rfl, c (by show (1 : Nat) ≠ 2; decide)⟩
  | _ => cases h
theorem nm_ps : ∀ (k : Nat) {f f' : mg_F}, mg_ps j k f = some f' → mg_ps j k (nm_f A f) = some (nm_f A f') ∧ (nm_kf κ f → nm_kf κ f')
  | 0, f, f', h => by cases h; exact ⟨rfl, id⟩
  | k + 1, f, f', h => by
    rw [mg_ps] at h
    rw [mg_ps]
    show (match mg_at j f.1 with | some x => (match mg_pv x.2 (f.1 + x.1) (nm_l A f.2.1) (nm_s A f.2.2) with | some f' => mg_ps j k f' | none => none) | none => none) = _ ∧ _
    cases hx : mg_at j f.1 with
    | none => rw [hx] at h; cases h
    | some x =>
      rw [hx] at h
      simp only [] at h ⊢
      cases hf : mg_pv x.2 (f.1 + x.1) f.2.1 f.2.2 with
      | none => rw [hf] at h; cases h
      | some f2 =>
        rw [hf] at h
        have h1 := nm_pv (A := A) (κ := κ) hf
        have h2 := nm_ps k h
        rw [h1.1]
        exact ⟨h2.1, fun hk => h2.2 (h1.2 f.1 hk)⟩
/-- k pure steps -/
theorem nm_p (k : Nat) (h : mg_ps j k f = some f') (w : nm_w E d j f' κ Q) : nm_w E d j f κ Q := nm_same (nm_ps (A := id) k h).2 (fun A μ _ _ Q2 w2 => mg_p k (nm_ps (A := A) (κ := κ) k h).1 w2) w
end NMA
end
section
/-! the steps, over names -/
section NMB
variable {E : mv_E} {A A' A2 : Int → Int} {κ κ' κ2 μ μ' : mm_T} {d j pc pn pt : Nat} {L : mg_L} {S : List mg_V} {f f' : mg_F} {Q Q' : nm_O → mm_T → Prop} {x y z a v i k l p w : Int} {n t : Nat}
theorem nm_eq1 {t : Int} (hr : mg_at j pc = some (3, .ifCond .eq t)) (ht : t.toNat = pt) (hn : pc + 3 = pn) (hb : -2147483648 ≤ z ∧ z < 2147483648) (k1 : z = 0 → nm_w E d j (pt, L, S) κ Q) (k2 : z ≠ 0 → nm_w E d j (pn, L, S) κ Q) : nm_w E d j (pc, L, (0, z) :: S) κ Q := fun A μ hR hk => mg_eq1 (L := nm_l A L) (S := nm_s A S) hr ht hn hb (fun h => k1 h A μ hR (nm_kf_tail hk)) (fun h => k2 h A μ hR (nm_kf_tail hk))
theorem nm_ne1 {t : Int} (hr : mg_at j pc = some (3, .ifCond .ne t)) (ht : t.toNat = pt) (hn : pc + 3 = pn) (hb : -2147483648 ≤ z ∧ z < 2147483648) (k1 : z ≠ 0 → nm_w E d j (pt, L, S) κ Q) (k2 : z = 0 → nm_w E d j (pn, L, S) κ Q) : nm_w E d j (pc, L, (0, z) :: S) κ Q := fun A μ hR hk => mg_ne1 (L := nm_l A L) (S := nm_s A S) hr ht hn hb (fun h => k1 h A μ hR (nm_kf_tail hk)) (fun h => k2 h A μ hR (nm_kf_tail hk))
theorem nm_lt1 {t : Int} (hr : mg_at j pc = some (3, .ifCond .lt t)) (ht : t.toNat = pt) (hn : pc + 3 = pn) (hb : -2147483648 ≤ z ∧ z < 2147483648) (k1 : z < 0 → nm_w E d j (pt, L, S) κ Q) (k2 : 0 ≤ z → nm_w E d j (pn, L, S) κ Q) : nm_w E d j (pc, L, (0, z) :: S) κ Q := fun A μ hR hk => mg_lt1 (L := nm_l A L) (S := nm_s A S) hr ht hn hb (fun h => k1 h A μ hR (nm_kf_tail hk)) (fun h => k2 h A μ hR (nm_kf_tail hk))
theorem nm_ge1 {t : Int} (hr : mg_at j pc = some (3, .ifCond .ge t)) (ht : t.toNat = pt) (hn : pc + 3 = pn) (hb : -2147483648 ≤ z ∧ z < 2147483648) (k1 : 0 ≤ z → nm_w E d j (pt, L, S) κ Q) (k2 : z < 0 → nm_w E d j (pn, L, S) κ Q) : nm_w E d j (pc, L, (0, z) :: S) κ Q := fun A μ hR hk => mg_ge1 (L := nm_l A L) (S := nm_s A S) hr ht hn hb (fun h => k1 h A μ hR (nm_kf_tail hk)) (fun h => k2 h A μ hR (nm_kf_tail hk))
theorem nm_gt1 {t : Int} (hr : mg_at j pc = some (3, .ifCond .gt t)) (ht : t.toNat = pt) (hn : pc + 3 = pn) (hb : -2147483648 ≤ z ∧ z < 2147483648) (k1 : 0 < z → nm_w E d j (pt, L, S) κ Q) (k2 : z ≤ 0 → nm_w E d j (pn, L, S) κ Q) : nm_w E d j (pc, L, (0, z) :: S) κ Q := fun A μ hR hk => mg_gt1 (L := nm_l A L) (S := nm_s A S) hr ht hn hb (fun h => k1 h A μ hR (nm_kf_tail hk)) (fun h => k2 h A μ hR (nm_kf_tail hk))
theorem nm_le1 {t : Int} (hr : mg_at j pc = some (3, .ifCond .le t)) (ht : t.toNat = pt) (hn : pc + 3 = pn) (hb : -2147483648 ≤ z ∧ z < 2147483648) (k1 : z ≤ 0 → nm_w E d j (pt, L, S) κ Q) (k2 : 0 < z → nm_w E d j (pn, L, S) κ Q) : nm_w E d j (pc, L, (0, z) :: S) κ Q := fun A μ hR hk => mg_le1 (L := nm_l A L) (S := nm_s A S) hr ht hn hb (fun h => k1 h A μ hR (nm_kf_tail hk)) (fun h => k2 h A μ hR (nm_kf_tail hk))
theorem nm_kf2 {v1 v2 : mg_V} {pc2 : Nat} (h : nm_kf κ (pc, L, v1 :: v2 :: S)) : nm_kf κ (pc2, L, S) := nm_kf_tail (pc := 0) (nm_kf_tail (pc2 := 0) h)
theorem nm_eq2 {t : Int} (hr : mg_at j pc = some (3, .if_icmp .eq t)) (ht : t.toNat = pt) (hn : pc + 3 = pn) (hx : -2147483648 ≤ x ∧ x < 2147483648) (hy : -2147483648 ≤ y ∧ y < 2147483648) (k1 : x = y → nm_w E d j (pt, L, S) κ Q) (k2 : x ≠ y → nm_w E d j (pn, L, S) κ Q) : nm_w E d j (pc, L, (0, y) :: (0, x) :: S) κ Q := fun A μ hR hk => mg_eq2 (L := nm_l A L) (S := nm_s A S) hr ht hn hx hy (fun h => k1 h A μ hR (nm_kf2 hk)) (fun h => k2 h A μ hR (nm_kf2 hk))
theorem nm_ne2 {t : Int} (hr : mg_at j pc = some (3, .if_icmp .ne t)) (ht : t.toNat = pt) (hn : pc + 3 = pn) (hx : -2147483648 ≤ x ∧ x < 2147483648) (hy : -2147483648 ≤ y ∧ y < 2147483648) (k1 : x ≠ y → nm_w E d j (pt, L, S) κ Q) (k2 : x = y → nm_w E d j (pn, L, S) κ Q) : nm_w E d j (pc, L, (0, y) :: (0, x) :: S) κ Q := fun A μ hR hk => mg_ne2 (L := nm_l A L) (S := nm_s A S) hr ht hn hx hy (fun h => k1 h A μ hR (nm_kf2 hk)) (fun h => k2 h A μ hR (nm_kf2 hk))
theorem nm_lt2 {t : Int} (hr : mg_at j pc = some (3, .if_icmp .lt t)) (ht : t.toNat = pt) (hn : pc + 3 = pn) (hx : -2147483648 ≤ x ∧ x < 2147483648) (hy : -2147483648 ≤ y ∧ y < 2147483648) (k1 : x < y → nm_w E d j (pt, L, S) κ Q) (k2 : y ≤ x → nm_w E d j (pn, L, S) κ Q) : nm_w E d j (pc, L, (0, y) :: (0, x) :: S) κ Q := fun A μ hR hk => mg_lt2 (L := nm_l A L) (S := nm_s A S) hr ht hn hx hy (fun h => k1 h A μ hR (nm_kf2 hk)) (fun h => k2 h A μ hR (nm_kf2 hk))
theorem nm_ge2 {t : Int} (hr : mg_at j pc = some (3, .if_icmp .ge t)) (ht : t.toNat = pt) (hn : pc + 3 = pn) (hx : -2147483648 ≤ x ∧ x < 2147483648) (hy : -2147483648 ≤ y ∧ y < 2147483648) (k1 : y ≤ x → nm_w E d j (pt, L, S) κ Q) (k2 : x < y → nm_w E d j (pn, L, S) κ Q) : nm_w E d j (pc, L, (0, y) :: (0, x) :: S) κ Q := fun A μ hR hk => mg_ge2 (L := nm_l A L) (S := nm_s A S) hr ht hn hx hy (fun h => k1 h A μ hR (nm_kf2 hk)) (fun h => k2 h A μ hR (nm_kf2 hk))
theorem nm_gt2 {t : Int} (hr : mg_at j pc = some (3, .if_icmp .gt t)) (ht : t.toNat = pt) (hn : pc + 3 = pn) (hx : -2147483648 ≤ x ∧ x < 2147483648) (hy : -2147483648 ≤ y ∧ y < 2147483648) (k1 : y < x → nm_w E d j (pt, L, S) κ Q) (k2 : x ≤ y → nm_w E d j (pn, L, S) κ Q) : nm_w E d j (pc, L, (0, y) :: (0, x) :: S) κ Q := fun A μ hR hk => mg_gt2 (L := nm_l A L) (S := nm_s A S) hr ht hn hx hy (fun h => k1 h A μ hR (nm_kf2 hk)) (fun h => k2 h A μ hR (nm_kf2 hk))
theorem nm_le2 {t : Int} (hr : mg_at j pc = some (3, .if_icmp .le t)) (ht : t.toNat = pt) (hn : pc + 3 = pn) (hx : -2147483648 ≤ x ∧ x < 2147483648) (hy : -2147483648 ≤ y ∧ y < 2147483648) (k1 : x ≤ y → nm_w E d j (pt, L, S) κ Q) (k2 : y < x → nm_w E d j (pn, L, S) κ Q) : nm_w E d j (pc, L, (0, y) :: (0, x) :: S) κ Q := fun A μ hR hk => mg_le2 (L := nm_l A L) (S := nm_s A S) hr ht hn hx hy (fun h => k1 h A μ hR (nm_kf2 hk)) (fun h => k2 h A μ hR (nm_kf2 hk))
theorem nm_idiv (hr : mg_at j pc = some (1, .idiv)) (hn : pc + 1 = pn) (hx : 0 ≤ x ∧ x < 2147483648) (hy : 0 < y ∧ y < 2147483648) (k : nm_w E d j (pn, L, (0, x / y) :: S) κ Q) : nm_w E d j (pc, L, (0, y) :: (0, x) :: S) κ Q := fun A μ hR hk => mg_idiv (L := nm_l A L) (S := nm_s A S) hr hn hx hy (k A μ hR (nm_kf_cons (pc := 0) (nm_kv0 (by decide)) (nm_kf2 hk)))
theorem nm_irem (hr : mg_at j pc = some (1, .irem)) (hn : pc + 1 = pn) (hx : 0 ≤ x ∧ x < 2147483648) (hy : 0 < y ∧ y < 2147483648) (k : nm_w E d j (pn, L, (0, x % y) :: S) κ Q) : nm_w E d j (pc, L, (0, y) :: (0, x) :: S) κ Q := fun A μ hR hk => mg_irem (L := nm_l A L) (S := nm_s A S) hr hn hx hy (k A μ hR (nm_kf_cons (pc := 0) (nm_kv0 (by decide)) (nm_kf2 hk)))
theorem nm_iand (hr : mg_at j pc = some (1, .iand)) (hn : pc + 1 = pn) (hz : Int32.ofInt x &&& Int32.ofInt y = Int32.ofInt z) (k : nm_w E d j (pn, L, (0, z) :: S) κ Q) : nm_w E d j (pc, L, (0, y) :: (0, x) :: S) κ Q := fun A μ hR hk => mg_iand (L := nm_l A L) (S := nm_s A S) hr hn hz (k A μ hR (nm_kf_cons (pc := 0) (nm_kv0 (by decide)) (nm_kf2 hk)))
theorem nm_ishl (hr : mg_at j pc = some (1, .ishl)) (hn : pc + 1 = pn) (hz : Int32.ofInt x <<< (Int32.ofInt y &&& 31) = Int32.ofInt z) (k : nm_w E d j (pn, L, (0, z) :: S) κ Q) : nm_w E d j (pc, L, (0, y) :: (0, x) :: S) κ Q := fun A μ hR hk => mg_ishl (L := nm_l A L) (S := nm_s A S) hr hn hz (k A μ hR (nm_kf_cons (pc := 0) (nm_kv0 (by decide)) (nm_kf2 hk)))
theorem nm_ishr (hr : mg_at j pc = some (1, .ishr)) (hn : pc + 1 = pn) (hz : Int32.ofInt x >>> (Int32.ofInt y &&& 31) = Int32.ofInt z) (k : nm_w E d j (pn, L, (0, z) :: S) κ Q) : nm_w E d j (pc, L, (0, y) :: (0, x) :: S) κ Q := fun A μ hR hk => mg_ishr (L := nm_l A L) (S := nm_s A S) hr hn hz (k A μ hR (nm_kf_cons (pc := 0) (nm_kv0 (by decide)) (nm_kf2 hk)))
theorem nm_i2l (hr : mg_at j pc = some (1, .i2l)) (hn : pc + 1 = pn) (k : nm_w E d j (pn, L, (1, z.bmod 4294967296) :: S) κ Q) : nm_w E d j (pc, L, (0, z) :: S) κ Q := fun A μ hR hk => mg_i2l (L := nm_l A L) (S := nm_s A S) hr hn (k A μ hR (nm_kf_cons (pc := 0) (nm_kv0 (by decide)) (nm_kf_tail hk)))
theorem nm_tsw {w lo hi : Int} {ts : Array Int} {len : Nat} (hr : mg_at j pc = some (len, .tableswitch w lo hi ts)) (hb : -2147483648 ≤ z ∧ z < 2147483648) (k : nm_w E d j ((mv_sw z w lo hi ts.toList).toNat, L, S) κ Q) : nm_w E d j (pc, L, (0, z) :: S) κ Q := fun A μ hR hk => mg_tsw (L := nm_l A L) (S := nm_s A S) hr hb (k A μ hR (nm_kf_tail hk))
/-! fields -/
theorem nm_rf_f : nm_rf (100 + ((n / 64 : Nat) : Int)) ((n % 64 : Nat) : Int) = mg_fA n := by
  unfold nm_rf
  rw [if_neg (by omega), decide_eq_true (by omega : ((n % 64 : Nat) : Int) < 64), Bool.true_and, show 64 * ((100 + ((n / 64 : Nat) : Int) - 100).toNat) + (((n % 64 : Nat) : Int)).toNat = n by omega]
theorem mg_fI_A (h : mg_fI n = true) : mg_fA n = false := by
  unfold mg_fI at h
  unfold mg_fA
  split at h
  · next e => rw [e]
  · next e => rw [e]
  · cases h
theorem mg_fL_A (h : mg_fL n = true) : mg_fA n = false := by
  unfold mg_fL at h
  unfold mg_fA
  split at h
  · next e => rw [e]
  · cases h
theorem nm_al_of (hc : κ p (-1) = 100 + ((n / 64 : Nat) : Int)) : nm_a κ p := by unfold nm_a; omega
theorem nm_gI (hr : mg_at j pc = some (3, .getfield n)) (hn : pc + 3 = pn) (ht : mg_fI n = true) (hf : ((n % 64 : Nat) : Int) = i) (hc : κ p (-1) = 100 + ((n / 64 : Nat) : Int)) (kk : nm_w E d j (pn, L, (0, κ p i) :: S) κ Q) : nm_w E d j (pc, L, (2, p) :: S) κ Q := by
  intro A μ hR hk
  have ha : nm_a κ p := nm_al_of hc
  obtain ⟨h1, h2, h3⟩ := hR.1 p ha
  have hv : μ (A p) i = κ p i := by
    have h4 := hR.2.2.1 p i ha (by omega)
    rw [hc, ← hf, nm_rf_f, mg_fI_A ht] at h4
    rw [← hf]
    exact h4
  refine mg_gI (L := nm_l A L) (S := nm_s A S) hr hn ht hc hf ⟨h1, h2⟩ ?_
  rw [hv]
  exact kk A μ hR (nm_kf_cons (pc := 0) (nm_kv0 (by decide)) (nm_kf_tail hk))
theorem nm_gL (hr : mg_at j pc = some (3, .getfield n)) (hn : pc + 3 = pn) (ht : mg_fL n = true) (hf : ((n % 64 : Nat) : Int) = i) (hc : κ p (-1) = 100 + ((n / 64 : Nat) : Int)) (kk : nm_w E d j (pn, L, (1, κ p i) :: S) κ Q) : nm_w E d j (pc, L, (2, p) :: S) κ Q := by
  intro A μ hR hk
  have ha : nm_a κ p := nm_al_of hc
  obtain ⟨h1, h2, h3⟩ := hR.1 p ha
  have hv : μ (A p) i = κ p i := by
    have h4 := hR.2.2.1 p i ha (by omega)
    rw [hc, ← hf, nm_rf_f, mg_fL_A ht] at h4
    rw [← hf]
    exact h4
  refine mg_gL (L := nm_l A L) (S := nm_s A S) hr hn ht hc hf ⟨h1, h2⟩ ?_
  rw [hv]
  exact kk A μ hR (nm_kf_cons (pc := 0) (nm_kv0 (by decide)) (nm_kf_tail hk))
theorem nm_gA (hr : mg_at j pc = some (3, .getfield n)) (hn : pc + 3 = pn) (ht : mg_fA n = true) (hf : ((n % 64 : Nat) : Int) = i) (hc : κ p (-1) = 100 + ((n / 64 : Nat) : Int)) (k1 : 0 ≤ κ p i → nm_w E d j (pn, L, (2, κ p i) :: S) κ Q) (k2 : κ p i < 0 → nm_w E d j (pn, L, (3, 0) :: S) κ Q) : nm_w E d j (pc, L, (2, p) :: S) κ Q := by
  intro A μ hR hk
  have ha : nm_a κ p := nm_al_of hc
  obtain ⟨h1, h2, h3⟩ := hR.1 p ha
  have h4 := hR.2.2.1 p i ha (by omega)
  rw [hc, ← hf, nm_rf_f, ht, if_pos rfl, hf] at h4
  rcases h4 with ⟨h5, h6⟩ | ⟨h5, h6, h7, h8⟩
  · exact mg_gN (L := nm_l A L) (S := nm_s A S) hr hn ht hc hf ⟨h1, h2⟩ h6 (k2 h5 A μ hR (nm_kf_cons (pc := 0) (nm_kv0 (by decide)) (nm_kf_tail hk)))
  · refine mg_gR (L := nm_l A L) (S := nm_s A S) hr hn ht hc hf ⟨h1, h2⟩ (by rw [h8]; exact h7) ?_
    rw [h8]
    exact k1 h6 A μ hR (nm_kf_cons (pc := 0) (fun _ => h5) (nm_kf_tail hk))
theorem nm_gR (hr : mg_at j pc = some (3, .getfield n)) (hn : pc + 3 = pn) (ht : mg_fA n = true) (hf : ((n % 64 : Nat) : Int) = i) (hc : κ p (-1) = 100 + ((n / 64 : Nat) : Int)) (h0 : 0 ≤ κ p i) (k1 : nm_w E d j (pn, L, (2, κ p i) :: S) κ Q) : nm_w E d j (pc, L, (2, p) :: S) κ Q := nm_gA hr hn ht hf hc (fun _ => k1) (fun h => absurd h (by omega))
theorem nm_gN (hr : mg_at j pc = some (3, .getfield n)) (hn : pc + 3 = pn) (ht : mg_fA n = true) (hf : ((n % 64 : Nat) : Int) = i) (hc : κ p (-1) = 100 + ((n / 64 : Nat) : Int)) (h0 : κ p i < 0) (k2 : nm_w E d j (pn, L, (3, 0) :: S) κ Q) : nm_w E d j (pc, L, (2, p) :: S) κ Q := nm_gA hr hn ht hf hc (fun h => absurd h (by omega)) (fun _ => k2)
/-! writing -/
theorem nm_pos (hR : nm_R E A κ μ) (ha : nm_a κ p) : 0 ≤ p := by
  by_cases h : p < 0
  · exact absurd ha (hR.2.2.2.2.2 p (Or.inl h))
  · omega
theorem nm_a_u (hi : 0 ≤ i) {q : Int} : nm_a (mm_u κ p i z) q ↔ nm_a κ q := by
  unfold nm_a
  rw [mm_u_ne (by omega)]
theorem nm_k_u (hi : 0 ≤ i) {q : Int} : nm_k (mm_u κ p i z) q ↔ nm_k κ q := by
  unfold nm_k
  rw [nm_a_u hi]
theorem mm_sz_u (h : mm_i E μ a) (hi : 0 ≤ i) : mv_sz mt_cl (mm_h E (mm_u μ a i z)) = mv_sz mt_cl (mm_h E μ) := by
  rw [← mm_upd (i := i) (z := z) h rfl]
  refine mv_up_sz mt_cl (mm_lk h) ?_
  have e1 : mm_u μ a i z a (-1) = μ a (-1) := mm_u_ne (by omega)
  have e2 : mm_u μ a i z a (-2) = μ a (-2) := mm_u_ne (by omega)
  unfold mm_c
  rw [e1, e2]
  split <;> rfl
theorem nm_R_u (hR : nm_R E A κ μ) (ha : nm_a κ p) (hi : 0 ≤ i) (hw : if nm_rf (κ p (-1)) i = true then (z < 0 ∧ w < 0) ∨ (nm_k κ z ∧ 0 ≤ z ∧ 0 ≤ A z ∧ w = A z) else w = z) : nm_R E A (mm_u κ p i z) (mm_u μ (A p) i w) := by
  have hp := nm_pos hR ha
  obtain ⟨h1, h2, h3, h4, h5, h6⟩ := hR
  have hpi := (h1 p ha).1
  have hAp := hpi.pos
  have hn : mm_u μ (A p) i w (-1) 0 = μ (-1) 0 := mm_u_n hpi
  refine ⟨fun q hq => ?_, fun q r hq hr => ?_, fun q i' hq hi' => ?_, ⟨by rw [hn]; exact h4.1, ?_, ?_⟩, h5, fun q hq hqa => h6 q hq ((nm_a_u hi).mp hqa)⟩
  · have hq' := (nm_a_u hi).mp hq
    obtain ⟨g1, g2, g3⟩ := h1 q hq'
    refine ⟨⟨g1.1, by rw [hn]; exact g1.2⟩, ?_, ?_⟩
    · rw [mm_u_ne (by omega), mm_u_ne (by omega)]; exact g2
    · rw [mm_u_ne (by omega), mm_u_ne (by omega)]; exact g3
  · exact h2 q r ((nm_a_u hi).mp hq) ((nm_a_u hi).mp hr)
  · have hq' := (nm_a_u hi).mp hq
    rw [show mm_u κ p i z q (-1) = κ q (-1) from mm_u_ne (by omega)]
    by_cases hqi : q = p ∧ i' = i
    · obtain ⟨rfl, rfl⟩ := hqi
      rw [mm_u_at, mm_u_at]
      simp only [nm_k_u hi]
      exact hw
    · rw [mm_u_ne hqi, mm_u_ne (fun e => hqi ⟨h2 q p hq' ha e.1, e.2⟩)]
      simp only [nm_k_u hi]
      exact h3 q i' hq' hi'
  · rw [hn, mm_u_ne (by omega)]; exact h4.2.1
  · rw [mm_sz_u hpi hi, mm_u_ne (by omega)]; exact h4.2.2
theorem nm_x_u (hi : 0 ≤ i) : nm_x A A κ (mm_u κ p i z) := fun _ h => ⟨rfl, (nm_k_u hi).mpr h⟩
theorem nm_kf_u (hi : 0 ≤ i) (h : nm_kf κ f) : nm_kf (mm_u κ p i z) f := ⟨fun v hv e => (nm_k_u hi).mpr (h.1 v hv e), fun v hv e => (nm_k_u hi).mpr (h.2 v hv e)⟩
/-- from a memory on to one that knows more -/
theorem nm_on (hR : nm_R E A' κ' μ') (hx : nm_x A A' κ κ') (hk : nm_kf κ' f) (w : nm_w E d j f κ' Q) : mg_w E d j (nm_f A' f) μ' (fun r μ2 => ∃ A2 κ2 o, nm_R E A2 κ2 μ2 ∧ nm_x A A2 κ κ2 ∧ nm_res E A2 κ2 μ2 r o ∧ Q o κ2) :=
  mg_mono (w A' μ' hR hk) (fun _ _ ⟨A2, κ2, o, h1, h2, h3, h4⟩ => ⟨A2, κ2, o, h1, hx.trans h2, h3, h4⟩)
theorem nm_pI (hr : mg_at j pc = some (3, .putfield n)) (hn : pc + 3 = pn) (ht : mg_ty n = some .int) (hf : ((n % 64 : Nat) : Int) = i) (hc : κ p (-1) = 100 + ((n / 64 : Nat) : Int)) (kk : nm_w E d j (pn, L, S) (mm_u κ p i z) Q) : nm_w E d j (pc, L, (0, z) :: (2, p) :: S) κ Q := by
  intro A μ hR hk
  have ha : nm_a κ p := nm_al_of hc
  obtain ⟨h1, h2, h3⟩ := hR.1 p ha
  have hA : mg_fA n = false := by unfold mg_fA; rw [ht]
  refine mg_pI (L := nm_l A L) (S := nm_s A S) hr hn ht hc hf ⟨h1, h2⟩ ?_
  exact nm_on (f := (pn, L, S)) (nm_R_u hR ha (by omega) (by rw [hc, ← hf, nm_rf_f, hA]; exact rfl)) (nm_x_u (by omega)) (nm_kf_u (by omega) (nm_kf2 hk)) kk
theorem nm_pZ (hr : mg_at j pc = some (3, .putfield n)) (hn : pc + 3 = pn) (ht : mg_ty n = some .boolean) (hf : ((n % 64 : Nat) : Int) = i) (hc : κ p (-1) = 100 + ((n / 64 : Nat) : Int)) (hz : z = 0 ∨ z = 1) (kk : nm_w E d j (pn, L, S) (mm_u κ p i z) Q) : nm_w E d j (pc, L, (0, z) :: (2, p) :: S) κ Q := by
  intro A μ hR hk
  have ha : nm_a κ p := nm_al_of hc
  obtain ⟨h1, h2, h3⟩ := hR.1 p ha
  have hA : mg_fA n = false := by unfold mg_fA; rw [ht]
  refine mg_pZ (L := nm_l A L) (S := nm_s A S) hr hn ht hc hf ⟨h1, h2⟩ hz ?_
  exact nm_on (f := (pn, L, S)) (nm_R_u hR ha (by omega) (by rw [hc, ← hf, nm_rf_f, hA]; exact rfl)) (nm_x_u (by omega)) (nm_kf_u (by omega) (nm_kf2 hk)) kk
theorem nm_pL (hr : mg_at j pc = some (3, .putfield n)) (hn : pc + 3 = pn) (ht : mg_ty n = some .long) (hf : ((n % 64 : Nat) : Int) = i) (hc : κ p (-1) = 100 + ((n / 64 : Nat) : Int)) (kk : nm_w E d j (pn, L, S) (mm_u κ p i z) Q) : nm_w E d j (pc, L, (1, z) :: (2, p) :: S) κ Q := by
  intro A μ hR hk
  have ha : nm_a κ p := nm_al_of hc
  obtain ⟨h1, h2, h3⟩ := hR.1 p ha
  have hA : mg_fA n = false := by unfold mg_fA; rw [ht]
  refine mg_pL (L := nm_l A L) (S := nm_s A S) hr hn ht hc hf ⟨h1, h2⟩ ?_
  exact nm_on (f := (pn, L, S)) (nm_R_u hR ha (by omega) (by rw [hc, ← hf, nm_rf_f, hA]; exact rfl)) (nm_x_u (by omega)) (nm_kf_u (by omega) (nm_kf2 hk)) kk
/-- the address of what is known -/
theorem nm_A0 (hR : nm_R E A κ μ) (h : nm_k κ p) : 0 ≤ A p := by
  rcases h with h | rfl | rfl | rfl
  · exact (hR.1 p h).1.pos
  · rw [hR.2.2.2.2.1.1]; omega
  · rw [hR.2.2.2.2.1.2.1]; omega
  · rw [hR.2.2.2.2.1.2.2]; omega
theorem nm_k0 (hR : nm_R E A κ μ) (h : nm_k κ p) : 0 ≤ p := by
  rcases h with h | rfl | rfl | rfl
  · exact nm_pos hR h
  · omega
  · omega
  · omega
theorem nm_pA (hr : mg_at j pc = some (3, .putfield n)) (hn : pc + 3 = pn) (ht : mg_fA n = true) (hf : ((n % 64 : Nat) : Int) = i) (hc : κ p (-1) = 100 + ((n / 64 : Nat) : Int)) (kk : nm_w E d j (pn, L, S) (mm_u κ p i z) Q) : nm_w E d j (pc, L, (2, z) :: (2, p) :: S) κ Q := by
  intro A μ hR hk
  have ha : nm_a κ p := nm_al_of hc
  obtain ⟨h1, h2, h3⟩ := hR.1 p ha
  have hz : nm_k κ z := hk.2 (2, z) List.mem_cons_self rfl
  refine mg_pA (L := nm_l A L) (S := nm_s A S) hr hn ht hc hf ⟨h1, h2⟩ (nm_A0 hR hz) ?_
  exact nm_on (f := (pn, L, S)) (nm_R_u hR ha (by omega) (by rw [hc, ← hf, nm_rf_f, ht, if_pos rfl]; exact Or.inr ⟨hz, nm_k0 hR hz, nm_A0 hR hz, rfl⟩)) (nm_x_u (by omega)) (nm_kf_u (by omega) (nm_kf2 hk)) kk
theorem nm_pN (hr : mg_at j pc = some (3, .putfield n)) (hn : pc + 3 = pn) (ht : mg_fA n = true) (hf : ((n % 64 : Nat) : Int) = i) (hc : κ p (-1) = 100 + ((n / 64 : Nat) : Int)) (kk : nm_w E d j (pn, L, S) (mm_u κ p i (-1)) Q) : nm_w E d j (pc, L, (3, 0) :: (2, p) :: S) κ Q := by
  intro A μ hR hk
  have ha : nm_a κ p := nm_al_of hc
  obtain ⟨h1, h2, h3⟩ := hR.1 p ha
  refine mg_pN (L := nm_l A L) (S := nm_s A S) hr hn ht hc hf ⟨h1, h2⟩ ?_
  exact nm_on (f := (pn, L, S)) (nm_R_u hR ha (by omega) (by rw [hc, ← hf, nm_rf_f, ht, if_pos rfl]; exact Or.inl ⟨by omega, by omega⟩)) (nm_x_u (by omega)) (nm_kf_u (by omega) (nm_kf2 hk)) kk
end NMB
end
section
/-! arrays and what is made, over names -/
section NMC
variable {E : mv_E} {A A' A2 : Int → Int} {κ κ' κ2 μ μ' : mm_T} {d j pc pn pt : Nat} {L : mg_L} {S : List mg_V} {f f' : mg_F} {Q Q' : nm_O → mm_T → Prop} {x y z a v i k l p w : Int} {n t : Nat}
theorem nm_acq {t : Int} (hr : mg_at j pc = some (3, .if_acmp .eq t)) (ht : t.toNat = pt) (hn : pc + 3 = pn) (hx : nm_a κ x) (hy : nm_a κ y) (k1 : x = y → nm_w E d j (pt, L, S) κ Q) (k2 : x ≠ y → nm_w E d j (pn, L, S) κ Q) : nm_w E d j (pc, L, (2, y) :: (2, x) :: S) κ Q := fun A μ hR hk => mg_acq (L := nm_l A L) (S := nm_s A S) (x := A x) (y := A y) hr ht hn (nm_A0 hR (Or.inl hx)) (nm_A0 hR (Or.inl hy)) (fun h => k1 (hR.2.1 x y hx hy h) A μ hR (nm_kf2 hk)) (fun h => k2 (fun e => h (by rw [e])) A μ hR (nm_kf2 hk))
theorem nm_acn {t : Int} (hr : mg_at j pc = some (3, .if_acmp .ne t)) (ht : t.toNat = pt) (hn : pc + 3 = pn) (hx : nm_a κ x) (hy : nm_a κ y) (k1 : x ≠ y → nm_w E d j (pt, L, S) κ Q) (k2 : x = y → nm_w E d j (pn, L, S) κ Q) : nm_w E d j (pc, L, (2, y) :: (2, x) :: S) κ Q := fun A μ hR hk => mg_acn (L := nm_l A L) (S := nm_s A S) (x := A x) (y := A y) hr ht hn (nm_A0 hR (Or.inl hx)) (nm_A0 hR (Or.inl hy)) (fun h => k1 (fun e => h (by rw [e])) A μ hR (nm_kf2 hk)) (fun h => k2 (hR.2.1 x y hx hy h) A μ hR (nm_kf2 hk))
/-- a cell compared with itself -/
theorem nm_acqs {t : Int} (hr : mg_at j pc = some (3, .if_acmp .eq t)) (ht : t.toNat = pt) (k1 : nm_w E d j (pt, L, S) κ Q) : nm_w E d j (pc, L, (2, x) :: (2, x) :: S) κ Q := fun A μ hR hk => mg_acq (L := nm_l A L) (S := nm_s A S) (x := A x) (y := A x) hr ht rfl (nm_A0 hR (hk.2 (2, x) List.mem_cons_self rfl)) (nm_A0 hR (hk.2 (2, x) List.mem_cons_self rfl)) (fun h => k1 A μ hR (nm_kf2 hk)) (fun h => absurd rfl h)
theorem nm_acns {t : Int} (hr : mg_at j pc = some (3, .if_acmp .ne t)) (hn : pc + 3 = pn) (k1 : nm_w E d j (pn, L, S) κ Q) : nm_w E d j (pc, L, (2, x) :: (2, x) :: S) κ Q := fun A μ hR hk => mg_acn (L := nm_l A L) (S := nm_s A S) (x := A x) (y := A x) hr rfl hn (nm_A0 hR (hk.2 (2, x) List.mem_cons_self rfl)) (nm_A0 hR (hk.2 (2, x) List.mem_cons_self rfl)) (fun h => absurd rfl h) (fun h => k1 A μ hR (nm_kf2 hk))
theorem nm_acn0 {t : Int} (hr : mg_at j pc = some (3, .if_acmp .ne t)) (ht : t.toNat = pt) (hn : pc + 3 = pn) (k1 : nm_w E d j (pt, L, S) κ Q) : nm_w E d j (pc, L, (3, y) :: (2, x) :: S) κ Q := fun A μ hR hk => mg_acn0 (L := nm_l A L) (S := nm_s A S) (x := A x) hr ht hn (k1 A μ hR (nm_kf2 hk))
theorem nm_acq0 {t : Int} (hr : mg_at j pc = some (3, .if_acmp .eq t)) (ht : t.toNat = pt) (hn : pc + 3 = pn) (k1 : nm_w E d j (pn, L, S) κ Q) : nm_w E d j (pc, L, (3, y) :: (2, x) :: S) κ Q := fun A μ hR hk => mg_acq0 (L := nm_l A L) (S := nm_s A S) (x := A x) hr ht hn (k1 A μ hR (nm_kf2 hk))
theorem nm_ar (hR : nm_R E A κ μ) (hk : κ p (-1) = (t : Int)) : nm_a κ p ∧ mm_r E μ (A p) (t : Int) (κ p (-2)) := by
  have ha : nm_a κ p := by unfold nm_a; omega
  obtain ⟨h1, h2, h3⟩ := hR.1 p ha
  exact ⟨ha, h1, h2.trans hk, h3⟩
theorem nm_len (hr : mg_at j pc = some (1, .arraylength)) (hn : pc + 1 = pn) (hk : κ p (-1) = (t : Int)) (ht : (mt_ty[t]?).isSome = true) (ht2 : t < 100) (hl : κ p (-2) = l) (hl0 : 0 ≤ l) (kk : nm_w E d j (pn, L, (0, l) :: S) κ Q) : nm_w E d j (pc, L, (2, p) :: S) κ Q := fun A μ hR hf => mg_len (L := nm_l A L) (S := nm_s A S) hr hn ht ht2 hl0 (by rw [← hl]; exact (nm_ar hR hk).2) (kk A μ hR (nm_kf_cons (pc := 0) (nm_kv0 (by decide)) (nm_kf_tail hf)))
theorem nm_lenS (hr : mg_at j pc = some (1, .arraylength)) (hn : pc + 1 = pn) (h0 : E.2.1 < E.1) (kk : nm_w E d j (pn, L, (0, (E.2.2.1 : Int)) :: S) κ Q) : nm_w E d j (pc, L, (2, 9001) :: S) κ Q := fun A μ hR hf => by
  show mg_w E d j (pc, nm_l A L, (2, A 9001) :: nm_s A S) μ _
  rw [hR.2.2.2.2.1.1]
  exact mg_lenS hr hn h0 (kk A μ hR (nm_kf_cons (pc := 0) (nm_kv0 (by decide)) (nm_kf_tail hf)))
theorem nm_lenE (hr : mg_at j pc = some (1, .arraylength)) (hn : pc + 1 = pn) (h0 : E.2.2.2.2.1 < E.1) (h1 : E.2.2.2.2.1 ≠ E.2.1) (kk : nm_w E d j (pn, L, (0, 0) :: S) κ Q) : nm_w E d j (pc, L, (2, 9002) :: S) κ Q := fun A μ hR hf => by
  show mg_w E d j (pc, nm_l A L, (2, A 9002) :: nm_s A S) μ _
  rw [hR.2.2.2.2.1.2.1]
  exact mg_lenE hr hn h0 h1 (kk A μ hR (nm_kf_cons (pc := 0) (nm_kv0 (by decide)) (nm_kf_tail hf)))
theorem nm_rd (hR : nm_R E A κ μ) (ha : nm_a κ p) (hk : κ p (-1) < 3) (hi : 0 ≤ i) : μ (A p) i = κ p i := by
  have h4 := hR.2.2.1 p i ha hi
  have e : nm_rf (κ p (-1)) i = false := by unfold nm_rf; rw [if_pos (by omega)]; exact decide_eq_false (by omega)
  rw [e] at h4
  exact h4
theorem nm_ial (hr : mg_at j pc = some (1, .iaload)) (hn : pc + 1 = pn) (hk : κ p (-1) = 0) (hl : κ p (-2) = l) (hl2 : l ≤ 2147483648) (hi : 0 ≤ i ∧ i < l) (kk : nm_w E d j (pn, L, (0, κ p i) :: S) κ Q) : nm_w E d j (pc, L, (0, i) :: (2, p) :: S) κ Q := fun A μ hR hf => by
  obtain ⟨ha, hr2⟩ := nm_ar (t := 0) hR hk
  rw [hl] at hr2
  refine mg_ial (L := nm_l A L) (S := nm_s A S) hr hn hi hl2 hr2 ?_
  rw [nm_rd hR ha (by omega) hi.1]
  exact kk A μ hR (nm_kf_cons (pc := 0) (nm_kv0 (by decide)) (nm_kf2 hf))
theorem nm_ialS (hr : mg_at j pc = some (1, .iaload)) (hn : pc + 1 = pn) (h0 : E.2.1 < E.1) (hi : 0 ≤ i ∧ i < (E.2.2.1 : Int)) (hl : E.2.2.1 ≤ 3072) (kk : nm_w E d j (pn, L, (0, (E.2.2.2.1 i.toNat).toInt) :: S) κ Q) : nm_w E d j (pc, L, (0, i) :: (2, 9001) :: S) κ Q := fun A μ hR hf => by
  show mg_w E d j (pc, nm_l A L, (0, i) :: (2, A 9001) :: nm_s A S) μ _
  rw [hR.2.2.2.2.1.1]
  exact mg_ialS hr hn h0 hi hl (kk A μ hR (nm_kf_cons (pc := 0) (nm_kv0 (by decide)) (nm_kf2 hf)))
theorem nm_bal (hr : mg_at j pc = some (1, .baload)) (hn : pc + 1 = pn) (hk : κ p (-1) = 1) (hl : κ p (-2) = l) (hl2 : l ≤ 2147483648) (hi : 0 ≤ i ∧ i < l) (kk : nm_w E d j (pn, L, (0, κ p i) :: S) κ Q) : nm_w E d j (pc, L, (0, i) :: (2, p) :: S) κ Q := fun A μ hR hf => by
  obtain ⟨ha, hr2⟩ := nm_ar (t := 1) hR hk
  rw [hl] at hr2
  refine mg_bal (L := nm_l A L) (S := nm_s A S) hr hn hi hl2 hr2 ?_
  rw [nm_rd hR ha (by omega) hi.1]
  exact kk A μ hR (nm_kf_cons (pc := 0) (nm_kv0 (by decide)) (nm_kf2 hf))
theorem nm_lal (hr : mg_at j pc = some (1, .laload)) (hn : pc + 1 = pn) (hk : κ p (-1) = 2) (hl : κ p (-2) = l) (hl2 : l ≤ 2147483648) (hi : 0 ≤ i ∧ i < l) (kk : nm_w E d j (pn, L, (1, κ p i) :: S) κ Q) : nm_w E d j (pc, L, (0, i) :: (2, p) :: S) κ Q := fun A μ hR hf => by
  obtain ⟨ha, hr2⟩ := nm_ar (t := 2) hR hk
  rw [hl] at hr2
  refine mg_lal (L := nm_l A L) (S := nm_s A S) hr hn hi hl2 hr2 ?_
  rw [nm_rd hR ha (by omega) hi.1]
  exact kk A μ hR (nm_kf_cons (pc := 0) (nm_kv0 (by decide)) (nm_kf2 hf))
theorem mg_aA_3 (h : mg_aA t = true) : 3 ≤ t := by
  match t, h with
  | 0, h => cases h
  | 1, h => cases h
  | 2, h => cases h
  | t + 3, _ => omega
theorem nm_aal (hr : mg_at j pc = some (1, .aaload)) (hn : pc + 1 = pn) (ht : mg_aA t = true) (ht2 : t < 100) (hk : κ p (-1) = (t : Int)) (hl : κ p (-2) = l) (hl2 : l ≤ 2147483648) (hi : 0 ≤ i ∧ i < l) (k1 : 0 ≤ κ p i → nm_w E d j (pn, L, (2, κ p i) :: S) κ Q) (k2 : κ p i < 0 → nm_w E d j (pn, L, (3, 0) :: S) κ Q) : nm_w E d j (pc, L, (0, i) :: (2, p) :: S) κ Q := fun A μ hR hf => by
  obtain ⟨ha, hr2⟩ := nm_ar hR hk
  rw [hl] at hr2
  have h3 := mg_aA_3 ht
  have h4 := hR.2.2.1 p i ha hi.1
  have e : nm_rf (κ p (-1)) i = true := by unfold nm_rf; rw [if_pos (by omega)]; exact decide_eq_true (by omega)
  rw [e, if_pos rfl] at h4
  refine mg_aal (a := A p) (L := nm_l A L) (S := nm_s A S) hr hn ht ht2 hi hl2 hr2 (fun h0 => ?_) (fun h0 => ?_)
  · rcases h4 with ⟨h5, h6⟩ | ⟨h5, h6, h7, h8⟩
    · omega
    · rw [h8]
      exact k1 h6 A μ hR (nm_kf_cons (pc := 0) (fun _ => h5) (nm_kf2 hf))
  · rcases h4 with ⟨h5, h6⟩ | ⟨h5, h6, h7, h8⟩
    · exact k2 h5 A μ hR (nm_kf_cons (pc := 0) (nm_kv0 (by decide)) (nm_kf2 hf))
    · omega
theorem nm_kf3 {v1 v2 v3 : mg_V} {pc2 : Nat} (h : nm_kf κ (pc, L, v1 :: v2 :: v3 :: S)) : nm_kf κ (pc2, L, S) := nm_kf_tail (pc := 0) (nm_kf2 (pc2 := 0) h)
theorem nm_w3 (hk : κ p (-1) < 3) : nm_rf (κ p (-1)) i = false := by unfold nm_rf; rw [if_pos (by omega)]; exact decide_eq_false (by omega)
theorem nm_ias (hr : mg_at j pc = some (1, .iastore)) (hn : pc + 1 = pn) (hk : κ p (-1) = 0) (hl : κ p (-2) = l) (hl2 : l ≤ 2147483648) (hi : 0 ≤ i ∧ i < l) (kk : nm_w E d j (pn, L, S) (mm_u κ p i z) Q) : nm_w E d j (pc, L, (0, z) :: (0, i) :: (2, p) :: S) κ Q := fun A μ hR hf => by
  obtain ⟨ha, hr2⟩ := nm_ar (t := 0) hR hk
  rw [hl] at hr2
  refine mg_ias (L := nm_l A L) (S := nm_s A S) hr hn hi hl2 hr2 ?_
  exact nm_on (f := (pn, L, S)) (nm_R_u (p := p) hR ha hi.1 (by rw [nm_w3 (by omega)]; exact rfl)) (nm_x_u hi.1) (nm_kf_u hi.1 (nm_kf3 hf)) kk
theorem nm_bas (hr : mg_at j pc = some (1, .bastore)) (hn : pc + 1 = pn) (hz : z = 0 ∨ z = 1) (hk : κ p (-1) = 1) (hl : κ p (-2) = l) (hl2 : l ≤ 2147483648) (hi : 0 ≤ i ∧ i < l) (kk : nm_w E d j (pn, L, S) (mm_u κ p i z) Q) : nm_w E d j (pc, L, (0, z) :: (0, i) :: (2, p) :: S) κ Q := fun A μ hR hf => by
  obtain ⟨ha, hr2⟩ := nm_ar (t := 1) hR hk
  rw [hl] at hr2
  refine mg_bas (L := nm_l A L) (S := nm_s A S) hr hn hz hi hl2 hr2 ?_
  exact nm_on (f := (pn, L, S)) (nm_R_u (p := p) hR ha hi.1 (by rw [nm_w3 (by omega)]; exact rfl)) (nm_x_u hi.1) (nm_kf_u hi.1 (nm_kf3 hf)) kk
theorem nm_las (hr : mg_at j pc = some (1, .lastore)) (hn : pc + 1 = pn) (hk : κ p (-1) = 2) (hl : κ p (-2) = l) (hl2 : l ≤ 2147483648) (hi : 0 ≤ i ∧ i < l) (kk : nm_w E d j (pn, L, S) (mm_u κ p i z) Q) : nm_w E d j (pc, L, (1, z) :: (0, i) :: (2, p) :: S) κ Q := fun A μ hR hf => by
  obtain ⟨ha, hr2⟩ := nm_ar (t := 2) hR hk
  rw [hl] at hr2
  refine mg_las (L := nm_l A L) (S := nm_s A S) hr hn hi hl2 hr2 ?_
  exact nm_on (f := (pn, L, S)) (nm_R_u (p := p) hR ha hi.1 (by rw [nm_w3 (by omega)]; exact rfl)) (nm_x_u hi.1) (nm_kf_u hi.1 (nm_kf3 hf)) kk
theorem nm_wA (ht : mg_aA t = true) (ht2 : t < 100) (hk : κ p (-1) = (t : Int)) : nm_rf (κ p (-1)) i = true := by
  have h3 := mg_aA_3 ht
  unfold nm_rf
  rw [if_pos (by omega)]
  exact decide_eq_true (by omega)
theorem nm_aasN (hr : mg_at j pc = some (1, .aastore)) (hn : pc + 1 = pn) (ht : mg_aA t = true) (ht2 : t < 100) (hk : κ p (-1) = (t : Int)) (hl : κ p (-2) = l) (hl2 : l ≤ 2147483648) (hi : 0 ≤ i ∧ i < l) (kk : nm_w E d j (pn, L, S) (mm_u κ p i (-1)) Q) : nm_w E d j (pc, L, (3, 0) :: (0, i) :: (2, p) :: S) κ Q := fun A μ hR hf => by
  obtain ⟨ha, hr2⟩ := nm_ar hR hk
  rw [hl] at hr2
  refine mg_aasN (L := nm_l A L) (S := nm_s A S) hr hn ht ht2 hi hl2 hr2 ?_
  exact nm_on (f := (pn, L, S)) (nm_R_u (p := p) hR ha hi.1 (by rw [nm_wA ht ht2 hk, if_pos rfl]; exact Or.inl ⟨by omega, by omega⟩)) (nm_x_u hi.1) (nm_kf_u hi.1 (nm_kf3 hf)) kk
theorem nm_aas {c : Nat} (hr : mg_at j pc = some (1, .aastore)) (hn : pc + 1 = pn) (ht : mg_aA t = true) (ht2 : t < 100) (hct : mt_as.contains (c, t) = true) (hv : κ v (-1) = 100 + (c : Int)) (hk : κ p (-1) = (t : Int)) (hl : κ p (-2) = l) (hl2 : l ≤ 2147483648) (hi : 0 ≤ i ∧ i < l) (kk : nm_w E d j (pn, L, S) (mm_u κ p i v) Q) : nm_w E d j (pc, L, (2, v) :: (0, i) :: (2, p) :: S) κ Q := fun A μ hR hf => by
  obtain ⟨ha, hr2⟩ := nm_ar hR hk
  rw [hl] at hr2
  have hva : nm_a κ v := by unfold nm_a; omega
  obtain ⟨g1, g2, g3⟩ := hR.1 v hva
  refine mg_aas (L := nm_l A L) (S := nm_s A S) hr hn ht ht2 hv hct hi hl2 hr2 ⟨g1, g2⟩ ?_
  exact nm_on (f := (pn, L, S)) (nm_R_u (p := p) hR ha hi.1 (by rw [nm_wA ht ht2 hk, if_pos rfl]; exact Or.inr ⟨Or.inl hva, nm_pos hR hva, nm_A0 hR (Or.inl hva), rfl⟩)) (nm_x_u hi.1) (nm_kf_u hi.1 (nm_kf3 hf)) kk
theorem nm_cast (hr : mg_at j pc = some (3, .checkcast n)) (hn : pc + 3 = pn) (hc : κ p (-1) = 100 + (n : Int)) (kk : nm_w E d j (pn, L, (2, p) :: S) κ Q) : nm_w E d j (pc, L, (2, p) :: S) κ Q := fun A μ hR hf => by
  have ha : nm_a κ p := by unfold nm_a; omega
  obtain ⟨g1, g2, g3⟩ := hR.1 p ha
  exact mg_cast (L := nm_l A L) (S := nm_s A S) hr hn hc ⟨g1, g2⟩ (kk A μ hR hf)
theorem nm_cat : (mg_eS (nm_s A S)).map (fun v => v.category) = (mg_eS S).map fun v => v.category := by
  unfold mg_eS nm_s
  rw [List.map_map, List.map_map, List.map_map]
  congr 1
  funext v
  obtain ⟨t, z⟩ := v
  match t with
  | 0 => rfl
  | 1 => rfl
  | 2 => rfl
  | t + 3 => rfl
theorem nm_oi (hr : mg_at j pc = some (3, .monitorexit)) (hn : pc + 3 = pn) (hS : decide (((mg_eS S).map fun v => v.category).sum ≤ 24) = true) (kk : nm_w E d j (pn, L, S) κ Q) : nm_w E d j (pc, L, (2, p) :: S) κ Q := fun A μ hR hf => mg_oi (L := nm_l A L) (S := nm_s A S) hr hn (by rw [nm_cat]; exact hS) (kk A μ hR (nm_kf_tail hf))
/-! what is made: under a name that is not in use -/
def nm_up (A : Int → Int) (p a : Int) : Int → Int := fun q => if q = p then a else A q
theorem nm_up_at : nm_up A p a p = a := by simp [nm_up]
theorem nm_up_ne {q : Int} (h : q ≠ p) : nm_up A p a q = A q := by simp [nm_up, h]
def nm_al (κ : mm_T) (p k l sz : Int) (z0 : Int → Int) : mm_T := fun q i => if q = -1 ∧ i = 0 then κ (-1) 0 + 1 else if q = -1 ∧ i = 1 then κ (-1) 1 + sz else if q = p then (if i = -1 then k else if i = -2 then l else z0 i) else κ q i
theorem nm_al_ne {sz : Int} {z0 : Int → Int} {q : Int} (h : q ≠ p) (h1 : q ≠ -1) : nm_al κ p k l sz z0 q i = κ q i := by simp [nm_al, h, h1]
theorem mm_sz_al {z0 : Int → Int} (h0 : 0 ≤ μ (-1) 0) {c : mv_C} (hc : c = mm_c (mm_al E μ k l z0) (E.1 + μ (-1) 0)) : mv_sz mt_cl (mm_h E (mm_al E μ k l z0)) = mv_sz mt_cl (mm_h E μ) + mv_cz mt_cl c := by
  rw [← mm_push h0 hc, mv_sz_app]
theorem nm_R_al {z0 : Int → Int} {sz : Int} (hR : nm_R E A κ μ) (hp : 0 ≤ p) (hp2 : ¬ (9001 ≤ p ∧ p ≤ 9003)) (hpn : κ p (-1) < 0) (hk : 0 ≤ k) (hz : ∀ i, 0 ≤ i → nm_rf k i = true → z0 i < 0) (hsz : sz = (mv_cz mt_cl (mm_c (mm_al E μ k l z0) (E.1 + μ (-1) 0)) : Int)) : nm_R E (nm_up A p (E.1 + μ (-1) 0)) (nm_al κ p k l sz z0) (mm_al E μ k l z0) ∧ nm_x A (nm_up A p (E.1 + μ (-1) 0)) κ (nm_al κ p k l sz z0) := by
  obtain ⟨h1, h2, h3, h4, h5, h6⟩ := hR
  have e0 : mm_al E μ k l z0 (-1) 0 = μ (-1) 0 + 1 := by simp [mm_al]
  have hm : ∀ q i, nm_a κ q → mm_al E μ k l z0 (A q) i = μ (A q) i := by
    intro q i hq
    obtain ⟨g1, -, -⟩ := h1 q hq
    have := g1.1
    have := g1.2
    unfold mm_al
    rw [if_neg (by omega), if_neg (by omega)]
  have hq1 : ∀ q, nm_a κ q → q ≠ p ∧ q ≠ -1 := by
    intro q hq
    refine ⟨?_, fun e => h6 q (Or.inl (by omega)) hq⟩
    rintro rfl
    unfold nm_a at hq
    omega
  have ha : ∀ q, nm_a (nm_al κ p k l sz z0) q → q = p ∨ nm_a κ q := by
    intro q hq
    by_cases e : q = p
    · exact Or.inl e
    · right
      unfold nm_a at hq ⊢
      by_cases e1 : q = -1
      · subst e1
        simp [nm_al, e] at hq
        exact hq
      · rwa [nm_al_ne e e1] at hq
  have hb : ∀ q, nm_a κ q → nm_a (nm_al κ p k l sz z0) q := by
    intro q hq
    obtain ⟨g1, g2⟩ := hq1 q hq
    unfold nm_a at hq ⊢
    rw [nm_al_ne g1 g2]
    exact hq
  have hkk : ∀ q, nm_k κ q → nm_k (nm_al κ p k l sz z0) q := fun q hq => hq.imp (hb q) id
  have hkp : ∀ q, nm_k κ q → q ≠ p := by
    rintro q (hq | hq) e
    · exact (hq1 q hq).1 e
    · omega
  have hp1 : nm_al κ p k l sz z0 p (-1) = k := by
    unfold nm_al
    rw [if_neg (by omega), if_neg (by omega), if_pos rfl, if_pos rfl]
  have hp3 : nm_al κ p k l sz z0 p (-2) = l := by
    unfold nm_al
    rw [if_neg (by omega), if_neg (by omega), if_pos rfl, if_neg (by omega), if_pos rfl]
  have hp4 : ∀ i, 0 ≤ i → nm_al κ p k l sz z0 p i = z0 i := by
    intro i hi
    unfold nm_al
    rw [if_neg (by omega), if_neg (by omega), if_pos rfl, if_neg (by omega), if_neg (by omega)]
  refine ⟨⟨fun q hq => ?_, fun q r hq hr => ?_, fun q i hq hi => ?_, ⟨?_, ?_, ?_⟩, ?_, fun q hq hqa => ?_⟩, fun q hq => ⟨nm_up_ne (hkp q hq), hkk q hq⟩⟩
  · rcases ha q hq with rfl | hq'
    · rw [nm_up_at, hp1, hp3]
      refine ⟨⟨by have := h4.1; omega, by rw [e0]; omega⟩, ?_, ?_⟩
      · simp [mm_al]
      · simp [mm_al]
    · obtain ⟨g1, g2⟩ := hq1 q hq'
      obtain ⟨g3, g4, g5⟩ := h1 q hq'
      rw [nm_up_ne g1, hm q _ hq', hm q _ hq', nm_al_ne g1 g2, nm_al_ne g1 g2]
      exact ⟨⟨g3.1, by rw [e0]; have := g3.2; omega⟩, g4, g5⟩
  · rcases ha q hq with rfl | hq' <;> rcases ha r hr with rfl | hr'
    · intro _; rfl
    · rw [nm_up_at, nm_up_ne (hq1 r hr').1]
      intro e
      have := (h1 r hr').1.2
      omega
    · rw [nm_up_at, nm_up_ne (hq1 q hq').1]
      intro e
      have := (h1 q hq').1.2
      omega
    · rw [nm_up_ne (hq1 r hr').1, nm_up_ne (hq1 q hq').1]
      exact h2 q r hq' hr'
  · rcases ha q hq with rfl | hq'
    · rw [nm_up_at, hp1, hp4 i hi]
      have e3 : mm_al E μ k l z0 (E.1 + μ (-1) 0) i = z0 i := by
        unfold mm_al
        rw [if_neg (by have := h4.1; omega), if_pos rfl, if_neg (by omega), if_neg (by omega)]
      rw [e3]
      split
      · next hrf => exact Or.inl ⟨hz i hi hrf, hz i hi hrf⟩
      · rfl
    · obtain ⟨g1, g2⟩ := hq1 q hq'
      rw [nm_up_ne g1, hm q _ hq', nm_al_ne g1 g2, nm_al_ne g1 g2]
      have h7 := h3 q i hq' hi
      split at h7
      · next hrf =>
        rw [if_pos hrf]
        rcases h7 with h7 | ⟨g3, g4, g5, g6⟩
        · exact Or.inl h7
        · refine Or.inr ⟨hkk _ g3, g4, ?_, ?_⟩
          · rw [nm_up_ne (hkp _ g3)]; exact g5
          · rw [nm_up_ne (hkp _ g3)]; exact g6
      · next hrf =>
        rw [if_neg hrf]
        exact h7
  · rw [e0]; have := h4.1; omega
  · rw [e0]
    unfold nm_al
    rw [if_pos ⟨rfl, rfl⟩, h4.2.1]
  · have e9 : nm_al κ p k l sz z0 (-1) 1 = κ (-1) 1 + sz := by
      unfold nm_al
      rw [if_neg (by omega), if_pos ⟨rfl, rfl⟩]
    rw [e9, mm_sz_al h4.1 rfl, h4.2.2, hsz]
    omega
  · refine ⟨?_, ?_, ?_⟩
    · rw [nm_up_ne (by omega)]; exact h5.1
    · rw [nm_up_ne (by omega)]; exact h5.2.1
    · rw [nm_up_ne (by omega)]; exact h5.2.2
  · rcases ha q hqa with rfl | hq'
    · omega
    · exact h6 q hq hq'
/-- a frame over more memory -/
theorem nm_agree (hx : nm_x A A' κ κ') (hf : nm_kf κ f) : nm_f A' f = nm_f A f ∧ nm_kf κ' f := by
  have hv : ∀ v, nm_kv κ v → nm_v A' v = nm_v A v := by
    intro v hv
    unfold nm_v
    split
    · next h => rw [(hx v.2 (hv h)).1]
    · rfl
  refine ⟨?_, fun v h e => (hx _ (hf.1 v h e)).2, fun v h e => (hx _ (hf.2 v h e)).2⟩
  unfold nm_f nm_l nm_s
  congr 2
  · apply List.map_congr_left
    intro o ho
    cases o with
    | none => rfl
    | some v => show some (nm_v A' v) = some (nm_v A v); rw [hv v (hf.1 v ho)]
  · apply List.map_congr_left
    intro v h
    exact hv v (hf.2 v h)
end NMC
end
section
/-! making, calling, ending, over names -/
section NMD
variable {E : mv_E} {A A' A2 : Int → Int} {κ κ' κ2 μ μ' : mm_T} {d j pc pn pt j2 : Nat} {L L2 : mg_L} {S rest as2 : List mg_V} {f f' : mg_F} {Q Q2 : nm_O → mm_T → Prop} {x y z a v i k l p w : Int} {n t : Nat} {q0 q : mv_J}
theorem mm_z_neg {K : mv_K} (hK : mt_cl[n]? = some K) (hi : 0 ≤ i) (h : nm_rf (100 + (n : Int)) i = true) : mm_z n i < 0 := by
  unfold nm_rf at h
  rw [if_neg (by omega), Bool.and_eq_true, decide_eq_true_eq] at h
  obtain ⟨h1, h2⟩ := h
  unfold mg_fA mg_ty at h2
  rw [show (64 * (100 + (n : Int) - 100).toNat + i.toNat) / 64 = n by omega, show (64 * (100 + (n : Int) - 100).toNat + i.toNat) % 64 = i.toNat by omega] at h2
  unfold mm_z
  simp only [hK] at h2 ⊢
  split at h2
  · next C e => rw [e]; show (-1 : Int) < 0; decide
  · next ty e => rw [e]; show (-1 : Int) < 0; decide
  · cases h2
theorem nm_made {sz : Int} {z0 : Int → Int} (hR : nm_R E A κ μ) (hf : nm_kf κ (pc, L, S)) (hR2 : nm_R E (nm_up A p (E.1 + μ (-1) 0)) κ' μ' ∧ nm_x A (nm_up A p (E.1 + μ (-1) 0)) κ κ') (hp : nm_a κ' p) (kk : nm_w E d j (pn, L, (2, p) :: S) κ' Q) : mg_w E d j (pn, nm_l A L, (2, E.1 + μ (-1) 0) :: nm_s A S) μ' (fun r μ2 => ∃ A2 κ2 o, nm_R E A2 κ2 μ2 ∧ nm_x A A2 κ κ2 ∧ nm_res E A2 κ2 μ2 r o ∧ Q o κ2) := by
  obtain ⟨h1, h2⟩ := nm_agree hR2.2 hf
  have h3 := nm_on (f := (pn, L, (2, p) :: S)) hR2.1 hR2.2 (nm_kf_cons (pc := pc) (fun _ => Or.inl hp) h2) kk
  have e : nm_f (nm_up A p (E.1 + μ (-1) 0)) (pn, L, (2, p) :: S) = (pn, nm_l A L, (2, E.1 + μ (-1) 0) :: nm_s A S) := by
    have e1 : nm_l (nm_up A p (E.1 + μ (-1) 0)) L = nm_l A L := congrArg (fun g => g.2.1) h1
    have e2 : nm_s (nm_up A p (E.1 + μ (-1) 0)) S = nm_s A S := congrArg (fun g => g.2.2) h1
    show (pn, nm_l (nm_up A p (E.1 + μ (-1) 0)) L, (2, nm_up A p (E.1 + μ (-1) 0) p) :: nm_s (nm_up A p (E.1 + μ (-1) 0)) S) = _
    rw [e1, e2, nm_up_at]
  rwa [e] at h3
theorem nm_al_a {sz : Int} {z0 : Int → Int} (hp : 0 ≤ p) (hk : 0 ≤ k) : nm_a (nm_al κ p k l sz z0) p := by
  unfold nm_a nm_al
  rw [if_neg (by omega), if_neg (by omega), if_pos rfl, if_pos rfl]
  exact hk
theorem nm_new {K : mv_K} {sz : Int} (p : Int) (hr : mg_at j pc = some (3, .new n)) (hn : pc + 3 = pn) (hK : mt_cl[n]? = some K) (hs : K.2.2.2.2.all (fun ty => match ty with | .int => true | .boolean => true | .long => true | .object _ => true | .array _ => true | _ => false) = true) (hk : 100 + (n : Int) = k) (hsz : (K.2.2.2.1 : Int) = sz) (hp : 0 ≤ p ∧ p ≤ 9000) (hpn : κ p (-1) < 0) (kk : nm_w E d j (pn, L, (2, p) :: S) (nm_al κ p k 0 sz (mm_z n)) Q) : nm_w E d j (pc, L, S) κ Q := fun A μ hR hf => by
  subst hk
  refine mg_new (L := nm_l A L) (S := nm_s A S) hr hn hK hs rfl hR.2.2.2.1.1 ?_
  have e1 : mm_al E μ (100 + (n : Int)) 0 (mm_z n) (E.1 + μ (-1) 0) (-1) = 100 + (n : Int) := by simp [mm_al]
  refine nm_made (sz := sz) (z0 := mm_z n) hR hf (nm_R_al hR hp.1 (by omega) hpn (by omega) (fun i hi h => mm_z_neg hK hi h) ?_) (nm_al_a hp.1 (by omega)) kk
  rw [mm_co e1]
  simp only [mv_cz, hK]
  exact hsz.symm
theorem nm_na {at_ : ArrayType} (p : Int) (hr : mg_at j pc = some (2, .newarray at_)) (hn : pc + 2 = pn) (ht : mv_kd at_ = t) (hok : at_ = .int ∨ at_ = .boolean ∨ at_ = .long) (hl : 0 ≤ l ∧ l ≤ 60000000) (hp : 0 ≤ p ∧ p ≤ 9000) (hpn : κ p (-1) < 0) (kk : nm_w E d j (pn, L, (2, p) :: S) (nm_al κ p (t : Int) l l (fun _ => 0)) Q) : nm_w E d j (pc, L, (0, l) :: S) κ Q := fun A μ hR hf => by
  refine mg_na (L := nm_l A L) (S := nm_s A S) hr hn ht hok hl hR.2.2.2.1.1 ?_
  have ht3 : (t : Int) < 3 := by rcases hok with rfl | rfl | rfl <;> (rw [← ht]; decide)
  have e1 : mm_al E μ (t : Int) l (fun _ => 0) (E.1 + μ (-1) 0) (-1) = (t : Int) := by simp [mm_al]
  have e2 : mm_al E μ (t : Int) l (fun _ => 0) (E.1 + μ (-1) 0) (-2) = l := by simp [mm_al]
  refine nm_made (sz := l) (z0 := fun _ => 0) hR (nm_kf_tail (pc2 := pc) hf) (nm_R_al hR hp.1 (by omega) hpn (by omega) (fun i hi h => ?_) ?_) (nm_al_a hp.1 (by omega)) kk
  · unfold nm_rf at h
    rw [if_pos (by omega)] at h
    have := of_decide_eq_true h
    omega
  · rw [mm_ca e1 (by omega), e2]
    show l = (l.toNat : Int)
    omega
theorem nm_an (p : Int) (hr : mg_at j pc = some (3, .anewarray t)) (hn : pc + 3 = pn) (ht : mg_aA t = true) (ht2 : t < 100) (hl : 0 ≤ l ∧ l ≤ 60000000) (hp : 0 ≤ p ∧ p ≤ 9000) (hpn : κ p (-1) < 0) (kk : nm_w E d j (pn, L, (2, p) :: S) (nm_al κ p (t : Int) l l (fun _ => -1)) Q) : nm_w E d j (pc, L, (0, l) :: S) κ Q := fun A μ hR hf => by
  refine mg_an (L := nm_l A L) (S := nm_s A S) hr hn ht ht2 hl hR.2.2.2.1.1 ?_
  have e1 : mm_al E μ (t : Int) l (fun _ => -1) (E.1 + μ (-1) 0) (-1) = (t : Int) := by simp [mm_al]
  have e2 : mm_al E μ (t : Int) l (fun _ => -1) (E.1 + μ (-1) 0) (-2) = l := by simp [mm_al]
  refine nm_made (sz := l) (z0 := fun _ => -1) hR (nm_kf_tail (pc2 := pc) hf) (nm_R_al hR hp.1 (by omega) hpn (by omega) (fun i hi h => by show (-1 : Int) < 0; omega) ?_) (nm_al_a hp.1 (by omega)) kk
  rw [mm_ca e1 (by omega), e2]
  show l = (l.toNat : Int)
  omega
/-! calls -/
theorem nm_ent (as : List mg_V) : mg_ent (nm_s A as) = nm_l A (mg_ent as) := by
  induction as with
  | nil => rfl
  | cons v r ih =>
    rw [nm_s_cons]
    unfold mg_ent
    rw [nm_v1, ih]
    split <;> rfl
theorem nm_in (as : List mg_V) : mg_in n (nm_s A as) = nm_l A (mg_in n as) := by
  unfold mg_in
  rw [nm_ent, nm_l_len]
  simp [nm_l]
theorem nm_fit (h : (decide (mj_a q ≤ S.length) && decide (((mg_eS (S.drop (mj_a q))).map fun v => v.category).sum ≤ 8) && decide ((mg_ent (S.take (mj_a q)).reverse).length ≤ mj_n q)) = true) : (decide (mj_a q ≤ (nm_s A S).length) && decide (((mg_eS ((nm_s A S).drop (mj_a q))).map fun v => v.category).sum ≤ 8) && decide ((mg_ent ((nm_s A S).take (mj_a q)).reverse).length ≤ mj_n q)) = true := by
  have e1 : (nm_s A S).length = S.length := by simp [nm_s]
  have e2 : (nm_s A S).drop (mj_a q) = nm_s A (S.drop (mj_a q)) := by simp [nm_s, List.map_drop]
  have e3 : ((nm_s A S).take (mj_a q)).reverse = nm_s A (S.take (mj_a q)).reverse := by simp [nm_s, List.map_take]
  rw [e1, e2, e3, nm_ent, nm_l_len, nm_cat]
  exact h
theorem nm_tk : ((nm_s A S).take n).reverse = nm_s A (S.take n).reverse := by simp [nm_s, List.map_take]
theorem nm_dr : (nm_s A S).drop n = nm_s A (S.drop n) := by simp [nm_s, List.map_drop]
theorem nm_kin (as : List mg_V) (h : ∀ v ∈ as, nm_kv κ v) : nm_kf κ (0, mg_in n as, []) := by
  refine ⟨fun v hv => ?_, fun v hv => by cases hv⟩
  have hv2 : some v ∈ mg_ent as := by
    unfold mg_in at hv
    rcases List.mem_append.mp hv with h1 | h1
    · exact h1
    · exact absurd (List.eq_of_mem_replicate h1) (by simp)
  clear hv
  induction as with
  | nil => cases hv2
  | cons w r ih =>
    unfold mg_ent at hv2
    split at hv2
    · simp only [List.mem_cons] at hv2
      rcases hv2 with h1 | h1 | h1
      · cases h1; exact h _ List.mem_cons_self
      · cases h1
      · exact ih (fun v hv => h v (List.mem_cons_of_mem _ hv)) h1
    · simp only [List.mem_cons] at hv2
      rcases hv2 with h1 | h1
      · cases h1; exact h _ List.mem_cons_self
      · exact ih (fun v hv => h v (List.mem_cons_of_mem _ hv)) h1
/-- what comes after a call -/
theorem nm_aft (hf : nm_kf κ (pc, L, S)) (hrest : S.drop n = rest) (k1 : ∀ (v : Option mg_V) (κ' : mm_T), Q2 (.inl v) κ' → nm_w E (d + 1) j (pn, L, v.toList ++ rest) κ' Q) {v : Option mg_V} {μ' : mm_T} (h : ∃ A' κ' o, nm_R E A' κ' μ' ∧ nm_x A A' κ κ' ∧ nm_res E A' κ' μ' (.inl v) o ∧ Q2 o κ') : mg_w E (d + 1) j (pn, nm_l A L, v.toList ++ nm_s A rest) μ' (fun r μ2 => ∃ A2 κ2 o, nm_R E A2 κ2 μ2 ∧ nm_x A A2 κ κ2 ∧ nm_res E A2 κ2 μ2 r o ∧ Q o κ2) := by
  obtain ⟨A', κ', o, h1, h2, h3, h4⟩ := h
  have hf2 : nm_kf κ (pn, L, rest) := ⟨hf.1, fun w hw => hf.2 w (by rw [← hrest] at hw; exact List.mem_of_mem_drop hw)⟩
  obtain ⟨g1, g2⟩ := nm_agree h2 hf2
  have e1 : nm_l A' L = nm_l A L := congrArg (fun g => g.2.1) g1
  have e2 : nm_s A' rest = nm_s A rest := congrArg (fun g => g.2.2) g1
  cases v with
  | none =>
    cases o with
    | inr c => exact h3.elim
    | inl w =>
      cases w with
      | some w => exact h3.elim
      | none =>
        have h5 := nm_on (f := (pn, L, rest)) h1 h2 g2 (k1 none κ' h4)
        rw [show nm_f A' (pn, L, rest) = (pn, nm_l A L, nm_s A rest) by show (pn, nm_l A' L, nm_s A' rest) = _; rw [e1, e2]] at h5
        exact h5
  | some v =>
    cases o with
    | inr c => exact h3.elim
    | inl w =>
      cases w with
      | none => exact h3.elim
      | some w =>
        obtain ⟨rfl, h6⟩ := h3
        have h5 := nm_on (f := (pn, L, w :: rest)) h1 h2 (nm_kf_cons (pc := pn) h6 g2) (k1 (some w) κ' h4)
        rw [show nm_f A' (pn, L, w :: rest) = (pn, nm_l A L, nm_v A' w :: nm_s A rest) by show (pn, nm_l A' L, nm_v A' w :: nm_s A' rest) = _; rw [e1, e2]] at h5
        exact h5
theorem nm_thru (k2 : ∀ (c : Nat) (κ' : mm_T), Q2 (.inr c) κ' → Q (.inr c) κ') {a : Int} {μ' : mm_T} (h : ∃ A' κ' o, nm_R E A' κ' μ' ∧ nm_x A A' κ κ' ∧ nm_res E A' κ' μ' (.inr a) o ∧ Q2 o κ') : ∃ A' κ' o, nm_R E A' κ' μ' ∧ nm_x A A' κ κ' ∧ nm_res E A' κ' μ' (.inr a) o ∧ Q o κ' := by
  obtain ⟨A', κ', o, h1, h2, h3, h4⟩ := h
  cases o with
  | inl w => cases w <;> exact h3.elim
  | inr c => exact ⟨A', κ', .inr c, h1, h2, h3, k2 c κ' h4⟩
theorem nm_kS (hf : nm_kf κ (pc, L, S)) : ∀ v ∈ (S.take n).reverse, nm_kv κ v := fun v hv => hf.2 v (List.mem_of_mem_take (List.mem_reverse.mp hv))
/-- a static method; what it throws goes on -/
theorem nm_cs (hr : mg_at j pc = some (3, .invokestatic j2)) (hn : pc + 3 = pn) (hq0 : mt_ms[j]? = some q0) (hh : mj_hr q0 = []) (hq : mt_ms[j2]? = some q) (hfit : (decide (mj_a q ≤ S.length) && decide (((mg_eS (S.drop (mj_a q))).map fun v => v.category).sum ≤ 8) && decide ((mg_ent (S.take (mj_a q)).reverse).length ≤ mj_n q)) = true) (hL : mg_in (mj_n q) (S.take (mj_a q)).reverse = L2) (hrest : S.drop (mj_a q) = rest)
    (w : nm_w E d j2 (0, L2, []) κ Q2) (k1 : ∀ (v : Option mg_V) (κ' : mm_T), Q2 (.inl v) κ' → nm_w E (d + 1) j (pn, L, v.toList ++ rest) κ' Q) (k2 : ∀ (c : Nat) (κ' : mm_T), Q2 (.inr c) κ' → Q (.inr c) κ') : nm_w E (d + 1) j (pc, L, S) κ Q := fun A μ hR hf => by
  refine mg_cs (L := nm_l A L) (S := nm_s A S) (L2 := nm_l A L2) (rest := nm_s A rest) hr hn hq0 hh hq (nm_fit hfit) (by rw [nm_tk, nm_in, hL]) (by rw [nm_dr, hrest]) (w A μ hR (by rw [← hL]; exact nm_kin _ (nm_kS hf))) (fun v μ' h => nm_aft hf hrest k1 h) (fun a μ' h => nm_thru k2 h)
/-- a method of an object -/
theorem nm_cv (hr : mg_at j pc = some (3, .invokevirtual j2)) (hn : pc + 3 = pn) (hq0 : mt_ms[j]? = some q0) (hh : mj_hr q0 = []) (hq : mt_ms[j2]? = some q) (hfit : (decide (mj_a q ≤ S.length) && decide (((mg_eS (S.drop (mj_a q))).map fun v => v.category).sum ≤ 8) && decide ((mg_ent (S.take (mj_a q)).reverse).length ≤ mj_n q)) = true) (has : (S.take (mj_a q)).reverse = (2, p) :: as2) (hL : mg_in (mj_n q) ((2, p) :: as2) = L2) (hrest : S.drop (mj_a q) = rest) (hc : κ p (-1) = 100 + ((mj_k q : Nat) : Int))
    (w : nm_w E d j2 (0, L2, []) κ Q2) (k1 : ∀ (v : Option mg_V) (κ' : mm_T), Q2 (.inl v) κ' → nm_w E (d + 1) j (pn, L, v.toList ++ rest) κ' Q) (k2 : ∀ (c : Nat) (κ' : mm_T), Q2 (.inr c) κ' → Q (.inr c) κ') : nm_w E (d + 1) j (pc, L, S) κ Q := fun A μ hR hf => by
  have ha : nm_a κ p := by unfold nm_a; omega
  obtain ⟨h1, h2, h3⟩ := hR.1 p ha
  exact mg_cv (a := A p) (as2 := nm_s A as2) (L := nm_l A L) (S := nm_s A S) (L2 := nm_l A L2) (rest := nm_s A rest) hr hn hq0 hh hq (nm_fit hfit) (by rw [nm_tk, has]; rfl) (by rw [← nm_v2, ← nm_s_cons, nm_in, hL]) (by rw [nm_dr, hrest]) hc ⟨h1, h2⟩ (w A μ hR (by rw [← hL, ← has]; exact nm_kin _ (nm_kS hf))) (fun v μ' h => nm_aft hf hrest k1 h) (fun a μ' h => nm_thru k2 h)
/-- a constructor -/
theorem nm_ci (hr : mg_at j pc = some (3, .invokespecial j2)) (hn : pc + 3 = pn) (hq0 : mt_ms[j]? = some q0) (hh : mj_hr q0 = []) (hq : mt_ms[j2]? = some q) (hfit : (decide (mj_a q ≤ S.length) && decide (((mg_eS (S.drop (mj_a q))).map fun v => v.category).sum ≤ 8) && decide ((mg_ent (S.take (mj_a q)).reverse).length ≤ mj_n q)) = true) (has : (S.take (mj_a q)).reverse = (2, p) :: as2) (hL : mg_in (mj_n q) ((2, p) :: as2) = L2) (hrest : S.drop (mj_a q) = rest)
    (w : nm_w E d j2 (0, L2, []) κ Q2) (k1 : ∀ (v : Option mg_V) (κ' : mm_T), Q2 (.inl v) κ' → nm_w E (d + 1) j (pn, L, v.toList ++ rest) κ' Q) (k2 : ∀ (c : Nat) (κ' : mm_T), Q2 (.inr c) κ' → Q (.inr c) κ') : nm_w E (d + 1) j (pc, L, S) κ Q := fun A μ hR hf => by
  exact mg_ci (a := A p) (as2 := nm_s A as2) (L := nm_l A L) (S := nm_s A S) (L2 := nm_l A L2) (rest := nm_s A rest) hr hn hq0 hh hq (nm_fit hfit) (by rw [nm_tk, has]; rfl) (by rw [← nm_v2, ← nm_s_cons, nm_in, hL]) (by rw [nm_dr, hrest]) (w A μ hR (by rw [← hL, ← has]; exact nm_kin _ (nm_kS hf))) (fun v μ' h => nm_aft hf hrest k1 h) (fun a μ' h => nm_thru k2 h)
/-! ends -/
theorem nm_retV (hr : mg_at j pc = some (1, .return_)) (hq0 : mt_ms[j]? = some q0) (ht : mj_r q0 = none) (h : Q (.inl none) κ) : nm_w E d j (pc, L, []) κ Q := fun A μ hR hf => mg_retV (L := nm_l A L) hr hq0 ht ⟨A, κ, .inl none, hR, nm_x.refl, trivial, h⟩
theorem nm_retI (hr : mg_at j pc = some (1, .ireturn)) (hq0 : mt_ms[j]? = some q0) (ht : mj_r q0 = some .int) (h : Q (.inl (some (0, z))) κ) : nm_w E d j (pc, L, [(0, z)]) κ Q := fun A μ hR hf => mg_retI (L := nm_l A L) hr hq0 ht ⟨A, κ, .inl (some (0, z)), hR, nm_x.refl, ⟨rfl, nm_kv0 (by decide)⟩, h⟩
theorem nm_retZ (hr : mg_at j pc = some (1, .ireturn)) (hq0 : mt_ms[j]? = some q0) (ht : mj_r q0 = some .boolean) (hz : z = 0 ∨ z = 1) (h : Q (.inl (some (0, z))) κ) : nm_w E d j (pc, L, [(0, z)]) κ Q := fun A μ hR hf => mg_retZ (L := nm_l A L) hr hq0 ht hz ⟨A, κ, .inl (some (0, z)), hR, nm_x.refl, ⟨rfl, nm_kv0 (by decide)⟩, h⟩
theorem nm_retL (hr : mg_at j pc = some (1, .lreturn)) (hq0 : mt_ms[j]? = some q0) (ht : mj_r q0 = some .long) (h : Q (.inl (some (1, z))) κ) : nm_w E d j (pc, L, [(1, z)]) κ Q := fun A μ hR hf => mg_retL (L := nm_l A L) hr hq0 ht ⟨A, κ, .inl (some (1, z)), hR, nm_x.refl, ⟨rfl, nm_kv0 (by decide)⟩, h⟩
theorem nm_retA {C : String} (hr : mg_at j pc = some (1, .areturn)) (hq0 : mt_ms[j]? = some q0) (ht : mj_r q0 = some (.object C)) (h : Q (.inl (some (2, z))) κ) : nm_w E d j (pc, L, [(2, z)]) κ Q := fun A μ hR hf => mg_retA (L := nm_l A L) (z := A z) hr hq0 ht ⟨A, κ, .inl (some (2, z)), hR, nm_x.refl, ⟨rfl, hf.2 _ List.mem_cons_self⟩, h⟩
theorem nm_retR {ty : FieldType} (hr : mg_at j pc = some (1, .areturn)) (hq0 : mt_ms[j]? = some q0) (ht : mj_r q0 = some (.array ty)) (h : Q (.inl (some (2, z))) κ) : nm_w E d j (pc, L, [(2, z)]) κ Q := fun A μ hR hf => mg_retR (L := nm_l A L) (z := A z) hr hq0 ht ⟨A, κ, .inl (some (2, z)), hR, nm_x.refl, ⟨rfl, hf.2 _ List.mem_cons_self⟩, h⟩
end NMD
end
section
/-! throwing, handlers, copies of arrays -/
def nm_cnt (κ : mm_T) (c s : Int) : mm_T := fun q i => if q = -1 ∧ i = 0 then κ (-1) 0 + c else if q = -1 ∧ i = 1 then κ (-1) 1 + s else κ q i
section NME
variable {E : mv_E} {A A' A2 : Int → Int} {κ κ' κ2 μ μ' : mm_T} {d j pc pn pt j2 : Nat} {L L2 : mg_L} {S rest as2 : List mg_V} {f f' : mg_F} {Q Q2 : nm_O → mm_T → Prop} {x y z a v i k l p w : Int} {n t : Nat} {q0 q : mv_J}
theorem nm_cnt_ne {c s q : Int} (h : q ≠ -1) : nm_cnt κ c s q i = κ q i := by simp [nm_cnt, h]
theorem nm_cnt_1 {c s : Int} : nm_cnt κ c s (-1) (-1) = κ (-1) (-1) := by simp [nm_cnt]
theorem nm_cnt_a {c s q : Int} : nm_a (nm_cnt κ c s) q ↔ nm_a κ q := by
  unfold nm_a
  by_cases h : q = -1
  · subst h; rw [nm_cnt_1]
  · rw [nm_cnt_ne h]
theorem nm_cnt_k {c s q : Int} : nm_k (nm_cnt κ c s) q ↔ nm_k κ q := by unfold nm_k; rw [nm_cnt_a]
theorem nm_R_cnt {K : mv_K} (hR : nm_R E A κ μ) (hK : mt_cl[n]? = some K) : nm_R E A (nm_cnt κ 1 (K.2.2.2.1 : Int)) (mm_al E μ (100 + (n : Int)) 0 (mm_z n)) := by
  obtain ⟨h1, h2, h3, h4, h5, h6⟩ := hR
  have e0 : mm_al E μ (100 + (n : Int)) 0 (mm_z n) (-1) 0 = μ (-1) 0 + 1 := by simp [mm_al]
  have e1 : mm_al E μ (100 + (n : Int)) 0 (mm_z n) (E.1 + μ (-1) 0) (-1) = 100 + (n : Int) := by simp [mm_al]
  have hm : ∀ q i, nm_a κ q → mm_al E μ (100 + (n : Int)) 0 (mm_z n) (A q) i = μ (A q) i := by
    intro q i hq
    obtain ⟨g1, -, -⟩ := h1 q hq
    have := g1.1
    have := g1.2
    unfold mm_al
    rw [if_neg (by omega), if_neg (by omega)]
  have hq1 : ∀ q, nm_a κ q → q ≠ -1 := fun q hq e => h6 q (Or.inl (by omega)) hq
  refine ⟨fun q hq => ?_, fun q r hq hr => h2 q r (nm_cnt_a.mp hq) (nm_cnt_a.mp hr), fun q i hq hi => ?_, ⟨?_, ?_, ?_⟩, h5, fun q hq hqa => h6 q hq (nm_cnt_a.mp hqa)⟩
  · have hq' := nm_cnt_a.mp hq
    obtain ⟨g1, g2, g3⟩ := h1 q hq'
    rw [hm q _ hq', hm q _ hq', nm_cnt_ne (hq1 q hq'), nm_cnt_ne (hq1 q hq')]
    exact ⟨⟨g1.1, by rw [e0]; have := g1.2; omega⟩, g2, g3⟩
  · have hq' := nm_cnt_a.mp hq
    rw [hm q _ hq', nm_cnt_ne (hq1 q hq'), nm_cnt_ne (hq1 q hq')]
    simp only [nm_cnt_k]
    exact h3 q i hq' hi
  · rw [e0]; have := h4.1; omega
  · rw [e0]
    unfold nm_cnt
    rw [if_pos ⟨rfl, rfl⟩, h4.2.1]
  · have e9 : nm_cnt κ 1 (K.2.2.2.1 : Int) (-1) 1 = κ (-1) 1 + (K.2.2.2.1 : Int) := by
      unfold nm_cnt
      rw [if_neg (by omega), if_pos ⟨rfl, rfl⟩]
    rw [e9, mm_sz_al h4.1 rfl, h4.2.2, mm_co e1]
    simp only [mv_cz, hK]
    omega
theorem nm_thr {K : mv_K} {sz : Int} (hr : mg_at j pc = some (3, .instanceof n)) (hK : mt_cl[n]? = some K) (hKf : K.2.2.2.2 = []) (hsz : (K.2.2.2.1 : Int) = sz) (hS : decide (((mg_eS S).map fun v => v.category).sum ≤ 24) = true) (hd : 5 ≤ d) (h : Q (.inr n) (nm_cnt κ 1 sz)) : nm_w E d j (pc, L, S) κ Q := fun A μ hR hf => by
  subst hsz
  refine mg_thr (L := nm_l A L) (S := nm_s A S) hr hK hKf (by rw [nm_cat]; exact hS) hd rfl hR.2.2.2.1.1 ?_
  have h0 := hR.2.2.2.1.1
  refine ⟨A, nm_cnt κ 1 (K.2.2.2.1 : Int), .inr n, nm_R_cnt hR hK, fun q hq => ⟨rfl, nm_cnt_k.mpr hq⟩, ⟨⟨by omega, ?_⟩, ?_⟩, h⟩
  · have e0 : mm_al E μ (100 + (n : Int)) 0 (mm_z n) (-1) 0 = μ (-1) 0 + 1 := by simp [mm_al]
    rw [e0]; omega
  · simp [mm_al]
/-- a method of an object, called where exceptions are caught; a handler puts the exception away and returns an int -/
theorem nm_cvh (hr : mg_at j pc = some (3, .invokevirtual j2)) (hn : pc + 3 = pn) (hq0 : mt_ms[j]? = some q0) (hh : mj_hr q0 ≠ []) (hq : mt_ms[j2]? = some q) (hfit : (decide (mj_a q ≤ S.length) && decide (((mg_eS (S.drop (mj_a q))).map fun v => v.category).sum ≤ 8) && decide ((mg_ent (S.take (mj_a q)).reverse).length ≤ mj_n q)) = true) (has : (S.take (mj_a q)).reverse = (2, p) :: as2) (hL : mg_in (mj_n q) ((2, p) :: as2) = L2) (hrest : S.drop (mj_a q) = rest) (hc : κ p (-1) = 100 + ((mj_k q : Nat) : Int))
    (w : nm_w E d j2 (0, L2, []) κ Q2) (k1 : ∀ (v : Option mg_V) (κ' : mm_T), Q2 (.inl v) κ' → nm_w E (d + 1) j (pn, L, v.toList ++ rest) κ' Q)
    (k2 : ∀ (c : Nat) (κ' : mm_T), Q2 (.inr c) κ' → ∃ (pc' pr : Nat) (z : Int), mv_seek mt_nc c pc (mj_hr q0) = some pc' ∧ (∀ (A : Int → Int) (a : Int), ∃ L3, mg_ps j 2 (pc', nm_l A L, [(2, a)]) = some (pr, L3, [(0, z)])) ∧ mg_at j pr = some (1, .ireturn) ∧ mj_r q0 = some .int ∧ Q (.inl (some (0, z))) κ') : nm_w E (d + 1) j (pc, L, S) κ Q := fun A μ hR hf => by
  have ha : nm_a κ p := by unfold nm_a; omega
  obtain ⟨h1, h2, h3⟩ := hR.1 p ha
  refine mg_cvh (a := A p) (as2 := nm_s A as2) (L := nm_l A L) (S := nm_s A S) (L2 := nm_l A L2) (rest := nm_s A rest) hr hn hq0 hh hq (nm_fit hfit) (by rw [nm_tk, has]; rfl) (by rw [← nm_v2, ← nm_s_cons, nm_in, hL]) (by rw [nm_dr, hrest]) hc ⟨h1, h2⟩ (w A μ hR (by rw [← hL, ← has]; exact nm_kin _ (nm_kS hf))) (fun v μ' h => nm_aft hf hrest k1 h) (fun a μ' h => ?_)
  obtain ⟨A', κ', o, g1, g2, g3, g4⟩ := h
  cases o with
  | inl w => cases w <;> exact g3.elim
  | inr c =>
    obtain ⟨pc', pr, z, e1, e2, e3, e4, e5⟩ := k2 c κ' g4
    obtain ⟨L3, e6⟩ := e2 A a
    exact ⟨c, pc', g3, e1, mg_p 2 e6 (mg_retI e3 hq0 e4 ⟨A', κ', .inl (some (0, z)), g1, g2, ⟨rfl, nm_kv0 (by decide)⟩, e5⟩)⟩
/-! copies -/
def mm_cp (μ : mm_T) (b dp a sp n : Int) : mm_T := fun q i => if q = b ∧ dp ≤ i ∧ i < dp + n then μ a (sp + (i - dp)) else μ q i
theorem mm_cp_h (h : mm_i E μ p) (hc : 0 ≤ y) {c : mv_C} (he : c = mm_c (mm_cp μ p y a x z) p) : mv_up E.1 (mm_h E μ) p.toNat c = mm_h E (mm_cp μ p y a x z) := by
  have hn : mm_cp μ p y a x z (-1) 0 = μ (-1) 0 := by unfold mm_cp; rw [if_neg (by have := h.1; omega)]
  obtain ⟨h0, h1⟩ := h
  apply List.ext_getElem?
  intro k
  unfold mv_up
  by_cases hk : k < (μ (-1) 0).toNat
  · have e2 : (mm_h E (mm_cp μ p y a x z))[k]? = some (mm_c (mm_cp μ p y a x z) ((E.1 : Int) + k)) := mm_h_at (by rw [hn]; exact hk)
    rw [e2]
    by_cases hka : p.toNat - E.1 = k
    · subst hka
      rw [List.getElem?_set_self (by rw [mm_h_len]; exact hk), he, show (E.1 : Int) + ((p.toNat - E.1 : Nat) : Int) = p by omega]
    · rw [List.getElem?_set_ne hka, mm_h_at hk]
      have hne : (E.1 : Int) + k ≠ p := by omega
      simp [mm_c, mm_cp, hne]
  · rw [List.getElem?_eq_none (by rw [List.length_set, mm_h_len]; omega), List.getElem?_eq_none (by rw [mm_h_len, hn]; omega)]
/-- ints copied from the array a to another, b -/
theorem nm_cpy {b la lb : Int} (hr : mg_at j pc = some (3, .monitorenter)) (hn : pc + 3 = pn) (hab : a ≠ b) (hk : κ a (-1) = 0) (hl : κ a (-2) = la) (hkb : κ b (-1) = 0) (hlb : κ b (-2) = lb) (hx : 0 ≤ x ∧ x < 2147483648) (hy : 0 ≤ y ∧ y < 2147483648) (hz : 0 ≤ z ∧ z < 2147483648) (h1 : x + z ≤ la) (h2 : y + z ≤ lb) (hS : decide (((mg_eS S).map fun v => v.category).sum ≤ 24) = true) (kk : nm_w E d j (pn, L, S) (mm_cp κ b y a x z) Q) : nm_w E d j (pc, L, (0, z) :: (0, y) :: (2, b) :: (0, x) :: (2, a) :: S) κ Q := fun A μ hR hf => by
  subst hn
  obtain ⟨ha, hra⟩ := nm_ar (t := 0) hR hk
  obtain ⟨hb, hrb⟩ := nm_ar (t := 0) hR hkb
  have hba := nm_pos hR hb
  have e8 : ∀ i, 0 ≤ i → μ (A a) i = κ a i := fun i hi => nm_rd hR ha (by omega) hi
  have hAne : A a ≠ A b := fun e => hab (hR.2.1 a b ha hb e)
  have hcb : nm_a (mm_cp κ b y a x z) = nm_a κ := by
    funext q
    unfold nm_a mm_cp
    rw [if_neg (by omega)]
  have hkb2 : nm_k (mm_cp κ b y a x z) = nm_k κ := by
    funext q
    unfold nm_k
    rw [hcb]
  have hR2 : nm_R E A (mm_cp κ b y a x z) (mm_cp μ (A b) y (A a) x z) := by
    obtain ⟨g1, g2, g3, g4, g5, g6⟩ := hR
    have hAb := (g1 b hb).1.pos
    have hneg : ∀ (q i : Int), i < 0 → mm_cp μ (A b) y (A a) x z q i = μ q i := fun q i hi => by unfold mm_cp; rw [if_neg (by omega)]
    have hnegk : ∀ (q i : Int), i < 0 → mm_cp κ b y a x z q i = κ q i := fun q i hi => by unfold mm_cp; rw [if_neg (by omega)]
    have hn0 : mm_cp μ (A b) y (A a) x z (-1) 0 = μ (-1) 0 := by unfold mm_cp; rw [if_neg (by omega)]
    rw [nm_R, hcb, hkb2]
    refine ⟨fun q hq => ?_, g2, fun q i hq hi => ?_, ⟨by rw [hn0]; exact g4.1, ?_, ?_⟩, g5, g6⟩
    · obtain ⟨r1, r2, r3⟩ := g1 q hq
      rw [hneg _ _ (by omega), hneg _ _ (by omega), hnegk _ _ (by omega), hnegk _ _ (by omega)]
      exact ⟨⟨r1.1, by rw [hn0]; exact r1.2⟩, r2, r3⟩
    · rw [hnegk q (-1) (by omega)]
      by_cases hqi : q = b ∧ y ≤ i ∧ i < y + z
      · obtain ⟨rfl, h3, h4⟩ := hqi
        have e1 : mm_cp κ q y a x z q i = κ a (x + (i - y)) := by unfold mm_cp; rw [if_pos ⟨rfl, h3, h4⟩]
        have e2 : mm_cp μ (A q) y (A a) x z (A q) i = μ (A a) (x + (i - y)) := by unfold mm_cp; rw [if_pos ⟨rfl, h3, h4⟩]
        rw [e1, e2, nm_w3 (by omega)]
        exact e8 _ (by omega)
      · have e1 : mm_cp κ b y a x z q i = κ q i := by unfold mm_cp; rw [if_neg hqi]
        have e2 : mm_cp μ (A b) y (A a) x z (A q) i = μ (A q) i := by unfold mm_cp; rw [if_neg (fun e => hqi ⟨g2 q b hq hb e.1, e.2⟩)]
        rw [e1, e2]
        exact g3 q i hq hi
    · rw [hn0]
      unfold mm_cp
      rw [if_neg (by omega)]
      exact g4.2.1
    · have e5 : mm_cp κ b y a x z (-1) 1 = κ (-1) 1 := by unfold mm_cp; rw [if_neg (by omega)]
      rw [e5, g4.2.2, ← mm_cp_h (g1 b hb).1 hy.1 rfl]
      congr 1
      refine (mv_up_sz mt_cl (mm_lk (g1 b hb).1) ?_).symm
      unfold mm_c
      rw [hneg _ _ (by omega), hneg _ _ (by omega)]
      split <;> rfl
  have hf5 : nm_kf κ (pc + 3, L, S) := nm_kf2 (pc := 0) (nm_kf3 (pc2 := 0) hf)
  refine mg_step (f' := (pc + 3, nm_l A L, nm_s A S)) (μ' := mm_cp μ (A b) y (A a) x z) hr rfl ?_ (nm_on (f := (pc + 3, L, S)) hR2 (fun q hq => ⟨rfl, by rw [hkb2]; exact hq⟩) ⟨fun v hv e => by rw [hkb2]; exact hf5.1 v hv e, fun v hv e => by rw [hkb2]; exact hf5.2 v hv e⟩ kk)
  show (match mv_lk E.1 (mm_h E μ) (A a).toNat, mv_lk E.1 (mm_h E μ) (A b).toNat with
      | some (.inl X), some (.inl Y) => if ¬ Int32.ofInt x < 0 ∧ ¬ Int32.ofInt y < 0 ∧ ¬ Int32.ofInt z < 0 ∧ (Int32.ofInt x).toNatClampNeg + (Int32.ofInt z).toNatClampNeg ≤ X.2.1 ∧ (Int32.ofInt y).toNatClampNeg + (Int32.ofInt z).toNatClampNeg ≤ Y.2.1 ∧ mt_ty[X.1]? = some FieldType.int ∧ mt_ty[Y.1]? = some FieldType.int ∧ (∀ k, k < (Int32.ofInt z).toNatClampNeg → mv_isI (X.2.2 ((Int32.ofInt x).toNatClampNeg + k)) = true) ∧ ((mg_eS (nm_s A S)).map fun v => Value.category v).sum ≤ 24 then some ((pc + 3, mg_eL (nm_l A L), mg_eS (nm_s A S)), mv_up E.1 (mm_h E μ) (A b).toNat (Sum.inl (Y.1, Y.2.1, va_cpy X.2.2 Y.2.2 (Int32.ofInt x).toNatClampNeg (Int32.ofInt y).toNatClampNeg (Int32.ofInt z).toNatClampNeg))) else none
      | _, _ => none) = _
  rw [mm_lk hra.1, mm_lk hrb.1, mm_ca hra.2.1 (by omega), mm_ca hrb.2.1 (by omega)]
  simp only []
  rw [mg_tn hx, mg_tn hy, mg_tn hz]
  have n1 : ∀ u : Int, 0 ≤ u ∧ u < 2147483648 → ¬ Int32.ofInt u < 0 := fun u hu h => by have := (mg_lt (x := u) (y := 0) (by omega) (by omega)).mp h; omega
  rw [if_pos ⟨n1 x hx, n1 y hy, n1 z hz, by rw [hra.2.2, hl]; omega, by rw [hrb.2.2, hlb]; omega, rfl, rfl, fun k hk => rfl, by rw [nm_cat]; exact of_decide_eq_true hS⟩]
  have e7 : mv_up E.1 (mm_h E μ) (A b).toNat (Sum.inl (0, (μ (A b) (-2)).toNat, va_cpy (fun i : Nat => md_a 0 (μ (A a) i)) (fun i : Nat => md_a 0 (μ (A b) i)) x.toNat y.toNat z.toNat)) = mm_h E (mm_cp μ (A b) y (A a) x z) := by
    refine mm_cp_h hrb.1 hy.1 ?_
    have hk2 : mm_cp μ (A b) y (A a) x z (A b) (-1) = ((0 : Nat) : Int) := by unfold mm_cp; rw [if_neg (by omega)]; exact hrb.2.1
    have hk3 : mm_cp μ (A b) y (A a) x z (A b) (-2) = μ (A b) (-2) := by unfold mm_cp; rw [if_neg (by omega)]
    rw [mm_ca hk2 (by omega), hk3]
    congr 3
    funext r
    unfold va_cpy mm_cp
    by_cases hr9 : y ≤ (r : Int) ∧ (r : Int) < y + z
    · rw [if_pos ⟨by omega, by omega⟩, if_pos ⟨rfl, hr9⟩]
      show md_a 0 (μ (A a) ((x.toNat + (r - y.toNat) : Nat) : Int)) = _
      rw [show ((x.toNat + (r - y.toNat) : Nat) : Int) = x + ((r : Int) - y) by omega]
    · rw [if_neg (by omega), if_neg (fun e => hr9 e.2)]
  rw [e7]
  rfl
end NME
end
section
/-! memory in two: what never changes once made (kinds, lengths, final fields, counts) in s, the rest in ν -/
def mg_fin (n : Nat) : Bool := match mt_cl[n / 64]? with
  | some K => (K.2.1 (n % 64)).2.2.2
  | none => false
def sw_fin (k i : Int) : Bool := decide (100 ≤ k ∧ i < 64) && mg_fin (64 * (k - 100).toNat + i.toNat)
def sw_o (ν s : mm_T) : mm_T := fun p i => if 0 ≤ p ∧ 0 ≤ i ∧ sw_fin (s p (-1)) i = false then ν p i else s p i
def sw_w (E : mv_E) (d j : Nat) (f : mg_F) (s ν : mm_T) (Q : nm_O → mm_T → mm_T → Prop) : Prop := nm_w E d j f (sw_o ν s) (fun o κ' => ∃ s' ν', κ' = sw_o ν' s' ∧ Q o s' ν')
section SWA
variable {E : mv_E} {s ν s' ν' : mm_T} {d j pc pn pt j2 : Nat} {L L2 : mg_L} {S rest as2 : List mg_V} {f f' : mg_F} {Q Q2 : nm_O → mm_T → mm_T → Prop} {x y z a v i k l p w : Int} {n t : Nat} {q0 q : mv_J}
theorem sw_mono (h : sw_w E d j f s ν Q) (hq : ∀ o s' ν', Q o s' ν' → Q2 o s' ν') : sw_w E d j f s ν Q2 := nm_mono h (fun _ _ ⟨s', ν', h1, h2⟩ => ⟨s', ν', h1, hq _ _ _ h2⟩)
theorem sw_s (hi : i < 0) : sw_o ν s p i = s p i := by unfold sw_o; rw [if_neg (by omega)]
theorem sw_n (hp : p < 0) : sw_o ν s p i = s p i := by unfold sw_o; rw [if_neg (by omega)]
theorem sw_a (hp : 0 ≤ p) (hk : s p (-1) < 100) (hi : 0 ≤ i) : sw_o ν s p i = ν p i := by
  unfold sw_o
  rw [if_pos ⟨hp, hi, by unfold sw_fin; rw [decide_eq_false (by omega)]; rfl⟩]
theorem sw_fin_f : sw_fin (100 + ((n / 64 : Nat) : Int)) ((n % 64 : Nat) : Int) = mg_fin n := by
  unfold sw_fin
  rw [decide_eq_true (by omega), Bool.true_and, show 64 * ((100 + ((n / 64 : Nat) : Int) - 100).toNat) + (((n % 64 : Nat) : Int)).toNat = n by omega]
theorem sw_f (hp : 0 ≤ p) (hc : s p (-1) = 100 + ((n / 64 : Nat) : Int)) (hf : ((n % 64 : Nat) : Int) = i) (hm : mg_fin n = false) : sw_o ν s p i = ν p i := by
  unfold sw_o
  rw [if_pos ⟨hp, by omega, by rw [hc, ← hf, sw_fin_f]; exact hm⟩]
theorem sw_ff (hc : s p (-1) = 100 + ((n / 64 : Nat) : Int)) (hf : ((n % 64 : Nat) : Int) = i) (hm : mg_fin n = true) : sw_o ν s p i = s p i := by
  unfold sw_o
  rw [if_neg (fun e => by have := e.2.2; rw [hc, ← hf, sw_fin_f, hm] at this; cases this)]
theorem sw_u (hp : 0 ≤ p) (hi : 0 ≤ i) (hm : sw_fin (s p (-1)) i = false) : mm_u (sw_o ν s) p i z = sw_o (mm_u ν p i z) s := by
  funext q r
  by_cases h : q = p ∧ r = i
  · obtain ⟨rfl, rfl⟩ := h
    rw [mm_u_at]
    unfold sw_o
    rw [if_pos ⟨hp, hi, hm⟩, mm_u_at]
  · rw [mm_u_ne h]
    unfold sw_o
    rw [mm_u_ne h]
theorem sw_uf (hi : 0 ≤ i) (hm : sw_fin (s p (-1)) i = true) : mm_u (sw_o ν s) p i z = sw_o ν (mm_u s p i z) := by
  funext q r
  unfold sw_o
  have e : ∀ q, mm_u s p i z q (-1) = s q (-1) := fun q => mm_u_ne (by omega)
  rw [e]
  unfold mm_u
  by_cases h : q = p ∧ r = i
  · obtain ⟨rfl, rfl⟩ := h
    rw [if_pos ⟨rfl, rfl⟩, if_neg (fun e => by rw [hm] at e; cases e.2.2), if_pos ⟨rfl, rfl⟩]
  · rw [if_neg h, if_neg h]
theorem sw_p (k : Nat) (h : mg_ps j k f = some f') (w : sw_w E d j f' s ν Q) : sw_w E d j f s ν Q := nm_p k h w
theorem sw_eq1 {t : Int} (hr : mg_at j pc = some (3, .ifCond .eq t)) (ht : t.toNat = pt) (hn : pc + 3 = pn) (hb : -2147483648 ≤ z ∧ z < 2147483648) (k1 : z = 0 → sw_w E d j (pt, L, S) s ν Q) (k2 : z ≠ 0 → sw_w E d j (pn, L, S) s ν Q) : sw_w E d j (pc, L, (0, z) :: S) s ν Q := nm_eq1 hr ht hn hb k1 k2
theorem sw_ne1 {t : Int} (hr : mg_at j pc = some (3, .ifCond .ne t)) (ht : t.toNat = pt) (hn : pc + 3 = pn) (hb : -2147483648 ≤ z ∧ z < 2147483648) (k1 : z ≠ 0 → sw_w E d j (pt, L, S) s ν Q) (k2 : z = 0 → sw_w E d j (pn, L, S) s ν Q) : sw_w E d j (pc, L, (0, z) :: S) s ν Q := nm_ne1 hr ht hn hb k1 k2
theorem sw_lt1 {t : Int} (hr : mg_at j pc = some (3, .ifCond .lt t)) (ht : t.toNat = pt) (hn : pc + 3 = pn) (hb : -2147483648 ≤ z ∧ z < 2147483648) (k1 : z < 0 → sw_w E d j (pt, L, S) s ν Q) (k2 : 0 ≤ z → sw_w E d j (pn, L, S) s ν Q) : sw_w E d j (pc, L, (0, z) :: S) s ν Q := nm_lt1 hr ht hn hb k1 k2
theorem sw_ge1 {t : Int} (hr : mg_at j pc = some (3, .ifCond .ge t)) (ht : t.toNat = pt) (hn : pc + 3 = pn) (hb : -2147483648 ≤ z ∧ z < 2147483648) (k1 : 0 ≤ z → sw_w E d j (pt, L, S) s ν Q) (k2 : z < 0 → sw_w E d j (pn, L, S) s ν Q) : sw_w E d j (pc, L, (0, z) :: S) s ν Q := nm_ge1 hr ht hn hb k1 k2
theorem sw_gt1 {t : Int} (hr : mg_at j pc = some (3, .ifCond .gt t)) (ht : t.toNat = pt) (hn : pc + 3 = pn) (hb : -2147483648 ≤ z ∧ z < 2147483648) (k1 : 0 < z → sw_w E d j (pt, L, S) s ν Q) (k2 : z ≤ 0 → sw_w E d j (pn, L, S) s ν Q) : sw_w E d j (pc, L, (0, z) :: S) s ν Q := nm_gt1 hr ht hn hb k1 k2
theorem sw_le1 {t : Int} (hr : mg_at j pc = some (3, .ifCond .le t)) (ht : t.toNat = pt) (hn : pc + 3 = pn) (hb : -2147483648 ≤ z ∧ z < 2147483648) (k1 : z ≤ 0 → sw_w E d j (pt, L, S) s ν Q) (k2 : 0 < z → sw_w E d j (pn, L, S) s ν Q) : sw_w E d j (pc, L, (0, z) :: S) s ν Q := nm_le1 hr ht hn hb k1 k2
theorem sw_eq2 {t : Int} (hr : mg_at j pc = some (3, .if_icmp .eq t)) (ht : t.toNat = pt) (hn : pc + 3 = pn) (hx : -2147483648 ≤ x ∧ x < 2147483648) (hy : -2147483648 ≤ y ∧ y < 2147483648) (k1 : x = y → sw_w E d j (pt, L, S) s ν Q) (k2 : x ≠ y → sw_w E d j (pn, L, S) s ν Q) : sw_w E d j (pc, L, (0, y) :: (0, x) :: S) s ν Q := nm_eq2 hr ht hn hx hy k1 k2
theorem sw_ne2 {t : Int} (hr : mg_at j pc = some (3, .if_icmp .ne t)) (ht : t.toNat = pt) (hn : pc + 3 = pn) (hx : -2147483648 ≤ x ∧ x < 2147483648) (hy : -2147483648 ≤ y ∧ y < 2147483648) (k1 : x ≠ y → sw_w E d j (pt, L, S) s ν Q) (k2 : x = y → sw_w E d j (pn, L, S) s ν Q) : sw_w E d j (pc, L, (0, y) :: (0, x) :: S) s ν Q := nm_ne2 hr ht hn hx hy k1 k2
theorem sw_lt2 {t : Int} (hr : mg_at j pc = some (3, .if_icmp .lt t)) (ht : t.toNat = pt) (hn : pc + 3 = pn) (hx : -2147483648 ≤ x ∧ x < 2147483648) (hy : -2147483648 ≤ y ∧ y < 2147483648) (k1 : x < y → sw_w E d j (pt, L, S) s ν Q) (k2 : y ≤ x → sw_w E d j (pn, L, S) s ν Q) : sw_w E d j (pc, L, (0, y) :: (0, x) :: S) s ν Q := nm_lt2 hr ht hn hx hy k1 k2
theorem sw_ge2 {t : Int} (hr : mg_at j pc = some (3, .if_icmp .ge t)) (ht : t.toNat = pt) (hn : pc + 3 = pn) (hx : -2147483648 ≤ x ∧ x < 2147483648) (hy : -2147483648 ≤ y ∧ y < 2147483648) (k1 : y ≤ x → sw_w E d j (pt, L, S) s ν Q) (k2 : x < y → sw_w E d j (pn, L, S) s ν Q) : sw_w E d j (pc, L, (0, y) :: (0, x) :: S) s ν Q := nm_ge2 hr ht hn hx hy k1 k2
theorem sw_gt2 {t : Int} (hr : mg_at j pc = some (3, .if_icmp .gt t)) (ht : t.toNat = pt) (hn : pc + 3 = pn) (hx : -2147483648 ≤ x ∧ x < 2147483648) (hy : -2147483648 ≤ y ∧ y < 2147483648) (k1 : y < x → sw_w E d j (pt, L, S) s ν Q) (k2 : x ≤ y → sw_w E d j (pn, L, S) s ν Q) : sw_w E d j (pc, L, (0, y) :: (0, x) :: S) s ν Q := nm_gt2 hr ht hn hx hy k1 k2
theorem sw_le2 {t : Int} (hr : mg_at j pc = some (3, .if_icmp .le t)) (ht : t.toNat = pt) (hn : pc + 3 = pn) (hx : -2147483648 ≤ x ∧ x < 2147483648) (hy : -2147483648 ≤ y ∧ y < 2147483648) (k1 : x ≤ y → sw_w E d j (pt, L, S) s ν Q) (k2 : y < x → sw_w E d j (pn, L, S) s ν Q) : sw_w E d j (pc, L, (0, y) :: (0, x) :: S) s ν Q := nm_le2 hr ht hn hx hy k1 k2
theorem sw_idiv (hr : mg_at j pc = some (1, .idiv)) (hn : pc + 1 = pn) (hx : 0 ≤ x ∧ x < 2147483648) (hy : 0 < y ∧ y < 2147483648) (k : sw_w E d j (pn, L, (0, x / y) :: S) s ν Q) : sw_w E d j (pc, L, (0, y) :: (0, x) :: S) s ν Q := nm_idiv hr hn hx hy k
theorem sw_irem (hr : mg_at j pc = some (1, .irem)) (hn : pc + 1 = pn) (hx : 0 ≤ x ∧ x < 2147483648) (hy : 0 < y ∧ y < 2147483648) (k : sw_w E d j (pn, L, (0, x % y) :: S) s ν Q) : sw_w E d j (pc, L, (0, y) :: (0, x) :: S) s ν Q := nm_irem hr hn hx hy k
theorem sw_iand (hr : mg_at j pc = some (1, .iand)) (hn : pc + 1 = pn) (hz : Int32.ofInt x &&& Int32.ofInt y = Int32.ofInt z) (k : sw_w E d j (pn, L, (0, z) :: S) s ν Q) : sw_w E d j (pc, L, (0, y) :: (0, x) :: S) s ν Q := nm_iand hr hn hz k
theorem sw_ishl (hr : mg_at j pc = some (1, .ishl)) (hn : pc + 1 = pn) (hz : Int32.ofInt x <<< (Int32.ofInt y &&& 31) = Int32.ofInt z) (k : sw_w E d j (pn, L, (0, z) :: S) s ν Q) : sw_w E d j (pc, L, (0, y) :: (0, x) :: S) s ν Q := nm_ishl hr hn hz k
theorem sw_ishr (hr : mg_at j pc = some (1, .ishr)) (hn : pc + 1 = pn) (hz : Int32.ofInt x >>> (Int32.ofInt y &&& 31) = Int32.ofInt z) (k : sw_w E d j (pn, L, (0, z) :: S) s ν Q) : sw_w E d j (pc, L, (0, y) :: (0, x) :: S) s ν Q := nm_ishr hr hn hz k
theorem sw_i2l (hr : mg_at j pc = some (1, .i2l)) (hn : pc + 1 = pn) (hb : -2147483648 ≤ z ∧ z < 2147483648) (k : sw_w E d j (pn, L, (1, z) :: S) s ν Q) : sw_w E d j (pc, L, (0, z) :: S) s ν Q := nm_i2l hr hn (by rw [Int.bmod_eq_of_le_mul_two (by omega) (by omega)]; exact k)
theorem sw_i2lw (hr : mg_at j pc = some (1, .i2l)) (hn : pc + 1 = pn) (k : sw_w E d j (pn, L, (1, z.bmod 4294967296) :: S) s ν Q) : sw_w E d j (pc, L, (0, z) :: S) s ν Q := nm_i2l hr hn k
theorem sw_tsw {w lo hi : Int} {ts : Array Int} {len : Nat} (hr : mg_at j pc = some (len, .tableswitch w lo hi ts)) (hb : -2147483648 ≤ z ∧ z < 2147483648) (k : sw_w E d j ((mv_sw z w lo hi ts.toList).toNat, L, S) s ν Q) : sw_w E d j (pc, L, (0, z) :: S) s ν Q := nm_tsw hr hb k
/-! fields: that may change (gI, gL, gA; pI, pZ, pL, pA, pN), and final ones (hI, hA; in constructors qI, qZ, qA, qN) -/
theorem sw_gI (hr : mg_at j pc = some (3, .getfield n)) (hn : pc + 3 = pn) (ht : mg_fI n = true) (hm : mg_fin n = false) (hf : ((n % 64 : Nat) : Int) = i) (hp : 0 ≤ p) (hc : s p (-1) = 100 + ((n / 64 : Nat) : Int)) (kk : sw_w E d j (pn, L, (0, ν p i) :: S) s ν Q) : sw_w E d j (pc, L, (2, p) :: S) s ν Q := nm_gI hr hn ht hf (by rw [sw_s (by omega)]; exact hc) (by rw [sw_f hp hc hf hm]; exact kk)
theorem sw_hI (hr : mg_at j pc = some (3, .getfield n)) (hn : pc + 3 = pn) (ht : mg_fI n = true) (hm : mg_fin n = true) (hf : ((n % 64 : Nat) : Int) = i) (hc : s p (-1) = 100 + ((n / 64 : Nat) : Int)) (hv : s p i = v) (kk : sw_w E d j (pn, L, (0, v) :: S) s ν Q) : sw_w E d j (pc, L, (2, p) :: S) s ν Q := nm_gI hr hn ht hf (by rw [sw_s (by omega)]; exact hc) (by rw [sw_ff hc hf hm, hv]; exact kk)
theorem sw_gL (hr : mg_at j pc = some (3, .getfield n)) (hn : pc + 3 = pn) (ht : mg_fL n = true) (hm : mg_fin n = false) (hf : ((n % 64 : Nat) : Int) = i) (hp : 0 ≤ p) (hc : s p (-1) = 100 + ((n / 64 : Nat) : Int)) (kk : sw_w E d j (pn, L, (1, ν p i) :: S) s ν Q) : sw_w E d j (pc, L, (2, p) :: S) s ν Q := nm_gL hr hn ht hf (by rw [sw_s (by omega)]; exact hc) (by rw [sw_f hp hc hf hm]; exact kk)
theorem sw_gA (hr : mg_at j pc = some (3, .getfield n)) (hn : pc + 3 = pn) (ht : mg_fA n = true) (hm : mg_fin n = false) (hf : ((n % 64 : Nat) : Int) = i) (hp : 0 ≤ p) (hc : s p (-1) = 100 + ((n / 64 : Nat) : Int)) (k1 : 0 ≤ ν p i → sw_w E d j (pn, L, (2, ν p i) :: S) s ν Q) (k2 : ν p i < 0 → sw_w E d j (pn, L, (3, 0) :: S) s ν Q) : sw_w E d j (pc, L, (2, p) :: S) s ν Q := nm_gA hr hn ht hf (by rw [sw_s (by omega)]; exact hc) (by rw [sw_f hp hc hf hm]; exact k1) (by rw [sw_f hp hc hf hm]; exact k2)
theorem sw_hA (hr : mg_at j pc = some (3, .getfield n)) (hn : pc + 3 = pn) (ht : mg_fA n = true) (hm : mg_fin n = true) (hf : ((n % 64 : Nat) : Int) = i) (hc : s p (-1) = 100 + ((n / 64 : Nat) : Int)) (hv : s p i = v) (h0 : 0 ≤ v) (kk : sw_w E d j (pn, L, (2, v) :: S) s ν Q) : sw_w E d j (pc, L, (2, p) :: S) s ν Q := nm_gR hr hn ht hf (by rw [sw_s (by omega)]; exact hc) (by rw [sw_ff hc hf hm, hv]; exact h0) (by rw [sw_ff hc hf hm, hv]; exact kk)
theorem sw_hN (hr : mg_at j pc = some (3, .getfield n)) (hn : pc + 3 = pn) (ht : mg_fA n = true) (hm : mg_fin n = true) (hf : ((n % 64 : Nat) : Int) = i) (hc : s p (-1) = 100 + ((n / 64 : Nat) : Int)) (h0 : s p i < 0) (kk : sw_w E d j (pn, L, (3, 0) :: S) s ν Q) : sw_w E d j (pc, L, (2, p) :: S) s ν Q := nm_gN hr hn ht hf (by rw [sw_s (by omega)]; exact hc) (by rw [sw_ff hc hf hm]; exact h0) kk
theorem sw_finf (hc : s p (-1) = 100 + ((n / 64 : Nat) : Int)) (hf : ((n % 64 : Nat) : Int) = i) {b : Bool} (hm : mg_fin n = b) : sw_fin (s p (-1)) i = b := by rw [hc, ← hf, sw_fin_f]; exact hm
theorem sw_pI (hr : mg_at j pc = some (3, .putfield n)) (hn : pc + 3 = pn) (ht : mg_ty n = some .int) (hm : mg_fin n = false) (hf : ((n % 64 : Nat) : Int) = i) (hp : 0 ≤ p) (hc : s p (-1) = 100 + ((n / 64 : Nat) : Int)) (kk : sw_w E d j (pn, L, S) s (mm_u ν p i z) Q) : sw_w E d j (pc, L, (0, z) :: (2, p) :: S) s ν Q := nm_pI hr hn ht hf (by rw [sw_s (by omega)]; exact hc) (by rw [sw_u hp (by omega) (sw_finf hc hf hm)]; exact kk)
theorem sw_pZ (hr : mg_at j pc = some (3, .putfield n)) (hn : pc + 3 = pn) (ht : mg_ty n = some .boolean) (hm : mg_fin n = false) (hf : ((n % 64 : Nat) : Int) = i) (hp : 0 ≤ p) (hc : s p (-1) = 100 + ((n / 64 : Nat) : Int)) (hz : z = 0 ∨ z = 1) (kk : sw_w E d j (pn, L, S) s (mm_u ν p i z) Q) : sw_w E d j (pc, L, (0, z) :: (2, p) :: S) s ν Q := nm_pZ hr hn ht hf (by rw [sw_s (by omega)]; exact hc) hz (by rw [sw_u hp (by omega) (sw_finf hc hf hm)]; exact kk)
theorem sw_pL (hr : mg_at j pc = some (3, .putfield n)) (hn : pc + 3 = pn) (ht : mg_ty n = some .long) (hm : mg_fin n = false) (hf : ((n % 64 : Nat) : Int) = i) (hp : 0 ≤ p) (hc : s p (-1) = 100 + ((n / 64 : Nat) : Int)) (kk : sw_w E d j (pn, L, S) s (mm_u ν p i z) Q) : sw_w E d j (pc, L, (1, z) :: (2, p) :: S) s ν Q := nm_pL hr hn ht hf (by rw [sw_s (by omega)]; exact hc) (by rw [sw_u hp (by omega) (sw_finf hc hf hm)]; exact kk)
theorem sw_pA (hr : mg_at j pc = some (3, .putfield n)) (hn : pc + 3 = pn) (ht : mg_fA n = true) (hm : mg_fin n = false) (hf : ((n % 64 : Nat) : Int) = i) (hp : 0 ≤ p) (hc : s p (-1) = 100 + ((n / 64 : Nat) : Int)) (kk : sw_w E d j (pn, L, S) s (mm_u ν p i z) Q) : sw_w E d j (pc, L, (2, z) :: (2, p) :: S) s ν Q := nm_pA hr hn ht hf (by rw [sw_s (by omega)]; exact hc) (by rw [sw_u hp (by omega) (sw_finf hc hf hm)]; exact kk)
theorem sw_pN (hr : mg_at j pc = some (3, .putfield n)) (hn : pc + 3 = pn) (ht : mg_fA n = true) (hm : mg_fin n = false) (hf : ((n % 64 : Nat) : Int) = i) (hp : 0 ≤ p) (hc : s p (-1) = 100 + ((n / 64 : Nat) : Int)) (kk : sw_w E d j (pn, L, S) s (mm_u ν p i (-1)) Q) : sw_w E d j (pc, L, (3, 0) :: (2, p) :: S) s ν Q := nm_pN hr hn ht hf (by rw [sw_s (by omega)]; exact hc) (by rw [sw_u hp (by omega) (sw_finf hc hf hm)]; exact kk)
theorem sw_qI (hr : mg_at j pc = some (3, .putfield n)) (hn : pc + 3 = pn) (ht : mg_ty n = some .int) (hm : mg_fin n = true) (hf : ((n % 64 : Nat) : Int) = i) (hc : s p (-1) = 100 + ((n / 64 : Nat) : Int)) (kk : sw_w E d j (pn, L, S) (mm_u s p i z) ν Q) : sw_w E d j (pc, L, (0, z) :: (2, p) :: S) s ν Q := nm_pI hr hn ht hf (by rw [sw_s (by omega)]; exact hc) (by rw [sw_uf (by omega) (sw_finf hc hf hm)]; exact kk)
theorem sw_qZ (hr : mg_at j pc = some (3, .putfield n)) (hn : pc + 3 = pn) (ht : mg_ty n = some .boolean) (hm : mg_fin n = true) (hf : ((n % 64 : Nat) : Int) = i) (hc : s p (-1) = 100 + ((n / 64 : Nat) : Int)) (hz : z = 0 ∨ z = 1) (kk : sw_w E d j (pn, L, S) (mm_u s p i z) ν Q) : sw_w E d j (pc, L, (0, z) :: (2, p) :: S) s ν Q := nm_pZ hr hn ht hf (by rw [sw_s (by omega)]; exact hc) hz (by rw [sw_uf (by omega) (sw_finf hc hf hm)]; exact kk)
theorem sw_qA (hr : mg_at j pc = some (3, .putfield n)) (hn : pc + 3 = pn) (ht : mg_fA n = true) (hm : mg_fin n = true) (hf : ((n % 64 : Nat) : Int) = i) (hc : s p (-1) = 100 + ((n / 64 : Nat) : Int)) (kk : sw_w E d j (pn, L, S) (mm_u s p i z) ν Q) : sw_w E d j (pc, L, (2, z) :: (2, p) :: S) s ν Q := nm_pA hr hn ht hf (by rw [sw_s (by omega)]; exact hc) (by rw [sw_uf (by omega) (sw_finf hc hf hm)]; exact kk)
theorem sw_qN (hr : mg_at j pc = some (3, .putfield n)) (hn : pc + 3 = pn) (ht : mg_fA n = true) (hm : mg_fin n = true) (hf : ((n % 64 : Nat) : Int) = i) (hc : s p (-1) = 100 + ((n / 64 : Nat) : Int)) (kk : sw_w E d j (pn, L, S) (mm_u s p i (-1)) ν Q) : sw_w E d j (pc, L, (3, 0) :: (2, p) :: S) s ν Q := nm_pN hr hn ht hf (by rw [sw_s (by omega)]; exact hc) (by rw [sw_uf (by omega) (sw_finf hc hf hm)]; exact kk)
/-! references compared -/
theorem sw_acq {t : Int} (hr : mg_at j pc = some (3, .if_acmp .eq t)) (ht : t.toNat = pt) (hn : pc + 3 = pn) (hx : 0 ≤ s x (-1)) (hy : 0 ≤ s y (-1)) (k1 : x = y → sw_w E d j (pt, L, S) s ν Q) (k2 : x ≠ y → sw_w E d j (pn, L, S) s ν Q) : sw_w E d j (pc, L, (2, y) :: (2, x) :: S) s ν Q := nm_acq hr ht hn (by unfold nm_a; rw [sw_s (by omega)]; exact hx) (by unfold nm_a; rw [sw_s (by omega)]; exact hy) k1 k2
theorem sw_acn {t : Int} (hr : mg_at j pc = some (3, .if_acmp .ne t)) (ht : t.toNat = pt) (hn : pc + 3 = pn) (hx : 0 ≤ s x (-1)) (hy : 0 ≤ s y (-1)) (k1 : x ≠ y → sw_w E d j (pt, L, S) s ν Q) (k2 : x = y → sw_w E d j (pn, L, S) s ν Q) : sw_w E d j (pc, L, (2, y) :: (2, x) :: S) s ν Q := nm_acn hr ht hn (by unfold nm_a; rw [sw_s (by omega)]; exact hx) (by unfold nm_a; rw [sw_s (by omega)]; exact hy) k1 k2
theorem sw_acqs {t : Int} (hr : mg_at j pc = some (3, .if_acmp .eq t)) (ht : t.toNat = pt) (k1 : sw_w E d j (pt, L, S) s ν Q) : sw_w E d j (pc, L, (2, x) :: (2, x) :: S) s ν Q := nm_acqs hr ht k1
theorem sw_acns {t : Int} (hr : mg_at j pc = some (3, .if_acmp .ne t)) (hn : pc + 3 = pn) (k1 : sw_w E d j (pn, L, S) s ν Q) : sw_w E d j (pc, L, (2, x) :: (2, x) :: S) s ν Q := nm_acns hr hn k1
theorem sw_acn0 {t : Int} (hr : mg_at j pc = some (3, .if_acmp .ne t)) (ht : t.toNat = pt) (hn : pc + 3 = pn) (k1 : sw_w E d j (pt, L, S) s ν Q) : sw_w E d j (pc, L, (3, y) :: (2, x) :: S) s ν Q := nm_acn0 hr ht hn k1
theorem sw_acq0 {t : Int} (hr : mg_at j pc = some (3, .if_acmp .eq t)) (ht : t.toNat = pt) (hn : pc + 3 = pn) (k1 : sw_w E d j (pn, L, S) s ν Q) : sw_w E d j (pc, L, (3, y) :: (2, x) :: S) s ν Q := nm_acq0 hr ht hn k1
/-! arrays -/
theorem sw_len (hr : mg_at j pc = some (1, .arraylength)) (hn : pc + 1 = pn) (hk : s p (-1) = (t : Int)) (ht : (mt_ty[t]?).isSome = true) (ht2 : t < 100) (hl : s p (-2) = l) (hl0 : 0 ≤ l) (kk : sw_w E d j (pn, L, (0, l) :: S) s ν Q) : sw_w E d j (pc, L, (2, p) :: S) s ν Q := nm_len hr hn (by rw [sw_s (by omega)]; exact hk) ht ht2 (by rw [sw_s (by omega)]; exact hl) hl0 kk
theorem sw_lenS (hr : mg_at j pc = some (1, .arraylength)) (hn : pc + 1 = pn) (h0 : E.2.1 < E.1) (kk : sw_w E d j (pn, L, (0, (E.2.2.1 : Int)) :: S) s ν Q) : sw_w E d j (pc, L, (2, 9001) :: S) s ν Q := nm_lenS hr hn h0 kk
theorem sw_lenE (hr : mg_at j pc = some (1, .arraylength)) (hn : pc + 1 = pn) (h0 : E.2.2.2.2.1 < E.1) (h1 : E.2.2.2.2.1 ≠ E.2.1) (kk : sw_w E d j (pn, L, (0, 0) :: S) s ν Q) : sw_w E d j (pc, L, (2, 9002) :: S) s ν Q := nm_lenE hr hn h0 h1 kk
theorem sw_ial (hr : mg_at j pc = some (1, .iaload)) (hn : pc + 1 = pn) (hp : 0 ≤ p) (hk : s p (-1) = 0) (hl : s p (-2) = l) (hl2 : l ≤ 2147483648) (hi : 0 ≤ i ∧ i < l) (kk : sw_w E d j (pn, L, (0, ν p i) :: S) s ν Q) : sw_w E d j (pc, L, (0, i) :: (2, p) :: S) s ν Q := nm_ial hr hn (by rw [sw_s (by omega)]; exact hk) (by rw [sw_s (by omega)]; exact hl) hl2 hi (by rw [sw_a hp (by omega) hi.1]; exact kk)
theorem sw_ialS (hr : mg_at j pc = some (1, .iaload)) (hn : pc + 1 = pn) (h0 : E.2.1 < E.1) (hi : 0 ≤ i ∧ i < (E.2.2.1 : Int)) (hl : E.2.2.1 ≤ 3072) (kk : sw_w E d j (pn, L, (0, (E.2.2.2.1 i.toNat).toInt) :: S) s ν Q) : sw_w E d j (pc, L, (0, i) :: (2, 9001) :: S) s ν Q := nm_ialS hr hn h0 hi hl kk
theorem sw_bal (hr : mg_at j pc = some (1, .baload)) (hn : pc + 1 = pn) (hp : 0 ≤ p) (hk : s p (-1) = 1) (hl : s p (-2) = l) (hl2 : l ≤ 2147483648) (hi : 0 ≤ i ∧ i < l) (kk : sw_w E d j (pn, L, (0, ν p i) :: S) s ν Q) : sw_w E d j (pc, L, (0, i) :: (2, p) :: S) s ν Q := nm_bal hr hn (by rw [sw_s (by omega)]; exact hk) (by rw [sw_s (by omega)]; exact hl) hl2 hi (by rw [sw_a hp (by omega) hi.1]; exact kk)
theorem sw_lal (hr : mg_at j pc = some (1, .laload)) (hn : pc + 1 = pn) (hp : 0 ≤ p) (hk : s p (-1) = 2) (hl : s p (-2) = l) (hl2 : l ≤ 2147483648) (hi : 0 ≤ i ∧ i < l) (kk : sw_w E d j (pn, L, (1, ν p i) :: S) s ν Q) : sw_w E d j (pc, L, (0, i) :: (2, p) :: S) s ν Q := nm_lal hr hn (by rw [sw_s (by omega)]; exact hk) (by rw [sw_s (by omega)]; exact hl) hl2 hi (by rw [sw_a hp (by omega) hi.1]; exact kk)
theorem sw_aal (hr : mg_at j pc = some (1, .aaload)) (hn : pc + 1 = pn) (ht : mg_aA t = true) (ht2 : t < 100) (hp : 0 ≤ p) (hk : s p (-1) = (t : Int)) (hl : s p (-2) = l) (hl2 : l ≤ 2147483648) (hi : 0 ≤ i ∧ i < l) (k1 : 0 ≤ ν p i → sw_w E d j (pn, L, (2, ν p i) :: S) s ν Q) (k2 : ν p i < 0 → sw_w E d j (pn, L, (3, 0) :: S) s ν Q) : sw_w E d j (pc, L, (0, i) :: (2, p) :: S) s ν Q := nm_aal hr hn ht ht2 (by rw [sw_s (by omega)]; exact hk) (by rw [sw_s (by omega)]; exact hl) hl2 hi (by rw [sw_a hp (by omega) hi.1]; exact k1) (by rw [sw_a hp (by omega) hi.1]; exact k2)
theorem sw_fina (hk : s p (-1) < 100) : sw_fin (s p (-1)) i = false := by unfold sw_fin; rw [decide_eq_false (by omega)]; rfl
theorem sw_ias (hr : mg_at j pc = some (1, .iastore)) (hn : pc + 1 = pn) (hp : 0 ≤ p) (hk : s p (-1) = 0) (hl : s p (-2) = l) (hl2 : l ≤ 2147483648) (hi : 0 ≤ i ∧ i < l) (kk : sw_w E d j (pn, L, S) s (mm_u ν p i z) Q) : sw_w E d j (pc, L, (0, z) :: (0, i) :: (2, p) :: S) s ν Q := nm_ias hr hn (by rw [sw_s (by omega)]; exact hk) (by rw [sw_s (by omega)]; exact hl) hl2 hi (by rw [sw_u hp hi.1 (sw_fina (by omega))]; exact kk)
theorem sw_bas (hr : mg_at j pc = some (1, .bastore)) (hn : pc + 1 = pn) (hz : z = 0 ∨ z = 1) (hp : 0 ≤ p) (hk : s p (-1) = 1) (hl : s p (-2) = l) (hl2 : l ≤ 2147483648) (hi : 0 ≤ i ∧ i < l) (kk : sw_w E d j (pn, L, S) s (mm_u ν p i z) Q) : sw_w E d j (pc, L, (0, z) :: (0, i) :: (2, p) :: S) s ν Q := nm_bas hr hn hz (by rw [sw_s (by omega)]; exact hk) (by rw [sw_s (by omega)]; exact hl) hl2 hi (by rw [sw_u hp hi.1 (sw_fina (by omega))]; exact kk)
theorem sw_las (hr : mg_at j pc = some (1, .lastore)) (hn : pc + 1 = pn) (hp : 0 ≤ p) (hk : s p (-1) = 2) (hl : s p (-2) = l) (hl2 : l ≤ 2147483648) (hi : 0 ≤ i ∧ i < l) (kk : sw_w E d j (pn, L, S) s (mm_u ν p i z) Q) : sw_w E d j (pc, L, (1, z) :: (0, i) :: (2, p) :: S) s ν Q := nm_las hr hn (by rw [sw_s (by omega)]; exact hk) (by rw [sw_s (by omega)]; exact hl) hl2 hi (by rw [sw_u hp hi.1 (sw_fina (by omega))]; exact kk)
theorem sw_aasN (hr : mg_at j pc = some (1, .aastore)) (hn : pc + 1 = pn) (ht : mg_aA t = true) (ht2 : t < 100) (hp : 0 ≤ p) (hk : s p (-1) = (t : Int)) (hl : s p (-2) = l) (hl2 : l ≤ 2147483648) (hi : 0 ≤ i ∧ i < l) (kk : sw_w E d j (pn, L, S) s (mm_u ν p i (-1)) Q) : sw_w E d j (pc, L, (3, 0) :: (0, i) :: (2, p) :: S) s ν Q := nm_aasN hr hn ht ht2 (by rw [sw_s (by omega)]; exact hk) (by rw [sw_s (by omega)]; exact hl) hl2 hi (by rw [sw_u hp hi.1 (sw_fina (by omega))]; exact kk)
theorem sw_aas {c : Nat} (hr : mg_at j pc = some (1, .aastore)) (hn : pc + 1 = pn) (ht : mg_aA t = true) (ht2 : t < 100) (hct : mt_as.contains (c, t) = true) (hv : s v (-1) = 100 + (c : Int)) (hp : 0 ≤ p) (hk : s p (-1) = (t : Int)) (hl : s p (-2) = l) (hl2 : l ≤ 2147483648) (hi : 0 ≤ i ∧ i < l) (kk : sw_w E d j (pn, L, S) s (mm_u ν p i v) Q) : sw_w E d j (pc, L, (2, v) :: (0, i) :: (2, p) :: S) s ν Q := nm_aas hr hn ht ht2 hct (by rw [sw_s (by omega)]; exact hv) (by rw [sw_s (by omega)]; exact hk) (by rw [sw_s (by omega)]; exact hl) hl2 hi (by rw [sw_u hp hi.1 (sw_fina (by omega))]; exact kk)
theorem sw_cast (hr : mg_at j pc = some (3, .checkcast n)) (hn : pc + 3 = pn) (hc : s p (-1) = 100 + (n : Int)) (kk : sw_w E d j (pn, L, (2, p) :: S) s ν Q) : sw_w E d j (pc, L, (2, p) :: S) s ν Q := nm_cast hr hn (by rw [sw_s (by omega)]; exact hc) kk
theorem sw_oi (hr : mg_at j pc = some (3, .monitorexit)) (hn : pc + 3 = pn) (hS : decide (((mg_eS S).map fun v => v.category).sum ≤ 24) = true) (kk : sw_w E d j (pn, L, S) s ν Q) : sw_w E d j (pc, L, (2, p) :: S) s ν Q := nm_oi hr hn hS kk
end SWA
end
section
/-! making, calling, ending, with memory in two -/
def sw_nw (ν : mm_T) (p : Int) (z0 : Int → Int) : mm_T := fun q i => if q = p then z0 i else ν q i
section SWB
variable {E : mv_E} {s ν s' ν' : mm_T} {d j pc pn pt j2 : Nat} {L L2 : mg_L} {S rest as2 : List mg_V} {f f' : mg_F} {Q Q2 : nm_O → mm_T → mm_T → Prop} {x y z a v i k l p w : Int} {n t : Nat} {q0 q : mv_J}
theorem sw_al {sz : Int} {z0 : Int → Int} (hp : 0 ≤ p) : nm_al (sw_o ν s) p k l sz z0 = sw_o (sw_nw ν p z0) (nm_al s p k l sz z0) := by
  funext q r
  by_cases hq : q = p
  · subst hq
    by_cases hr : r < 0
    · rw [sw_s hr]
      have e : ∀ κ : mm_T, nm_al κ q k l sz z0 q r = (if r = -1 then k else if r = -2 then l else z0 r) := fun κ => by
        unfold nm_al
        rw [if_neg (by omega), if_neg (by omega), if_pos rfl]
      rw [e, e]
    · have e1 : nm_al (sw_o ν s) q k l sz z0 q r = z0 r := by
        unfold nm_al
        rw [if_neg (by omega), if_neg (by omega), if_pos rfl, if_neg (by omega), if_neg (by omega)]
      have e2 : nm_al s q k l sz z0 q r = z0 r := by
        unfold nm_al
        rw [if_neg (by omega), if_neg (by omega), if_pos rfl, if_neg (by omega), if_neg (by omega)]
      rw [e1]
      unfold sw_o sw_nw
      rw [e2, if_pos rfl]
      split <;> rfl
  · by_cases h1 : q = -1
    · subst h1
      rw [sw_n (by omega)]
      unfold nm_al
      rw [sw_n (by omega), sw_n (by omega), sw_n (by omega)]
    · rw [nm_al_ne hq h1]
      unfold sw_o sw_nw
      rw [nm_al_ne hq h1, nm_al_ne hq h1, if_neg hq]
theorem sw_new {K : mv_K} {sz : Int} (p : Int) (hr : mg_at j pc = some (3, .new n)) (hn : pc + 3 = pn) (hK : mt_cl[n]? = some K) (hs : K.2.2.2.2.all (fun ty => match ty with | .int => true | .boolean => true | .long => true | .object _ => true | .array _ => true | _ => false) = true) (hk : 100 + (n : Int) = k) (hsz : (K.2.2.2.1 : Int) = sz) (hp : 0 ≤ p ∧ p ≤ 9000) (hpn : s p (-1) < 0) (kk : sw_w E d j (pn, L, (2, p) :: S) (nm_al s p k 0 sz (mm_z n)) (sw_nw ν p (mm_z n)) Q) : sw_w E d j (pc, L, S) s ν Q := nm_new p hr hn hK hs hk hsz hp (by rw [sw_s (by omega)]; exact hpn) (by rw [sw_al hp.1]; exact kk)
theorem sw_na {at_ : ArrayType} (p : Int) (hr : mg_at j pc = some (2, .newarray at_)) (hn : pc + 2 = pn) (ht : mv_kd at_ = t) (hok : at_ = .int ∨ at_ = .boolean ∨ at_ = .long) (hl : 0 ≤ l ∧ l ≤ 60000000) (hp : 0 ≤ p ∧ p ≤ 9000) (hpn : s p (-1) < 0) (kk : sw_w E d j (pn, L, (2, p) :: S) (nm_al s p (t : Int) l l (fun _ => 0)) (sw_nw ν p (fun _ => 0)) Q) : sw_w E d j (pc, L, (0, l) :: S) s ν Q := nm_na p hr hn ht hok hl hp (by rw [sw_s (by omega)]; exact hpn) (by rw [sw_al hp.1]; exact kk)
theorem sw_an (p : Int) (hr : mg_at j pc = some (3, .anewarray t)) (hn : pc + 3 = pn) (ht : mg_aA t = true) (ht2 : t < 100) (hl : 0 ≤ l ∧ l ≤ 60000000) (hp : 0 ≤ p ∧ p ≤ 9000) (hpn : s p (-1) < 0) (kk : sw_w E d j (pn, L, (2, p) :: S) (nm_al s p (t : Int) l l (fun _ => -1)) (sw_nw ν p (fun _ => -1)) Q) : sw_w E d j (pc, L, (0, l) :: S) s ν Q := nm_an p hr hn ht ht2 hl hp (by rw [sw_s (by omega)]; exact hpn) (by rw [sw_al hp.1]; exact kk)
theorem sw_cs (hr : mg_at j pc = some (3, .invokestatic j2)) (hn : pc + 3 = pn) (hq0 : mt_ms[j]? = some q0) (hh : mj_hr q0 = []) (hq : mt_ms[j2]? = some q) (hfit : (decide (mj_a q ≤ S.length) && decide (((mg_eS (S.drop (mj_a q))).map fun v => v.category).sum ≤ 8) && decide ((mg_ent (S.take (mj_a q)).reverse).length ≤ mj_n q)) = true) (hL : mg_in (mj_n q) (S.take (mj_a q)).reverse = L2) (hrest : S.drop (mj_a q) = rest)
    (w : sw_w E d j2 (0, L2, []) s ν Q2) (k1 : ∀ (v : Option mg_V) (s' ν' : mm_T), Q2 (.inl v) s' ν' → sw_w E (d + 1) j (pn, L, v.toList ++ rest) s' ν' Q) (k2 : ∀ (c : Nat) (s' ν' : mm_T), Q2 (.inr c) s' ν' → Q (.inr c) s' ν') : sw_w E (d + 1) j (pc, L, S) s ν Q :=
  nm_cs hr hn hq0 hh hq hfit hL hrest w (fun v κ' ⟨s', ν', h1, h2⟩ => by subst h1; exact k1 v s' ν' h2) (fun c κ' ⟨s', ν', h1, h2⟩ => ⟨s', ν', h1, k2 c s' ν' h2⟩)
theorem sw_cv (hr : mg_at j pc = some (3, .invokevirtual j2)) (hn : pc + 3 = pn) (hq0 : mt_ms[j]? = some q0) (hh : mj_hr q0 = []) (hq : mt_ms[j2]? = some q) (hfit : (decide (mj_a q ≤ S.length) && decide (((mg_eS (S.drop (mj_a q))).map fun v => v.category).sum ≤ 8) && decide ((mg_ent (S.take (mj_a q)).reverse).length ≤ mj_n q)) = true) (has : (S.take (mj_a q)).reverse = (2, p) :: as2) (hL : mg_in (mj_n q) ((2, p) :: as2) = L2) (hrest : S.drop (mj_a q) = rest) (hc : s p (-1) = 100 + ((mj_k q : Nat) : Int))
    (w : sw_w E d j2 (0, L2, []) s ν Q2) (k1 : ∀ (v : Option mg_V) (s' ν' : mm_T), Q2 (.inl v) s' ν' → sw_w E (d + 1) j (pn, L, v.toList ++ rest) s' ν' Q) (k2 : ∀ (c : Nat) (s' ν' : mm_T), Q2 (.inr c) s' ν' → Q (.inr c) s' ν') : sw_w E (d + 1) j (pc, L, S) s ν Q :=
  nm_cv hr hn hq0 hh hq hfit has hL hrest (by rw [sw_s (by omega)]; exact hc) w (fun v κ' ⟨s', ν', h1, h2⟩ => by subst h1; exact k1 v s' ν' h2) (fun c κ' ⟨s', ν', h1, h2⟩ => ⟨s', ν', h1, k2 c s' ν' h2⟩)
theorem sw_ci (hr : mg_at j pc = some (3, .invokespecial j2)) (hn : pc + 3 = pn) (hq0 : mt_ms[j]? = some q0) (hh : mj_hr q0 = []) (hq : mt_ms[j2]? = some q) (hfit : (decide (mj_a q ≤ S.length) && decide (((mg_eS (S.drop (mj_a q))).map fun v => v.category).sum ≤ 8) && decide ((mg_ent (S.take (mj_a q)).reverse).length ≤ mj_n q)) = true) (has : (S.take (mj_a q)).reverse = (2, p) :: as2) (hL : mg_in (mj_n q) ((2, p) :: as2) = L2) (hrest : S.drop (mj_a q) = rest)
    (w : sw_w E d j2 (0, L2, []) s ν Q2) (k1 : ∀ (v : Option mg_V) (s' ν' : mm_T), Q2 (.inl v) s' ν' → sw_w E (d + 1) j (pn, L, v.toList ++ rest) s' ν' Q) (k2 : ∀ (c : Nat) (s' ν' : mm_T), Q2 (.inr c) s' ν' → Q (.inr c) s' ν') : sw_w E (d + 1) j (pc, L, S) s ν Q :=
  nm_ci hr hn hq0 hh hq hfit has hL hrest w (fun v κ' ⟨s', ν', h1, h2⟩ => by subst h1; exact k1 v s' ν' h2) (fun c κ' ⟨s', ν', h1, h2⟩ => ⟨s', ν', h1, k2 c s' ν' h2⟩)
theorem sw_cvh (hr : mg_at j pc = some (3, .invokevirtual j2)) (hn : pc + 3 = pn) (hq0 : mt_ms[j]? = some q0) (hh : mj_hr q0 ≠ []) (hq : mt_ms[j2]? = some q) (hfit : (decide (mj_a q ≤ S.length) && decide (((mg_eS (S.drop (mj_a q))).map fun v => v.category).sum ≤ 8) && decide ((mg_ent (S.take (mj_a q)).reverse).length ≤ mj_n q)) = true) (has : (S.take (mj_a q)).reverse = (2, p) :: as2) (hL : mg_in (mj_n q) ((2, p) :: as2) = L2) (hrest : S.drop (mj_a q) = rest) (hc : s p (-1) = 100 + ((mj_k q : Nat) : Int))
    (w : sw_w E d j2 (0, L2, []) s ν Q2) (k1 : ∀ (v : Option mg_V) (s' ν' : mm_T), Q2 (.inl v) s' ν' → sw_w E (d + 1) j (pn, L, v.toList ++ rest) s' ν' Q)
    (k2 : ∀ (c : Nat) (s' ν' : mm_T), Q2 (.inr c) s' ν' → ∃ (pc' pr : Nat) (z : Int), mv_seek mt_nc c pc (mj_hr q0) = some pc' ∧ (∀ (A : Int → Int) (a : Int), ∃ L3, mg_ps j 2 (pc', nm_l A L, [(2, a)]) = some (pr, L3, [(0, z)])) ∧ mg_at j pr = some (1, .ireturn) ∧ mj_r q0 = some .int ∧ Q (.inl (some (0, z))) s' ν') : sw_w E (d + 1) j (pc, L, S) s ν Q :=
  nm_cvh hr hn hq0 hh hq hfit has hL hrest (by rw [sw_s (by omega)]; exact hc) w (fun v κ' ⟨s', ν', h1, h2⟩ => by subst h1; exact k1 v s' ν' h2) (fun c κ' ⟨s', ν', h1, h2⟩ => by
    obtain ⟨pc', pr, z, e1, e2, e3, e4, e5⟩ := k2 c s' ν' h2
    exact ⟨pc', pr, z, e1, e2, e3, e4, s', ν', h1, e5⟩)
theorem sw_retV (hr : mg_at j pc = some (1, .return_)) (hq0 : mt_ms[j]? = some q0) (ht : mj_r q0 = none) (h : Q (.inl none) s ν) : sw_w E d j (pc, L, []) s ν Q := nm_retV hr hq0 ht ⟨s, ν, rfl, h⟩
theorem sw_retI (hr : mg_at j pc = some (1, .ireturn)) (hq0 : mt_ms[j]? = some q0) (ht : mj_r q0 = some .int) (h : Q (.inl (some (0, z))) s ν) : sw_w E d j (pc, L, [(0, z)]) s ν Q := nm_retI hr hq0 ht ⟨s, ν, rfl, h⟩
theorem sw_retZ (hr : mg_at j pc = some (1, .ireturn)) (hq0 : mt_ms[j]? = some q0) (ht : mj_r q0 = some .boolean) (hz : z = 0 ∨ z = 1) (h : Q (.inl (some (0, z))) s ν) : sw_w E d j (pc, L, [(0, z)]) s ν Q := nm_retZ hr hq0 ht hz ⟨s, ν, rfl, h⟩
theorem sw_retL (hr : mg_at j pc = some (1, .lreturn)) (hq0 : mt_ms[j]? = some q0) (ht : mj_r q0 = some .long) (h : Q (.inl (some (1, z))) s ν) : sw_w E d j (pc, L, [(1, z)]) s ν Q := nm_retL hr hq0 ht ⟨s, ν, rfl, h⟩
theorem sw_retA {C : String} (hr : mg_at j pc = some (1, .areturn)) (hq0 : mt_ms[j]? = some q0) (ht : mj_r q0 = some (.object C)) (h : Q (.inl (some (2, z))) s ν) : sw_w E d j (pc, L, [(2, z)]) s ν Q := nm_retA hr hq0 ht ⟨s, ν, rfl, h⟩
theorem sw_retR {ty : FieldType} (hr : mg_at j pc = some (1, .areturn)) (hq0 : mt_ms[j]? = some q0) (ht : mj_r q0 = some (.array ty)) (h : Q (.inl (some (2, z))) s ν) : sw_w E d j (pc, L, [(2, z)]) s ν Q := nm_retR hr hq0 ht ⟨s, ν, rfl, h⟩
theorem sw_cnt {c r : Int} : nm_cnt (sw_o ν s) c r = sw_o ν (nm_cnt s c r) := by
  funext q i
  by_cases hq : q = -1
  · subst hq
    rw [sw_n (by omega)]
    unfold nm_cnt
    rw [sw_n (by omega), sw_n (by omega), sw_n (by omega)]
  · rw [nm_cnt_ne hq]
    unfold sw_o
    rw [nm_cnt_ne hq, nm_cnt_ne hq]
theorem sw_thr {K : mv_K} {sz : Int} (hr : mg_at j pc = some (3, .instanceof n)) (hK : mt_cl[n]? = some K) (hKf : K.2.2.2.2 = []) (hsz : (K.2.2.2.1 : Int) = sz) (hS : decide (((mg_eS S).map fun v => v.category).sum ≤ 24) = true) (hd : 5 ≤ d) (h : Q (.inr n) (nm_cnt s 1 sz) ν) : sw_w E d j (pc, L, S) s ν Q := nm_thr hr hK hKf hsz hS hd ⟨nm_cnt s 1 sz, ν, sw_cnt, h⟩
theorem mm_cp_ne {μ : mm_T} {b q r : Int} (h : ¬ (q = b ∧ y ≤ r ∧ r < y + z)) : mm_cp μ b y a x z q r = μ q r := by unfold mm_cp; rw [if_neg h]
theorem mm_cp_at {μ : mm_T} {b r : Int} (h : y ≤ r ∧ r < y + z) : mm_cp μ b y a x z b r = μ a (x + (r - y)) := by unfold mm_cp; rw [if_pos ⟨rfl, h⟩]
theorem sw_cp {b : Int} (ha : 0 ≤ a) (hb : 0 ≤ b) (hka : s a (-1) = 0) (hkb : s b (-1) = 0) (hx : 0 ≤ x) (hy : 0 ≤ y) : mm_cp (sw_o ν s) b y a x z = sw_o (mm_cp ν b y a x z) s := by
  funext q r
  by_cases h : q = b ∧ y ≤ r ∧ r < y + z
  · obtain ⟨rfl, h1⟩ := h
    rw [mm_cp_at h1, sw_a ha (by omega) (by omega), sw_a hb (by omega) (by omega), mm_cp_at h1]
  · rw [mm_cp_ne h]
    unfold sw_o
    rw [mm_cp_ne h]
theorem sw_cpy {b la lb : Int} (hr : mg_at j pc = some (3, .monitorenter)) (hn : pc + 3 = pn) (hab : a ≠ b) (ha : 0 ≤ a) (hb : 0 ≤ b) (hk : s a (-1) = 0) (hl : s a (-2) = la) (hkb : s b (-1) = 0) (hlb : s b (-2) = lb) (hx : 0 ≤ x ∧ x < 2147483648) (hy : 0 ≤ y ∧ y < 2147483648) (hz : 0 ≤ z ∧ z < 2147483648) (h1 : x + z ≤ la) (h2 : y + z ≤ lb) (hS : decide (((mg_eS S).map fun v => v.category).sum ≤ 24) = true) (kk : sw_w E d j (pn, L, S) s (mm_cp ν b y a x z) Q) : sw_w E d j (pc, L, (0, z) :: (0, y) :: (2, b) :: (0, x) :: (2, a) :: S) s ν Q := nm_cpy hr hn hab (by rw [sw_s (by omega)]; exact hk) (by rw [sw_s (by omega)]; exact hl) (by rw [sw_s (by omega)]; exact hkb) (by rw [sw_s (by omega)]; exact hlb) hx hy hz h1 h2 hS (by rw [sw_cp ha hb hk hkb hx.1 hy.1]; exact kk)
end SWB
end
section
/-! methods that come to one end: what they return, and memory then -/
def sw_is (v : Option mg_V) (s ν : mm_T) : nm_O → mm_T → mm_T → Prop := fun o s' ν' => o = .inl v ∧ s' = s ∧ ν' = ν
section SWC
variable {E : mv_E} {s ν s1 ν1 : mm_T} {d j pc pn j2 : Nat} {L L2 : mg_L} {S rest as2 : List mg_V} {Q : nm_O → mm_T → mm_T → Prop} {p : Int} {q0 q : mv_J} {v : Option mg_V}
theorem sw_cs1 (hr : mg_at j pc = some (3, .invokestatic j2)) (hn : pc + 3 = pn) (hq0 : mt_ms[j]? = some q0) (hh : mj_hr q0 = []) (hq : mt_ms[j2]? = some q) (hfit : (decide (mj_a q ≤ S.length) && decide (((mg_eS (S.drop (mj_a q))).map fun v => v.category).sum ≤ 8) && decide ((mg_ent (S.take (mj_a q)).reverse).length ≤ mj_n q)) = true) (hL : mg_in (mj_n q) (S.take (mj_a q)).reverse = L2) (hrest : S.drop (mj_a q) = rest)
    (w : sw_w E d j2 (0, L2, []) s ν (sw_is v s1 ν1)) (k : sw_w E (d + 1) j (pn, L, v.toList ++ rest) s1 ν1 Q) : sw_w E (d + 1) j (pc, L, S) s ν Q :=
  sw_cs hr hn hq0 hh hq hfit hL hrest w (fun _ _ _ h => by obtain ⟨h1, rfl, rfl⟩ := h; cases h1; exact k) (fun _ _ _ h => by cases h.1)
theorem sw_cv1 (hr : mg_at j pc = some (3, .invokevirtual j2)) (hn : pc + 3 = pn) (hq0 : mt_ms[j]? = some q0) (hh : mj_hr q0 = []) (hq : mt_ms[j2]? = some q) (hfit : (decide (mj_a q ≤ S.length) && decide (((mg_eS (S.drop (mj_a q))).map fun v => v.category).sum ≤ 8) && decide ((mg_ent (S.take (mj_a q)).reverse).length ≤ mj_n q)) = true) (has : (S.take (mj_a q)).reverse = (2, p) :: as2) (hL : mg_in (mj_n q) ((2, p) :: as2) = L2) (hrest : S.drop (mj_a q) = rest) (hc : s p (-1) = 100 + ((mj_k q : Nat) : Int))
    (w : sw_w E d j2 (0, L2, []) s ν (sw_is v s1 ν1)) (k : sw_w E (d + 1) j (pn, L, v.toList ++ rest) s1 ν1 Q) : sw_w E (d + 1) j (pc, L, S) s ν Q :=
  sw_cv hr hn hq0 hh hq hfit has hL hrest hc w (fun _ _ _ h => by obtain ⟨h1, rfl, rfl⟩ := h; cases h1; exact k) (fun _ _ _ h => by cases h.1)
theorem sw_ci1 (hr : mg_at j pc = some (3, .invokespecial j2)) (hn : pc + 3 = pn) (hq0 : mt_ms[j]? = some q0) (hh : mj_hr q0 = []) (hq : mt_ms[j2]? = some q) (hfit : (decide (mj_a q ≤ S.length) && decide (((mg_eS (S.drop (mj_a q))).map fun v => v.category).sum ≤ 8) && decide ((mg_ent (S.take (mj_a q)).reverse).length ≤ mj_n q)) = true) (has : (S.take (mj_a q)).reverse = (2, p) :: as2) (hL : mg_in (mj_n q) ((2, p) :: as2) = L2) (hrest : S.drop (mj_a q) = rest)
    (w : sw_w E d j2 (0, L2, []) s ν (sw_is v s1 ν1)) (k : sw_w E (d + 1) j (pn, L, v.toList ++ rest) s1 ν1 Q) : sw_w E (d + 1) j (pc, L, S) s ν Q :=
  sw_ci hr hn hq0 hh hq hfit has hL hrest w (fun _ _ _ h => by obtain ⟨h1, rfl, rfl⟩ := h; cases h1; exact k) (fun _ _ _ h => by cases h.1)
end SWC
/-! the reference's cells: the object is 0, each array has its field's number -/
def mo_fs : List (Int × Int × Int) := [(2, 0, 32), (3, 0, 8), (4, 0, 8), (5, 0, 8), (6, 0, 8), (7, 0, 8), (9, 0, 48), (10, 0, 16), (11, 1, 16), (13, 0, 40), (14, 0, 40), (15, 0, 40), (16, 0, 40), (17, 0, 120), (18, 0, 120), (19, 0, 40), (20, 0, 40), (25, 0, 512), (26, 0, 512), (27, 0, 512), (28, 2, 512), (29, 1, 4096), (30, 1, 4096)]
def mo_sh (s : mm_T) : Prop := s 0 (-1) = 106 ∧ ∀ f ∈ mo_fs, s 0 f.1 = f.1 ∧ s f.1 (-1) = f.2.1 ∧ s f.1 (-2) = f.2.2
theorem mo_s2 {s : mm_T} (hs : mo_sh s) : s 0 2 = 2 ∧ s 2 (-1) = 0 ∧ s 2 (-2) = 32 := hs.2 (2, 0, 32) (by decide)
theorem mo_s3 {s : mm_T} (hs : mo_sh s) : s 0 3 = 3 ∧ s 3 (-1) = 0 ∧ s 3 (-2) = 8 := hs.2 (3, 0, 8) (by decide)
theorem mo_s4 {s : mm_T} (hs : mo_sh s) : s 0 4 = 4 ∧ s 4 (-1) = 0 ∧ s 4 (-2) = 8 := hs.2 (4, 0, 8) (by decide)
theorem mo_s5 {s : mm_T} (hs : mo_sh s) : s 0 5 = 5 ∧ s 5 (-1) = 0 ∧ s 5 (-2) = 8 := hs.2 (5, 0, 8) (by decide)
theorem mo_s6 {s : mm_T} (hs : mo_sh s) : s 0 6 = 6 ∧ s 6 (-1) = 0 ∧ s 6 (-2) = 8 := hs.2 (6, 0, 8) (by decide)
theorem mo_s7 {s : mm_T} (hs : mo_sh s) : s 0 7 = 7 ∧ s 7 (-1) = 0 ∧ s 7 (-2) = 8 := hs.2 (7, 0, 8) (by decide)
theorem mo_s9 {s : mm_T} (hs : mo_sh s) : s 0 9 = 9 ∧ s 9 (-1) = 0 ∧ s 9 (-2) = 48 := hs.2 (9, 0, 48) (by decide)
theorem mo_s10 {s : mm_T} (hs : mo_sh s) : s 0 10 = 10 ∧ s 10 (-1) = 0 ∧ s 10 (-2) = 16 := hs.2 (10, 0, 16) (by decide)
theorem mo_s11 {s : mm_T} (hs : mo_sh s) : s 0 11 = 11 ∧ s 11 (-1) = 1 ∧ s 11 (-2) = 16 := hs.2 (11, 1, 16) (by decide)
theorem mo_s13 {s : mm_T} (hs : mo_sh s) : s 0 13 = 13 ∧ s 13 (-1) = 0 ∧ s 13 (-2) = 40 := hs.2 (13, 0, 40) (by decide)
theorem mo_s14 {s : mm_T} (hs : mo_sh s) : s 0 14 = 14 ∧ s 14 (-1) = 0 ∧ s 14 (-2) = 40 := hs.2 (14, 0, 40) (by decide)
theorem mo_s15 {s : mm_T} (hs : mo_sh s) : s 0 15 = 15 ∧ s 15 (-1) = 0 ∧ s 15 (-2) = 40 := hs.2 (15, 0, 40) (by decide)
theorem mo_s16 {s : mm_T} (hs : mo_sh s) : s 0 16 = 16 ∧ s 16 (-1) = 0 ∧ s 16 (-2) = 40 := hs.2 (16, 0, 40) (by decide)
theorem mo_s17 {s : mm_T} (hs : mo_sh s) : s 0 17 = 17 ∧ s 17 (-1) = 0 ∧ s 17 (-2) = 120 := hs.2 (17, 0, 120) (by decide)
theorem mo_s18 {s : mm_T} (hs : mo_sh s) : s 0 18 = 18 ∧ s 18 (-1) = 0 ∧ s 18 (-2) = 120 := hs.2 (18, 0, 120) (by decide)
theorem mo_s19 {s : mm_T} (hs : mo_sh s) : s 0 19 = 19 ∧ s 19 (-1) = 0 ∧ s 19 (-2) = 40 := hs.2 (19, 0, 40) (by decide)
theorem mo_s20 {s : mm_T} (hs : mo_sh s) : s 0 20 = 20 ∧ s 20 (-1) = 0 ∧ s 20 (-2) = 40 := hs.2 (20, 0, 40) (by decide)
theorem mo_s25 {s : mm_T} (hs : mo_sh s) : s 0 25 = 25 ∧ s 25 (-1) = 0 ∧ s 25 (-2) = 512 := hs.2 (25, 0, 512) (by decide)
theorem mo_s26 {s : mm_T} (hs : mo_sh s) : s 0 26 = 26 ∧ s 26 (-1) = 0 ∧ s 26 (-2) = 512 := hs.2 (26, 0, 512) (by decide)
theorem mo_s27 {s : mm_T} (hs : mo_sh s) : s 0 27 = 27 ∧ s 27 (-1) = 0 ∧ s 27 (-2) = 512 := hs.2 (27, 0, 512) (by decide)
theorem mo_s28 {s : mm_T} (hs : mo_sh s) : s 0 28 = 28 ∧ s 28 (-1) = 2 ∧ s 28 (-2) = 512 := hs.2 (28, 2, 512) (by decide)
theorem mo_s29 {s : mm_T} (hs : mo_sh s) : s 0 29 = 29 ∧ s 29 (-1) = 1 ∧ s 29 (-2) = 4096 := hs.2 (29, 1, 4096) (by decide)
theorem mo_s30 {s : mm_T} (hs : mo_sh s) : s 0 30 = 30 ∧ s 30 (-1) = 1 ∧ s 30 (-2) = 4096 := hs.2 (30, 1, 4096) (by decide)
end
section
/-! longs compared -/
section LCM
variable {E : mv_E} {d j pc pn pt : Nat} {L : mg_L} {S : List mg_V} {s ν μ : mm_T} {Q : nm_O → mm_T → mm_T → Prop} {Qm : mg_R → mm_T → Prop} {x y : Int}
theorem mg_tl (h : -9223372036854775808 ≤ x ∧ x < 9223372036854775808) : (Int64.ofInt x).toInt = x := Int64.toInt_ofInt_of_le (by omega) (by omega)
theorem mg_eql (hx : -9223372036854775808 ≤ x ∧ x < 9223372036854775808) (hy : -9223372036854775808 ≤ y ∧ y < 9223372036854775808) : (Int64.ofInt x = Int64.ofInt y) ↔ x = y := by rw [← Int64.toInt_inj, mg_tl hx, mg_tl hy]
def mg_cm (x y : Int) : Int := if x < y then -1 else if x = y then 0 else 1
theorem mg_cm_ok (hx : -9223372036854775808 ≤ x ∧ x < 9223372036854775808) (hy : -9223372036854775808 ≤ y ∧ y < 9223372036854775808) : lg_cmp (Int64.ofInt x) (Int64.ofInt y) = Int32.ofInt (mg_cm x y) := by
  have h1 : Int64.ofInt x > Int64.ofInt y ↔ y < x := by rw [gt_iff_lt, Int64.lt_iff_toInt_lt, mg_tl hx, mg_tl hy]
  have h2 := mg_eql hx hy
  unfold lg_cmp mg_cm
  by_cases a : y < x
  · rw [if_pos (h1.mpr a), if_neg (by omega), if_neg (by omega)]
    rfl
  · rw [if_neg (fun h => a (h1.mp h))]
    by_cases e : x = y
    · rw [if_pos (h2.mpr e), if_neg (by omega), if_pos e]
      rfl
    · rw [if_neg (fun h => e (h2.mp h)), if_pos (by omega)]
      rfl
theorem mg_lcmp (hr : mg_at j pc = some (1, .lcmp)) (hn : pc + 1 = pn) (hx : -9223372036854775808 ≤ x ∧ x < 9223372036854775808) (hy : -9223372036854775808 ≤ y ∧ y < 9223372036854775808) (k : mg_w E d j (pn, L, (0, mg_cm x y) :: S) μ Qm) : mg_w E d j (pc, L, (1, y) :: (1, x) :: S) μ Qm := by
  subst hn
  have e : mv_step E mt_cl mt_ty mt_as .lcmp (pc + 1) (mg_eL L) (mg_eS ((1, y) :: (1, x) :: S)) (mm_h E μ) = some ((pc + 1, mg_eL L, Value.int (lg_cmp (Int64.ofInt x) (Int64.ofInt y)) :: mg_eS S), mm_h E μ) := rfl
  exact mg_step (f' := (pc + 1, L, (0, mg_cm x y) :: S)) hr rfl (by rw [e, mg_cm_ok hx hy]; rfl) k
theorem sw_lcmp (hr : mg_at j pc = some (1, .lcmp)) (hn : pc + 1 = pn) (hx : -9223372036854775808 ≤ x ∧ x < 9223372036854775808) (hy : -9223372036854775808 ≤ y ∧ y < 9223372036854775808) (k : sw_w E d j (pn, L, (0, mg_cm x y) :: S) s ν Q) : sw_w E d j (pc, L, (1, y) :: (1, x) :: S) s ν Q := fun A μ hR hk => mg_lcmp (L := nm_l A L) (S := nm_s A S) hr hn hx hy (k A μ hR (nm_kf_cons (pc := 0) (nm_kv0 (by decide)) (nm_kf2 hk)))
theorem mg_cm_b : -1 ≤ mg_cm x y ∧ mg_cm x y ≤ 1 := by
  unfold mg_cm
  split
  · omega
  · split <;> omega
theorem mg_cm_0 : mg_cm x y = 0 ↔ x = y := by
  unfold mg_cm
  split
  · omega
  · split <;> omega
/-- compared, and gone on where they differ -/
theorem sw_lcn {t : Int} (hr : mg_at j pc = some (1, .lcmp)) (hr2 : mg_at j (pc + 1) = some (3, .ifCond .ne t)) (ht : t.toNat = pt) (hn : pc + 1 + 3 = pn) (hx : -9223372036854775808 ≤ x ∧ x < 9223372036854775808) (hy : -9223372036854775808 ≤ y ∧ y < 9223372036854775808) (k1 : x ≠ y → sw_w E d j (pt, L, S) s ν Q) (k2 : x = y → sw_w E d j (pn, L, S) s ν Q) : sw_w E d j (pc, L, (1, y) :: (1, x) :: S) s ν Q :=
  sw_lcmp hr rfl hx hy (sw_ne1 hr2 ht hn (by have := mg_cm_b (x := x) (y := y); omega) (fun h => k1 (fun e => h (mg_cm_0.mpr e))) (fun h => k2 (mg_cm_0.mp h)))
theorem sw_lcq {t : Int} (hr : mg_at j pc = some (1, .lcmp)) (hr2 : mg_at j (pc + 1) = some (3, .ifCond .eq t)) (ht : t.toNat = pt) (hn : pc + 1 + 3 = pn) (hx : -9223372036854775808 ≤ x ∧ x < 9223372036854775808) (hy : -9223372036854775808 ≤ y ∧ y < 9223372036854775808) (k1 : x = y → sw_w E d j (pt, L, S) s ν Q) (k2 : x ≠ y → sw_w E d j (pn, L, S) s ν Q) : sw_w E d j (pc, L, (1, y) :: (1, x) :: S) s ν Q :=
  sw_lcmp hr rfl hx hy (sw_eq1 hr2 ht hn (by have := mg_cm_b (x := x) (y := y); omega) (fun h => k1 (mg_cm_0.mp h)) (fun h => k2 (fun e => h (mg_cm_0.mpr e))))
end LCM
/-! sums -/
def sm_s (g : Int → Int) : Nat → Int
  | 0 => 0
  | n + 1 => sm_s g n + g n
theorem sm_su {g : Int → Int} {i : Int} (h : 0 ≤ i) : sm_s g (i + 1).toNat = sm_s g i.toNat + g i := by
  rw [show (i + 1).toNat = i.toNat + 1 by omega, sm_s, show ((i.toNat : Nat) : Int) = i by omega]
theorem sm_b {g : Int → Int} {M : Int} (h : ∀ i, 0 ≤ i → 0 ≤ g i ∧ g i ≤ M) : ∀ n : Nat, 0 ≤ sm_s g n ∧ sm_s g n ≤ M * n
  | 0 => by simp [sm_s]
  | n + 1 => by
    have h1 := sm_b h n
    have h2 := h n (by omega)
    rw [sm_s]
    refine ⟨by omega, ?_⟩
    have e : M * ((n + 1 : Nat) : Int) = M * (n : Int) + M := by rw [Int.natCast_succ, Int.mul_add, Int.mul_one]
    omega
theorem sm_c {g g' : Int → Int} : ∀ n : Nat, (∀ i : Int, 0 ≤ i → i < n → g i = g' i) → sm_s g n = sm_s g' n
  | 0, _ => rfl
  | n + 1, h => by rw [sm_s, sm_s, sm_c n (fun i h1 h2 => h i h1 (by omega)), h n (by omega) (by omega)]
end
section
/-! the reference: small methods -/
section MO1
variable {E : mv_E} {s ν : mm_T} {d : Nat} {v lo hi b c k : Int}
theorem mo_within (hv : -2147483648 ≤ v ∧ v < 2147483648) (hlo : -2147483648 ≤ lo ∧ lo < 2147483648) (hhi : -2147483648 ≤ hi ∧ hi < 2147483648) : sw_w E d 85 (0, [some (0, v), some (0, lo), some (0, hi)], []) s ν (sw_is (some (0, if lo ≤ v ∧ v ≤ hi then 1 else 0)) s ν) := by
  refine sw_p 2 (f' := (2, [some (0, v), some (0, lo), some (0, hi)], [(0, lo), (0, v)])) rfl ?_
  refine sw_lt2 (pt := 14) (pn := 5) rfl rfl rfl (by omega) (by omega) (fun h1 => ?_) (fun h1 => ?_)
  · skip
    refine sw_p 1 (f' := (15, [some (0, v), some (0, lo), some (0, hi)], [(0, 0)])) rfl ?_
    exact sw_retZ rfl rfl rfl (by omega) ⟨by first | rw [if_pos (by omega)] | rw [if_neg (by omega)] | rfl, rfl, rfl⟩
  · skip
    refine sw_p 2 (f' := (7, [some (0, v), some (0, lo), some (0, hi)], [(0, hi), (0, v)])) rfl ?_
    refine sw_gt2 (pt := 14) (pn := 10) rfl rfl rfl (by omega) (by omega) (fun h2 => ?_) (fun h2 => ?_)
    · skip
      refine sw_p 1 (f' := (15, [some (0, v), some (0, lo), some (0, hi)], [(0, 0)])) rfl ?_
      exact sw_retZ rfl rfl rfl (by omega) ⟨by first | rw [if_pos (by omega)] | rw [if_neg (by omega)] | rfl, rfl, rfl⟩
    · skip
      refine sw_p 2 (f' := (15, [some (0, v), some (0, lo), some (0, hi)], [(0, 1)])) rfl ?_
      exact sw_retZ rfl rfl rfl (by omega) ⟨by first | rw [if_pos (by omega)] | rw [if_neg (by omega)] | rfl, rfl, rfl⟩
theorem mo_isBridge (hs : mo_sh s) (hb : -2147483648 ≤ b ∧ b < 2147483648) (h0 : 0 ≤ ν 0 1 ∧ ν 0 1 ≤ 8) : sw_w E d 84 (0, [some (2, 0), some (0, b)], []) s ν (sw_is (some (0, if 0 ≤ b ∧ b < ν 0 1 then 1 else 0)) s ν) := by
  refine sw_p 1 (f' := (1, [some (2, 0), some (0, b)], [(0, b)])) rfl ?_
  refine sw_lt1 (pt := 16) (pn := 4) rfl rfl rfl (by omega) (fun h1 => ?_) (fun h1 => ?_)
  · skip
    refine sw_p 1 (f' := (17, [some (2, 0), some (0, b)], [(0, 0)])) rfl ?_
    exact sw_retZ rfl rfl rfl (by omega) ⟨by first | rw [if_pos (by omega)] | rw [if_neg (by omega)] | rfl, rfl, rfl⟩
  · skip
    refine sw_p 2 (f' := (6, [some (2, 0), some (0, b)], [(2, 0), (0, b)])) rfl ?_
    refine sw_gI (pn := 9) (i := 1) rfl rfl rfl rfl rfl (by omega) hs.1 ?_
    refine sw_ge2 (pt := 16) (pn := 12) rfl rfl rfl (by omega) (by omega) (fun h2 => ?_) (fun h2 => ?_)
    · skip
      refine sw_p 1 (f' := (17, [some (2, 0), some (0, b)], [(0, 0)])) rfl ?_
      exact sw_retZ rfl rfl rfl (by omega) ⟨by first | rw [if_pos (by omega)] | rw [if_neg (by omega)] | rfl, rfl, rfl⟩
    · skip
      refine sw_p 2 (f' := (17, [some (2, 0), some (0, b)], [(0, 1)])) rfl ?_
      exact sw_retZ rfl rfl rfl (by omega) ⟨by first | rw [if_pos (by omega)] | rw [if_neg (by omega)] | rfl, rfl, rfl⟩
theorem mo_isCard (hs : mo_sh s) (hc : -2147483648 ≤ c ∧ c < 2147483648) (h0 : 0 ≤ ν 0 12 ∧ ν 0 12 ≤ 40) : sw_w E d 112 (0, [some (2, 0), some (0, c)], []) s ν (sw_is (some (0, if 0 ≤ c ∧ c < ν 0 12 then 1 else 0)) s ν) := by
  refine sw_p 1 (f' := (1, [some (2, 0), some (0, c)], [(0, c)])) rfl ?_
  refine sw_lt1 (pt := 16) (pn := 4) rfl rfl rfl (by omega) (fun h1 => ?_) (fun h1 => ?_)
  · skip
    refine sw_p 1 (f' := (17, [some (2, 0), some (0, c)], [(0, 0)])) rfl ?_
    exact sw_retZ rfl rfl rfl (by omega) ⟨by first | rw [if_pos (by omega)] | rw [if_neg (by omega)] | rfl, rfl, rfl⟩
  · skip
    refine sw_p 2 (f' := (6, [some (2, 0), some (0, c)], [(2, 0), (0, c)])) rfl ?_
    refine sw_gI (pn := 9) (i := 12) rfl rfl rfl rfl rfl (by omega) hs.1 ?_
    refine sw_ge2 (pt := 16) (pn := 12) rfl rfl rfl (by omega) (by omega) (fun h2 => ?_) (fun h2 => ?_)
    · skip
      refine sw_p 1 (f' := (17, [some (2, 0), some (0, c)], [(0, 0)])) rfl ?_
      exact sw_retZ rfl rfl rfl (by omega) ⟨by first | rw [if_pos (by omega)] | rw [if_neg (by omega)] | rfl, rfl, rfl⟩
    · skip
      refine sw_p 2 (f' := (17, [some (2, 0), some (0, c)], [(0, 1)])) rfl ?_
      exact sw_retZ rfl rfl rfl (by omega) ⟨by first | rw [if_pos (by omega)] | rw [if_neg (by omega)] | rfl, rfl, rfl⟩
theorem mo_thrown (hs : mo_sh s) : sw_w E d 82 (0, [some (2, 0)], []) s ν (sw_is (some (0, ν 0 0)) s ν) := by
  refine sw_p 1 (f' := (1, [some (2, 0)], [(2, 0)])) rfl ?_
  refine sw_gI (pn := 4) (i := 0) rfl rfl rfl rfl rfl (by omega) hs.1 ?_
  exact sw_retI rfl rfl rfl ⟨by first | rw [if_pos (by omega)] | rw [if_neg (by omega)] | rfl, rfl, rfl⟩
theorem mo_isThere (hs : mo_sh s) (hc : 0 ≤ c ∧ c < 40) (h0 : 0 ≤ ν 15 c ∧ ν 15 c ≤ 5) : sw_w E d 94 (0, [some (2, 0), some (0, c)], []) s ν (sw_is (some (0, if 1 ≤ ν 15 c ∧ ν 15 c ≤ 3 then 1 else 0)) s ν) := by
  refine sw_p 1 (f' := (1, [some (2, 0), some (0, c)], [(2, 0)])) rfl ?_
  refine sw_hA (pn := 4) (i := 15) (v := 15) rfl rfl rfl rfl rfl hs.1 (mo_s15 hs).1 (by omega) ?_
  refine sw_p 1 (f' := (5, [some (2, 0), some (0, c)], [(0, c), (2, 15)])) rfl ?_
  refine sw_ial (pn := 6) (l := 40) rfl rfl (by omega) (mo_s15 hs).2.1 (mo_s15 hs).2.2 (by omega) (by omega) ?_
  refine sw_p 1 (f' := (7, [some (2, 0), some (0, c)], [(0, 1), (0, ν 15 c)])) rfl ?_
  refine sw_eq2 (pt := 30) (pn := 10) rfl rfl rfl (by omega) (by omega) (fun h1 => ?_) (fun h1 => ?_)
  · skip
    refine sw_p 2 (f' := (35, [some (2, 0), some (0, c)], [(0, 1)])) rfl ?_
    exact sw_retZ rfl rfl rfl (by omega) ⟨by first | rw [if_pos (by omega)] | rw [if_neg (by omega)] | rfl, rfl, rfl⟩
  · skip
    refine sw_p 1 (f' := (11, [some (2, 0), some (0, c)], [(2, 0)])) rfl ?_
    refine sw_hA (pn := 14) (i := 15) (v := 15) rfl rfl rfl rfl rfl hs.1 (mo_s15 hs).1 (by omega) ?_
    refine sw_p 1 (f' := (15, [some (2, 0), some (0, c)], [(0, c), (2, 15)])) rfl ?_
    refine sw_ial (pn := 16) (l := 40) rfl rfl (by omega) (mo_s15 hs).2.1 (mo_s15 hs).2.2 (by omega) (by omega) ?_
    refine sw_p 1 (f' := (17, [some (2, 0), some (0, c)], [(0, 2), (0, ν 15 c)])) rfl ?_
    refine sw_eq2 (pt := 30) (pn := 20) rfl rfl rfl (by omega) (by omega) (fun h2 => ?_) (fun h2 => ?_)
    · skip
      refine sw_p 2 (f' := (35, [some (2, 0), some (0, c)], [(0, 1)])) rfl ?_
      exact sw_retZ rfl rfl rfl (by omega) ⟨by first | rw [if_pos (by omega)] | rw [if_neg (by omega)] | rfl, rfl, rfl⟩
    · skip
      refine sw_p 1 (f' := (21, [some (2, 0), some (0, c)], [(2, 0)])) rfl ?_
      refine sw_hA (pn := 24) (i := 15) (v := 15) rfl rfl rfl rfl rfl hs.1 (mo_s15 hs).1 (by omega) ?_
      refine sw_p 1 (f' := (25, [some (2, 0), some (0, c)], [(0, c), (2, 15)])) rfl ?_
      refine sw_ial (pn := 26) (l := 40) rfl rfl (by omega) (mo_s15 hs).2.1 (mo_s15 hs).2.2 (by omega) (by omega) ?_
      refine sw_p 1 (f' := (27, [some (2, 0), some (0, c)], [(0, 3), (0, ν 15 c)])) rfl ?_
      refine sw_ne2 (pt := 34) (pn := 30) rfl rfl rfl (by omega) (by omega) (fun h3 => ?_) (fun h3 => ?_)
      · skip
        refine sw_p 1 (f' := (35, [some (2, 0), some (0, c)], [(0, 0)])) rfl ?_
        exact sw_retZ rfl rfl rfl (by omega) ⟨by first | rw [if_pos (by omega)] | rw [if_neg (by omega)] | rfl, rfl, rfl⟩
      · skip
        refine sw_p 2 (f' := (35, [some (2, 0), some (0, c)], [(0, 1)])) rfl ?_
        exact sw_retZ rfl rfl rfl (by omega) ⟨by first | rw [if_pos (by omega)] | rw [if_neg (by omega)] | rfl, rfl, rfl⟩
theorem mo_sizeOf (hs : mo_sh s) (hc : 0 ≤ c ∧ c < 40) (hk : 0 ≤ k ∧ k < 3) (h0 : 0 ≤ ν 13 c ∧ ν 13 c < 16) : sw_w E d 100 (0, [some (2, 0), some (0, c), some (0, k)], []) s ν (sw_is (some (0, ν 9 (3 * ν 13 c + k))) s ν) := by
  refine sw_p 1 (f' := (1, [some (2, 0), some (0, c), some (0, k)], [(2, 0)])) rfl ?_
  refine sw_hA (pn := 4) (i := 9) (v := 9) rfl rfl rfl rfl rfl hs.1 (mo_s9 hs).1 (by omega) ?_
  refine sw_p 2 (f' := (6, [some (2, 0), some (0, c), some (0, k)], [(2, 0), (0, 3), (2, 9)])) rfl ?_
  refine sw_hA (pn := 9) (i := 13) (v := 13) rfl rfl rfl rfl rfl hs.1 (mo_s13 hs).1 (by omega) ?_
  refine sw_p 1 (f' := (10, [some (2, 0), some (0, c), some (0, k)], [(0, c), (2, 13), (0, 3), (2, 9)])) rfl ?_
  refine sw_ial (pn := 11) (l := 40) rfl rfl (by omega) (mo_s13 hs).2.1 (mo_s13 hs).2.2 (by omega) (by omega) ?_
  refine sw_p 3 (f' := (14, [some (2, 0), some (0, c), some (0, k)], [(0, (3 * (ν 13 c)) + k), (2, 9)])) rfl ?_
  refine sw_ial (pn := 15) (l := 48) rfl rfl (by omega) (mo_s9 hs).2.1 (mo_s9 hs).2.2 (by omega) (by omega) ?_
  exact sw_retI rfl rfl rfl ⟨rfl, rfl, rfl⟩
end MO1
end
section
/-! the reference: loops over bridges and cards -/
/-- how many bridges stand over: k, the one over k, and so on -/
def mo_cnt (ν : mm_T) : Nat → Int → Int
  | 0, _ => 0
  | f + 1, k => if k < 0 then 0 else 1 + mo_cnt ν f (ν 3 k)
/-- is b among k, the one over k, and so on -/
def mo_un (ν : mm_T) (b : Int) : Nat → Int → Int
  | 0, _ => 0
  | f + 1, k => if k < 0 then 0 else if k = b then 1 else mo_un ν b f (ν 3 k)
/-- over every bridge stands one with a lower number -/
def mo_ov (ν : mm_T) : Prop := ∀ k, 0 ≤ k → k < 8 → -1 ≤ ν 3 k ∧ ν 3 k < k
theorem mo_cnt_b (ν : mm_T) : ∀ (f : Nat) (k : Int), 0 ≤ mo_cnt ν f k ∧ mo_cnt ν f k ≤ f
  | 0, k => by simp [mo_cnt]
  | f + 1, k => by
    have := mo_cnt_b ν f (ν 3 k)
    unfold mo_cnt
    split <;> omega
theorem mo_un_b (ν : mm_T) (b : Int) : ∀ (f : Nat) (k : Int), mo_un ν b f k = 0 ∨ mo_un ν b f k = 1
  | 0, k => Or.inl rfl
  | f + 1, k => by
    have := mo_un_b ν b f (ν 3 k)
    unfold mo_un
    split
    · exact Or.inl rfl
    · split
      · exact Or.inr rfl
      · exact this
section MO2
variable {E : mv_E} {s ν : mm_T} {d : Nat} {b c : Int}
theorem mo_depthOf_l (hs : mo_sh s) (ho : mo_ov ν) : ∀ (f : Nat) (n k : Int), k < f → f ≤ 8 → 0 ≤ n ∧ n + f ≤ 100 → -1 ≤ k → sw_w E d 86 (9, [some (2, 0), some (0, b), some (0, n), some (0, k)], []) s ν (sw_is (some (0, n + mo_cnt ν f k)) s ν) := by
  intro f
  induction f with
  | zero =>
    intro n k hk hf hn hk0
    refine sw_p 1 (f' := (10, [some (2, 0), some (0, b), some (0, n), some (0, k)], [(0, k)])) rfl ?_
    refine sw_lt1 (pt := 26) (pn := 13) rfl rfl rfl (by omega) (fun h1 => ?_) (fun h1 => ?_)
    · skip
      refine sw_p 1 (f' := (27, [some (2, 0), some (0, b), some (0, n), some (0, k)], [(0, n)])) rfl ?_
      exact sw_retI rfl rfl rfl ⟨by simp [mo_cnt], rfl, rfl⟩
    · skip
      omega
  | succ f ih =>
    intro n k hk hf hn hk0
    have hov := ho k
    refine sw_p 1 (f' := (10, [some (2, 0), some (0, b), some (0, n), some (0, k)], [(0, k)])) rfl ?_
    refine sw_lt1 (pt := 26) (pn := 13) rfl rfl rfl (by omega) (fun h1 => ?_) (fun h1 => ?_)
    · skip
      refine sw_p 1 (f' := (27, [some (2, 0), some (0, b), some (0, n), some (0, k)], [(0, n)])) rfl ?_
      exact sw_retI rfl rfl rfl ⟨by unfold mo_cnt; rw [if_pos (by omega), Int.add_zero], rfl, rfl⟩
    · skip
      refine sw_p 2 (f' := (17, [some (2, 0), some (0, b), some (0, n + 1), some (0, k)], [(2, 0)])) rfl ?_
      refine sw_hA (pn := 20) (i := 3) (v := 3) rfl rfl rfl rfl rfl hs.1 (mo_s3 hs).1 (by omega) ?_
      refine sw_p 1 (f' := (21, [some (2, 0), some (0, b), some (0, n + 1), some (0, k)], [(0, k), (2, 3)])) rfl ?_
      refine sw_ial (pn := 22) (l := 8) rfl rfl (by omega) (mo_s3 hs).2.1 (mo_s3 hs).2.2 (by omega) (by omega) ?_
      refine sw_p 2 (f' := (9, [some (2, 0), some (0, b), some (0, n + 1), some (0, ν 3 k)], [])) rfl ?_
      have e : n + mo_cnt ν (f + 1) k = n + 1 + mo_cnt ν f (ν 3 k) := by rw [mo_cnt, if_neg (by omega)]; omega
      rw [e]
      exact ih (n + 1) (ν 3 k) (by omega) (by omega) (by omega) (by omega)
theorem mo_depthOf (hs : mo_sh s) (ho : mo_ov ν) (hb : 0 ≤ b ∧ b < 8) : sw_w E d 86 (0, [some (2, 0), some (0, b), none, none], []) s ν (sw_is (some (0, mo_cnt ν 8 (ν 3 b))) s ν) := by
  have hov := ho b
  refine sw_p 3 (f' := (3, [some (2, 0), some (0, b), some (0, 0), none], [(2, 0)])) rfl ?_
  refine sw_hA (pn := 6) (i := 3) (v := 3) rfl rfl rfl rfl rfl hs.1 (mo_s3 hs).1 (by omega) ?_
  refine sw_p 1 (f' := (7, [some (2, 0), some (0, b), some (0, 0), none], [(0, b), (2, 3)])) rfl ?_
  refine sw_ial (pn := 8) (l := 8) rfl rfl (by omega) (mo_s3 hs).2.1 (mo_s3 hs).2.2 (by omega) (by omega) ?_
  refine sw_p 1 (f' := (9, [some (2, 0), some (0, b), some (0, 0), some (0, ν 3 b)], [])) rfl ?_
  exact (by have h := mo_depthOf_l (E := E) (d := d) (b := b) hs ho 8 0 (ν 3 b) (by omega) (by omega) (by omega) (by omega); rw [Int.zero_add] at h; exact h)
theorem mo_hangs_l (hs : mo_sh s) (ho : mo_ov ν) (hb : 0 ≤ b ∧ b < 8) : ∀ (f : Nat) (k : Int), k < f → f ≤ 8 → -1 ≤ k → sw_w E d 95 (7, [some (2, 0), some (0, c), some (0, b), some (0, k)], []) s ν (sw_is (some (0, mo_un ν b f k)) s ν) := by
  intro f
  induction f with
  | zero =>
    intro k hk hf hk0
    refine sw_p 1 (f' := (8, [some (2, 0), some (0, c), some (0, b), some (0, k)], [(0, k)])) rfl ?_
    refine sw_lt1 (pt := 26) (pn := 11) rfl rfl rfl (by omega) (fun h1 => ?_) (fun h1 => ?_)
    · skip
      refine sw_p 1 (f' := (27, [some (2, 0), some (0, c), some (0, b), some (0, k)], [(0, k)])) rfl ?_
      refine sw_lt1 (pt := 34) (pn := 30) rfl rfl rfl (by omega) (fun h2 => ?_) (fun h2 => ?_)
      · skip
        refine sw_p 1 (f' := (35, [some (2, 0), some (0, c), some (0, b), some (0, k)], [(0, 0)])) rfl ?_
        exact sw_retZ rfl rfl rfl (by omega) ⟨by first | rfl | (exfalso; omega), rfl, rfl⟩
      · skip
        omega
    · skip
      omega
  | succ f ih =>
    intro k hk hf hk0
    have hov := ho k
    refine sw_p 1 (f' := (8, [some (2, 0), some (0, c), some (0, b), some (0, k)], [(0, k)])) rfl ?_
    refine sw_lt1 (pt := 26) (pn := 11) rfl rfl rfl (by omega) (fun h1 => ?_) (fun h1 => ?_)
    · skip
      refine sw_p 1 (f' := (27, [some (2, 0), some (0, c), some (0, b), some (0, k)], [(0, k)])) rfl ?_
      refine sw_lt1 (pt := 34) (pn := 30) rfl rfl rfl (by omega) (fun h2 => ?_) (fun h2 => ?_)
      · skip
        refine sw_p 1 (f' := (35, [some (2, 0), some (0, c), some (0, b), some (0, k)], [(0, 0)])) rfl ?_
        exact sw_retZ rfl rfl rfl (by omega) ⟨by unfold mo_un; first | (exfalso; omega) | rw [if_pos (by omega)] | rw [if_neg (by omega), if_pos (by omega)], rfl, rfl⟩
      · skip
        refine sw_p 2 (f' := (35, [some (2, 0), some (0, c), some (0, b), some (0, k)], [(0, 1)])) rfl ?_
        exact sw_retZ rfl rfl rfl (by omega) ⟨by unfold mo_un; first | (exfalso; omega) | rw [if_pos (by omega)] | rw [if_neg (by omega), if_pos (by omega)], rfl, rfl⟩
    · skip
      refine sw_p 2 (f' := (13, [some (2, 0), some (0, c), some (0, b), some (0, k)], [(0, b), (0, k)])) rfl ?_
      refine sw_eq2 (pt := 26) (pn := 16) rfl rfl rfl (by omega) (by omega) (fun h3 => ?_) (fun h3 => ?_)
      · skip
        refine sw_p 1 (f' := (27, [some (2, 0), some (0, c), some (0, b), some (0, k)], [(0, k)])) rfl ?_
        refine sw_lt1 (pt := 34) (pn := 30) rfl rfl rfl (by omega) (fun h4 => ?_) (fun h4 => ?_)
        · skip
          refine sw_p 1 (f' := (35, [some (2, 0), some (0, c), some (0, b), some (0, k)], [(0, 0)])) rfl ?_
          exact sw_retZ rfl rfl rfl (by omega) ⟨by unfold mo_un; first | (exfalso; omega) | rw [if_pos (by omega)] | rw [if_neg (by omega), if_pos (by omega)], rfl, rfl⟩
        · skip
          refine sw_p 2 (f' := (35, [some (2, 0), some (0, c), some (0, b), some (0, k)], [(0, 1)])) rfl ?_
          exact sw_retZ rfl rfl rfl (by omega) ⟨by unfold mo_un; first | (exfalso; omega) | rw [if_pos (by omega)] | rw [if_neg (by omega), if_pos (by omega)], rfl, rfl⟩
      · skip
        refine sw_p 1 (f' := (17, [some (2, 0), some (0, c), some (0, b), some (0, k)], [(2, 0)])) rfl ?_
        refine sw_hA (pn := 20) (i := 3) (v := 3) rfl rfl rfl rfl rfl hs.1 (mo_s3 hs).1 (by omega) ?_
        refine sw_p 1 (f' := (21, [some (2, 0), some (0, c), some (0, b), some (0, k)], [(0, k), (2, 3)])) rfl ?_
        refine sw_ial (pn := 22) (l := 8) rfl rfl (by omega) (mo_s3 hs).2.1 (mo_s3 hs).2.2 (by omega) (by omega) ?_
        refine sw_p 2 (f' := (7, [some (2, 0), some (0, c), some (0, b), some (0, ν 3 k)], [])) rfl ?_
        have e : mo_un ν b (f + 1) k = mo_un ν b f (ν 3 k) := by rw [mo_un, if_neg (by omega), if_neg (by omega)]
        rw [e]
        exact ih (ν 3 k) (by omega) (by omega) (by omega)
theorem mo_hangs (hs : mo_sh s) (ho : mo_ov ν) (hb : 0 ≤ b ∧ b < 8) (hc : 0 ≤ c ∧ c < 40) (h0 : 0 ≤ ν 14 c ∧ ν 14 c < 8) : sw_w E d 95 (0, [some (2, 0), some (0, c), some (0, b), none], []) s ν (sw_is (some (0, mo_un ν b 8 (ν 14 c))) s ν) := by
  refine sw_p 1 (f' := (1, [some (2, 0), some (0, c), some (0, b), none], [(2, 0)])) rfl ?_
  refine sw_hA (pn := 4) (i := 14) (v := 14) rfl rfl rfl rfl rfl hs.1 (mo_s14 hs).1 (by omega) ?_
  refine sw_p 1 (f' := (5, [some (2, 0), some (0, c), some (0, b), none], [(0, c), (2, 14)])) rfl ?_
  refine sw_ial (pn := 6) (l := 40) rfl rfl (by omega) (mo_s14 hs).2.1 (mo_s14 hs).2.2 (by omega) (by omega) ?_
  refine sw_p 1 (f' := (7, [some (2, 0), some (0, c), some (0, b), some (0, ν 14 c)], [])) rfl ?_
  exact mo_hangs_l hs ho hb 8 _ (by omega) (by omega) (by omega)
end MO2
end
section
/-! the reference: sums and searches over cards and tickets; marks -/
def mo_th (ν : mm_T) (c : Int) : Int := if 1 ≤ ν 15 c ∧ ν 15 c ≤ 3 then 1 else 0
theorem mo_th_b (ν : mm_T) (c : Int) : mo_th ν c = 0 ∨ mo_th ν c = 1 := by unfold mo_th; split <;> omega
/-- what a card adds to the power under b -/
def mo_pwc (ν : mm_T) (b c : Int) : Int := if mo_th ν c = 0 then 0 else if mo_un ν b 8 (ν 14 c) = 0 then 0 else ν 10 (ν 13 c)
def mo_pw (ν : mm_T) (b : Int) : Int := sm_s (mo_pwc ν b) (ν 0 12).toNat
/-- is t a ticket of c that is pending -/
def mo_pd (ν : mm_T) (c t : Int) : Int := if ν 25 t = c ∧ ν 28 t = 1099511627776 then 1 else 0
def mo_wt (ν : mm_T) (c : Int) : Int := sm_s (mo_pd ν c) (ν 0 24).toNat
/-- the first of the tickets 0 .. n - 1 of c that is pending, or r -/
def mo_fi (ν : mm_T) (c r : Int) : Nat → Int
  | 0 => r
  | n + 1 => mo_fi ν c (if mo_pd ν c n = 1 then n else r) n
/-- bounds of what stands in the reference's cells -/
def mo_B (ν : mm_T) : Prop := (1 ≤ ν 0 1 ∧ ν 0 1 ≤ 8) ∧ (0 ≤ ν 0 8 ∧ ν 0 8 ≤ 16) ∧ (0 ≤ ν 0 12 ∧ ν 0 12 ≤ 40) ∧ (-1 ≤ ν 0 21 ∧ ν 0 21 < ν 0 12) ∧ (ν 0 22 = 0 ∨ ν 0 22 = 1) ∧ (0 ≤ ν 0 24 ∧ ν 0 24 ≤ 512) ∧
  (∀ k, 0 ≤ k → k < 8 → -1 ≤ ν 3 k ∧ ν 3 k < k) ∧ (∀ k, 0 ≤ k → k < 32 → -1 ≤ ν 2 k ∧ ν 2 k < 140) ∧ (∀ k, 0 ≤ k → k < 8 → 0 ≤ ν 4 k ∧ ν 4 k ≤ 1000) ∧
  (∀ k, 0 ≤ k → k < 16 → 0 ≤ ν 10 k ∧ ν 10 k ≤ 1000) ∧ (∀ c, 0 ≤ c → c < 40 → (0 ≤ ν 13 c ∧ ν 13 c < 16) ∧ (0 ≤ ν 14 c ∧ ν 14 c < 8) ∧ (0 ≤ ν 15 c ∧ ν 15 c ≤ 5) ∧ (0 ≤ ν 19 c ∧ ν 19 c ≤ 8)) ∧
  (∀ k, 0 ≤ k → k < 48 → 0 ≤ ν 9 k ∧ ν 9 k ≤ 1024) ∧ (∀ k, 0 ≤ k → k < 120 → -1 ≤ ν 17 k ∧ ν 17 k ≤ 4096) ∧
  (∀ t, 0 ≤ t → t < 512 → (0 ≤ ν 25 t ∧ ν 25 t < 40) ∧ (0 ≤ ν 26 t ∧ ν 26 t < 2147483648) ∧ (-4398046511104 ≤ ν 28 t ∧ ν 28 t ≤ 4398046511104))
theorem mo_B.ov {ν : mm_T} (h : mo_B ν) : mo_ov ν := h.2.2.2.2.2.2.1
theorem mo_B.cd {ν : mm_T} (h : mo_B ν) : ∀ c, 0 ≤ c → c < 40 → (0 ≤ ν 13 c ∧ ν 13 c < 16) ∧ (0 ≤ ν 14 c ∧ ν 14 c < 8) ∧ (0 ≤ ν 15 c ∧ ν 15 c ≤ 5) ∧ (0 ≤ ν 19 c ∧ ν 19 c ≤ 8) := h.2.2.2.2.2.2.2.2.2.2.1
theorem mo_B.tk {ν : mm_T} (h : mo_B ν) : ∀ t, 0 ≤ t → t < 512 → (0 ≤ ν 25 t ∧ ν 25 t < 40) ∧ (0 ≤ ν 26 t ∧ ν 26 t < 2147483648) ∧ (-4398046511104 ≤ ν 28 t ∧ ν 28 t ≤ 4398046511104) := h.2.2.2.2.2.2.2.2.2.2.2.2.2
theorem mo_B.pw {ν : mm_T} (h : mo_B ν) : ∀ k, 0 ≤ k → k < 16 → 0 ≤ ν 10 k ∧ ν 10 k ≤ 1000 := h.2.2.2.2.2.2.2.2.2.1
section MO3
variable {E : mv_E} {s ν : mm_T} {d : Nat} {b c r x y w : Int}
theorem mo_isThere2 (hs : mo_sh s) (hc : 0 ≤ c ∧ c < 40) (h0 : 0 ≤ ν 15 c ∧ ν 15 c ≤ 5) : sw_w E d 94 (0, [some (2, 0), some (0, c)], []) s ν (sw_is (some (0, mo_th ν c)) s ν) := mo_isThere hs hc h0
theorem mo_powerOf_l (hs : mo_sh s) (hB : mo_B ν) (hb : 0 ≤ b ∧ b < 8) : ∀ (m : Nat) (i : Int), 0 ≤ i → i + m = ν 0 12 → sw_w E (d + 1) 93 (4, [some (2, 0), some (0, b), some (0, sm_s (mo_pwc ν b) i.toNat), some (0, i)], []) s ν (sw_is (some (0, mo_pw ν b)) s ν) := by
  intro m
  induction m with
  | zero =>
    intro i hi him
    have h12 := hB.2.2.1
    refine sw_p 2 (f' := (6, [some (2, 0), some (0, b), some (0, sm_s (mo_pwc ν b) i.toNat), some (0, i)], [(2, 0), (0, i)])) rfl ?_
    refine sw_gI (pn := 9) (i := 12) rfl rfl rfl rfl rfl (by omega) hs.1 ?_
    refine sw_ge2 (pt := 53) (pn := 12) rfl rfl rfl (by omega) (by omega) (fun h1 => ?_) (fun h1 => ?_)
    · skip
      refine sw_p 1 (f' := (54, [some (2, 0), some (0, b), some (0, sm_s (mo_pwc ν b) i.toNat), some (0, i)], [(0, sm_s (mo_pwc ν b) i.toNat)])) rfl ?_
      exact sw_retI rfl rfl rfl ⟨by rw [show i = ν 0 12 by omega]; rfl, rfl, rfl⟩
    · skip
      omega
  | succ m ih =>
    intro i hi him
    have h12 := hB.2.2.1
    have hcd := hB.cd i hi (by omega)
    have hpw := hB.pw (ν 13 i)
    have hth := mo_th_b ν i
    have hun := mo_un_b ν b 8 (ν 14 i)
    refine sw_p 2 (f' := (6, [some (2, 0), some (0, b), some (0, sm_s (mo_pwc ν b) i.toNat), some (0, i)], [(2, 0), (0, i)])) rfl ?_
    refine sw_gI (pn := 9) (i := 12) rfl rfl rfl rfl rfl (by omega) hs.1 ?_
    refine sw_ge2 (pt := 53) (pn := 12) rfl rfl rfl (by omega) (by omega) (fun h1 => ?_) (fun h1 => ?_)
    · skip
      refine sw_p 1 (f' := (54, [some (2, 0), some (0, b), some (0, sm_s (mo_pwc ν b) i.toNat), some (0, i)], [(0, sm_s (mo_pwc ν b) i.toNat)])) rfl ?_
      exact sw_retI rfl rfl rfl (absurd him (by omega))
    · skip
      refine sw_p 2 (f' := (14, [some (2, 0), some (0, b), some (0, sm_s (mo_pwc ν b) i.toNat), some (0, i)], [(0, i), (2, 0)])) rfl ?_
      refine sw_cv1 (pn := 17) (q0 := mj_Mo_powerOf) (q := mj_Mo_isThere) (p := 0) (as2 := [(0, i)]) (L2 := [some (2, 0), some (0, i)]) (rest := []) (v := some (0, mo_th ν i)) (s1 := s) (ν1 := ν) rfl rfl rfl rfl rfl rfl rfl rfl rfl hs.1 (mo_isThere2 hs (by omega) (by omega)) ?_
      show sw_w E _ 93 (17, [some (2, 0), some (0, b), some (0, sm_s (mo_pwc ν b) i.toNat), some (0, i)], [(0, mo_th ν i)]) s ν _
      refine sw_eq1 (pt := 45) (pn := 20) rfl rfl rfl (by omega) (fun h2 => ?_) (fun h2 => ?_)
      · skip
        refine sw_p 4 (f' := (4, [some (2, 0), some (0, b), some (0, sm_s (mo_pwc ν b) i.toNat), some (0, i + 1)], [])) rfl ?_
        have e : sm_s (mo_pwc ν b) (i + 1).toNat = sm_s (mo_pwc ν b) i.toNat := by
          rw [sm_su hi]
          unfold mo_pwc
          rw [if_pos (by omega)]
          exact Int.add_zero _
        rw [← e]
        exact ih (i + 1) (by omega) (by omega)
      · skip
        refine sw_p 3 (f' := (23, [some (2, 0), some (0, b), some (0, sm_s (mo_pwc ν b) i.toNat), some (0, i)], [(0, b), (0, i), (2, 0)])) rfl ?_
        refine sw_cv1 (pn := 26) (q0 := mj_Mo_powerOf) (q := mj_Mo_hangsUnder) (p := 0) (as2 := [(0, i), (0, b)]) (L2 := [some (2, 0), some (0, i), some (0, b), none]) (rest := []) (v := some (0, mo_un ν b 8 (ν 14 i))) (s1 := s) (ν1 := ν) rfl rfl rfl rfl rfl rfl rfl rfl rfl hs.1 (mo_hangs hs hB.ov (by omega) (by omega) (by omega)) ?_
        show sw_w E _ 93 (26, [some (2, 0), some (0, b), some (0, sm_s (mo_pwc ν b) i.toNat), some (0, i)], [(0, mo_un ν b 8 (ν 14 i))]) s ν _
        refine sw_eq1 (pt := 45) (pn := 29) rfl rfl rfl (by omega) (fun h3 => ?_) (fun h3 => ?_)
        · skip
          refine sw_p 4 (f' := (4, [some (2, 0), some (0, b), some (0, sm_s (mo_pwc ν b) i.toNat), some (0, i + 1)], [])) rfl ?_
          have e : sm_s (mo_pwc ν b) (i + 1).toNat = sm_s (mo_pwc ν b) i.toNat := by
            rw [sm_su hi]
            unfold mo_pwc
            rw [if_neg (by omega), if_pos (by omega)]
            exact Int.add_zero _
          rw [← e]
          exact ih (i + 1) (by omega) (by omega)
        · skip
          refine sw_p 2 (f' := (31, [some (2, 0), some (0, b), some (0, sm_s (mo_pwc ν b) i.toNat), some (0, i)], [(2, 0), (0, sm_s (mo_pwc ν b) i.toNat)])) rfl ?_
          refine sw_hA (pn := 34) (i := 10) (v := 10) rfl rfl rfl rfl rfl hs.1 (mo_s10 hs).1 (by omega) ?_
          refine sw_p 1 (f' := (35, [some (2, 0), some (0, b), some (0, sm_s (mo_pwc ν b) i.toNat), some (0, i)], [(2, 0), (2, 10), (0, sm_s (mo_pwc ν b) i.toNat)])) rfl ?_
          refine sw_hA (pn := 38) (i := 13) (v := 13) rfl rfl rfl rfl rfl hs.1 (mo_s13 hs).1 (by omega) ?_
          refine sw_p 1 (f' := (39, [some (2, 0), some (0, b), some (0, sm_s (mo_pwc ν b) i.toNat), some (0, i)], [(0, i), (2, 13), (2, 10), (0, sm_s (mo_pwc ν b) i.toNat)])) rfl ?_
          refine sw_ial (pn := 40) (l := 40) rfl rfl (by omega) (mo_s13 hs).2.1 (mo_s13 hs).2.2 (by omega) (by omega) ?_
          refine sw_ial (pn := 41) (l := 16) rfl rfl (by omega) (mo_s10 hs).2.1 (mo_s10 hs).2.2 (by omega) (by omega) ?_
          refine sw_p 5 (f' := (4, [some (2, 0), some (0, b), some (0, (sm_s (mo_pwc ν b) i.toNat) + (ν 10 (ν 13 i))), some (0, i + 1)], [])) rfl ?_
          have e : sm_s (mo_pwc ν b) (i + 1).toNat = (sm_s (mo_pwc ν b) i.toNat) + (ν 10 (ν 13 i)) := by
            rw [sm_su hi]
            unfold mo_pwc
            rw [if_neg (by omega), if_neg (by omega)]
          rw [← e]
          exact ih (i + 1) (by omega) (by omega)
theorem mo_powerOf (hs : mo_sh s) (hB : mo_B ν) (hb : 0 ≤ b ∧ b < 8) : sw_w E (d + 1) 93 (0, [some (2, 0), some (0, b), none, none], []) s ν (sw_is (some (0, mo_pw ν b)) s ν) := by
  have h12 := hB.2.2.1
  refine sw_p 4 (f' := (4, [some (2, 0), some (0, b), some (0, 0), some (0, 0)], [])) rfl ?_
  exact mo_powerOf_l hs hB hb (ν 0 12).toNat 0 (by omega) (by omega)
theorem mo_waiting_l (hs : mo_sh s) (hB : mo_B ν) (hc : -2147483648 ≤ c ∧ c < 2147483648) : ∀ (m : Nat) (i : Int), 0 ≤ i → i + m = ν 0 24 → sw_w E d 117 (4, [some (2, 0), some (0, c), some (0, sm_s (mo_pd ν c) i.toNat), some (0, i)], []) s ν (sw_is (some (0, mo_wt ν c)) s ν) := by
  intro m
  induction m with
  | zero =>
    intro i hi him
    have h12 := hB.2.2.2.2.2.1
    refine sw_p 2 (f' := (6, [some (2, 0), some (0, c), some (0, sm_s (mo_pd ν c) i.toNat), some (0, i)], [(2, 0), (0, i)])) rfl ?_
    refine sw_gI (pn := 9) (i := 24) rfl rfl rfl rfl rfl (by omega) hs.1 ?_
    refine sw_ge2 (pt := 49) (pn := 12) rfl rfl rfl (by omega) (by omega) (fun h1 => ?_) (fun h1 => ?_)
    · skip
      refine sw_p 1 (f' := (50, [some (2, 0), some (0, c), some (0, sm_s (mo_pd ν c) i.toNat), some (0, i)], [(0, sm_s (mo_pd ν c) i.toNat)])) rfl ?_
      exact sw_retI rfl rfl rfl ⟨by rw [show i = ν 0 24 by omega]; rfl, rfl, rfl⟩
    · skip
      omega
  | succ m ih =>
    intro i hi him
    have h12 := hB.2.2.2.2.2.1
    have htk := hB.tk i hi (by omega)
    refine sw_p 2 (f' := (6, [some (2, 0), some (0, c), some (0, sm_s (mo_pd ν c) i.toNat), some (0, i)], [(2, 0), (0, i)])) rfl ?_
    refine sw_gI (pn := 9) (i := 24) rfl rfl rfl rfl rfl (by omega) hs.1 ?_
    refine sw_ge2 (pt := 49) (pn := 12) rfl rfl rfl (by omega) (by omega) (fun h1 => ?_) (fun h1 => ?_)
    · skip
      refine sw_p 1 (f' := (50, [some (2, 0), some (0, c), some (0, sm_s (mo_pd ν c) i.toNat), some (0, i)], [(0, sm_s (mo_pd ν c) i.toNat)])) rfl ?_
      exact sw_retI rfl rfl rfl (absurd him (by omega))
    · skip
      refine sw_p 1 (f' := (13, [some (2, 0), some (0, c), some (0, sm_s (mo_pd ν c) i.toNat), some (0, i)], [(2, 0)])) rfl ?_
      refine sw_hA (pn := 16) (i := 25) (v := 25) rfl rfl rfl rfl rfl hs.1 (mo_s25 hs).1 (by omega) ?_
      refine sw_p 1 (f' := (17, [some (2, 0), some (0, c), some (0, sm_s (mo_pd ν c) i.toNat), some (0, i)], [(0, i), (2, 25)])) rfl ?_
      refine sw_ial (pn := 18) (l := 512) rfl rfl (by omega) (mo_s25 hs).2.1 (mo_s25 hs).2.2 (by omega) (by omega) ?_
      refine sw_p 1 (f' := (19, [some (2, 0), some (0, c), some (0, sm_s (mo_pd ν c) i.toNat), some (0, i)], [(0, c), (0, ν 25 i)])) rfl ?_
      refine sw_ne2 (pt := 41) (pn := 22) rfl rfl rfl (by omega) (by omega) (fun h2 => ?_) (fun h2 => ?_)
      · skip
        refine sw_p 4 (f' := (4, [some (2, 0), some (0, c), some (0, sm_s (mo_pd ν c) i.toNat), some (0, i + 1)], [])) rfl ?_
        have e : sm_s (mo_pd ν c) (i + 1).toNat = sm_s (mo_pd ν c) i.toNat := by
          rw [sm_su hi]
          unfold mo_pd
          rw [if_neg (by omega)]
          exact Int.add_zero _
        rw [← e]
        exact ih (i + 1) (by omega) (by omega)
      · skip
        refine sw_p 1 (f' := (23, [some (2, 0), some (0, c), some (0, sm_s (mo_pd ν c) i.toNat), some (0, i)], [(2, 0)])) rfl ?_
        refine sw_hA (pn := 26) (i := 28) (v := 28) rfl rfl rfl rfl rfl hs.1 (mo_s28 hs).1 (by omega) ?_
        refine sw_p 1 (f' := (27, [some (2, 0), some (0, c), some (0, sm_s (mo_pd ν c) i.toNat), some (0, i)], [(0, i), (2, 28)])) rfl ?_
        refine sw_lal (pn := 28) (l := 512) rfl rfl (by omega) (mo_s28 hs).2.1 (mo_s28 hs).2.2 (by omega) (by omega) ?_
        refine sw_p 1 (f' := (31, [some (2, 0), some (0, c), some (0, sm_s (mo_pd ν c) i.toNat), some (0, i)], [(1, 1099511627776), (1, ν 28 i)])) rfl ?_
        refine sw_lcn (pt := 41) (pn := 35) rfl rfl rfl rfl (by omega) (by omega) (fun h3 => ?_) (fun h3 => ?_)
        · skip
          refine sw_p 4 (f' := (4, [some (2, 0), some (0, c), some (0, sm_s (mo_pd ν c) i.toNat), some (0, i + 1)], [])) rfl ?_
          have e : sm_s (mo_pd ν c) (i + 1).toNat = sm_s (mo_pd ν c) i.toNat := by
            rw [sm_su hi]
            unfold mo_pd
            rw [if_neg (by omega)]
            exact Int.add_zero _
          rw [← e]
          exact ih (i + 1) (by omega) (by omega)
        · skip
          refine sw_p 7 (f' := (4, [some (2, 0), some (0, c), some (0, (sm_s (mo_pd ν c) i.toNat) + 1), some (0, i + 1)], [])) rfl ?_
          have e : sm_s (mo_pd ν c) (i + 1).toNat = (sm_s (mo_pd ν c) i.toNat) + 1 := by
            rw [sm_su hi]
            unfold mo_pd
            rw [if_pos (by omega)]
          rw [← e]
          exact ih (i + 1) (by omega) (by omega)
theorem mo_waiting (hs : mo_sh s) (hB : mo_B ν) (hc : -2147483648 ≤ c ∧ c < 2147483648) : sw_w E d 117 (0, [some (2, 0), some (0, c), none, none], []) s ν (sw_is (some (0, mo_wt ν c)) s ν) := by
  have h12 := hB.2.2.2.2.2.1
  refine sw_p 4 (f' := (4, [some (2, 0), some (0, c), some (0, 0), some (0, 0)], [])) rfl ?_
  exact mo_waiting_l hs hB hc (ν 0 24).toNat 0 (by omega) (by omega)
theorem mo_firstOf_l (hs : mo_sh s) (hB : mo_B ν) (hc : -2147483648 ≤ c ∧ c < 2147483648) : ∀ (n : Nat) (r : Int), (n : Int) ≤ 512 → sw_w E d 115 (9, [some (2, 0), some (0, c), some (0, r), some (0, (n : Int) - 1)], []) s ν (sw_is (some (0, mo_fi ν c r n)) s ν) := by
  intro n
  induction n with
  | zero =>
    intro r hn
    refine sw_p 1 (f' := (10, [some (2, 0), some (0, c), some (0, r), some (0, ((0 : Nat) : Int) - 1)], [(0, ((0 : Nat) : Int) - 1)])) rfl ?_
    refine sw_lt1 (pt := 48) (pn := 13) rfl rfl rfl (by omega) (fun h1 => ?_) (fun h1 => ?_)
    · skip
      refine sw_p 1 (f' := (49, [some (2, 0), some (0, c), some (0, r), some (0, ((0 : Nat) : Int) - 1)], [(0, r)])) rfl ?_
      exact sw_retI rfl rfl rfl ⟨rfl, rfl, rfl⟩
    · skip
      omega
  | succ n ih =>
    intro r hn
    have htk := hB.tk n (by omega) (by omega)
    rw [show ((n + 1 : Nat) : Int) - 1 = (n : Int) by omega]
    refine sw_p 1 (f' := (10, [some (2, 0), some (0, c), some (0, r), some (0, (n : Int))], [(0, (n : Int))])) rfl ?_
    refine sw_lt1 (pt := 48) (pn := 13) rfl rfl rfl (by omega) (fun h1 => ?_) (fun h1 => ?_)
    · skip
      refine sw_p 1 (f' := (49, [some (2, 0), some (0, c), some (0, r), some (0, (n : Int))], [(0, r)])) rfl ?_
      exact sw_retI rfl rfl rfl (absurd hn (by omega))
    · skip
      refine sw_p 1 (f' := (14, [some (2, 0), some (0, c), some (0, r), some (0, (n : Int))], [(2, 0)])) rfl ?_
      refine sw_hA (pn := 17) (i := 25) (v := 25) rfl rfl rfl rfl rfl hs.1 (mo_s25 hs).1 (by omega) ?_
      refine sw_p 1 (f' := (18, [some (2, 0), some (0, c), some (0, r), some (0, (n : Int))], [(0, (n : Int)), (2, 25)])) rfl ?_
      refine sw_ial (pn := 19) (l := 512) rfl rfl (by omega) (mo_s25 hs).2.1 (mo_s25 hs).2.2 (by omega) (by omega) ?_
      refine sw_p 1 (f' := (20, [some (2, 0), some (0, c), some (0, r), some (0, (n : Int))], [(0, c), (0, ν 25 ((n : Int)))])) rfl ?_
      refine sw_ne2 (pt := 40) (pn := 23) rfl rfl rfl (by omega) (by omega) (fun h2 => ?_) (fun h2 => ?_)
      · skip
        refine sw_p 4 (f' := (9, [some (2, 0), some (0, c), some (0, r), some (0, (n : Int) + (-1))], [])) rfl ?_
        have e : mo_fi ν c r (n + 1) = mo_fi ν c r n := by
          rw [mo_fi]
          unfold mo_pd
          rw [if_neg (by omega)]
        rw [e]
        exact ih r (by omega)
      · skip
        refine sw_p 1 (f' := (24, [some (2, 0), some (0, c), some (0, r), some (0, (n : Int))], [(2, 0)])) rfl ?_
        refine sw_hA (pn := 27) (i := 28) (v := 28) rfl rfl rfl rfl rfl hs.1 (mo_s28 hs).1 (by omega) ?_
        refine sw_p 1 (f' := (28, [some (2, 0), some (0, c), some (0, r), some (0, (n : Int))], [(0, (n : Int)), (2, 28)])) rfl ?_
        refine sw_lal (pn := 29) (l := 512) rfl rfl (by omega) (mo_s28 hs).2.1 (mo_s28 hs).2.2 (by omega) (by omega) ?_
        refine sw_p 1 (f' := (32, [some (2, 0), some (0, c), some (0, r), some (0, (n : Int))], [(1, 1099511627776), (1, ν 28 ((n : Int)))])) rfl ?_
        refine sw_lcn (pt := 40) (pn := 36) rfl rfl rfl rfl (by omega) (by omega) (fun h3 => ?_) (fun h3 => ?_)
        · skip
          refine sw_p 4 (f' := (9, [some (2, 0), some (0, c), some (0, r), some (0, (n : Int) + (-1))], [])) rfl ?_
          have e : mo_fi ν c r (n + 1) = mo_fi ν c r n := by
            rw [mo_fi]
            unfold mo_pd
            rw [if_neg (by omega)]
          rw [e]
          exact ih r (by omega)
        · skip
          refine sw_p 5 (f' := (9, [some (2, 0), some (0, c), some (0, (n : Int)), some (0, (n : Int) + (-1))], [])) rfl ?_
          have e : mo_fi ν c r (n + 1) = mo_fi ν c (n : Int) n := by
            rw [mo_fi]
            unfold mo_pd
            rw [if_pos (by omega)]
          rw [e]
          exact ih (n : Int) (by omega)
theorem mo_firstOf (hs : mo_sh s) (hB : mo_B ν) (hc : -2147483648 ≤ c ∧ c < 2147483648) : sw_w E d 115 (0, [some (2, 0), some (0, c), none, none], []) s ν (sw_is (some (0, mo_fi ν c (-1) (ν 0 24).toNat)) s ν) := by
  have h12 := hB.2.2.2.2.2.1
  refine sw_p 3 (f' := (3, [some (2, 0), some (0, c), some (0, -1), none], [(2, 0)])) rfl ?_
  refine sw_gI (pn := 6) (i := 24) rfl rfl rfl rfl rfl (by omega) hs.1 ?_
  refine sw_p 3 (f' := (9, [some (2, 0), some (0, c), some (0, -1), some (0, (ν 0 24) - 1)], [])) rfl ?_
  rw [show ν 0 24 - 1 = (((ν 0 24).toNat : Nat) : Int) - 1 by omega]
  exact mo_firstOf_l hs hB hc (ν 0 24).toNat (-1) (by omega)
end MO3
end
section
/-! the reference: loops that write -/
/-- memory with the places lo .. hi - 1 of p given by g -/
def rg_m (ν : mm_T) (p lo hi : Int) (g : Int → Int) : mm_T := fun a k => if a = p ∧ lo ≤ k ∧ k < hi then g k else ν a k
section RG
variable {ν : mm_T} {p lo hi a k z : Int} {g g' : Int → Int}
theorem rg_at (h : lo ≤ k ∧ k < hi) : rg_m ν p lo hi g p k = g k := by unfold rg_m; rw [if_pos ⟨rfl, h⟩]
theorem rg_ne (h : ¬ (a = p ∧ lo ≤ k ∧ k < hi)) : rg_m ν p lo hi g a k = ν a k := by unfold rg_m; rw [if_neg h]
theorem rg_0 (h : hi ≤ lo) : rg_m ν p lo hi g = ν := by funext a k; exact rg_ne (by omega)
theorem rg_u (h : lo ≤ hi) (hz : z = g hi) : mm_u (rg_m ν p lo hi g) p hi z = rg_m ν p lo (hi + 1) g := by
  funext a k
  by_cases h1 : a = p ∧ k = hi
  · obtain ⟨rfl, rfl⟩ := h1
    rw [mm_u_at, rg_at (by omega), hz]
  · rw [mm_u_ne h1]
    by_cases h2 : a = p ∧ lo ≤ k ∧ k < hi
    · obtain ⟨rfl, h2⟩ := h2
      rw [rg_at h2, rg_at (by omega)]
    · rw [rg_ne h2, rg_ne (fun h3 => if hk : k = hi then h1 ⟨h3.1, hk⟩ else h2 ⟨h3.1, h3.2.1, by omega⟩)]
theorem rg_s (h : lo ≤ hi) (hz : ν p hi = g hi) : rg_m ν p lo (hi + 1) g = rg_m ν p lo hi g := by
  funext a k
  by_cases h2 : a = p ∧ lo ≤ k ∧ k < hi
  · obtain ⟨rfl, h2⟩ := h2
    rw [rg_at h2, rg_at (by omega)]
  · rw [rg_ne h2]
    by_cases h1 : a = p ∧ k = hi
    · obtain ⟨rfl, rfl⟩ := h1
      rw [rg_at (by omega), hz]
    · exact rg_ne (fun h3 => if hk : k = hi then h1 ⟨h3.1, hk⟩ else h2 ⟨h3.1, h3.2.1, by omega⟩)
end RG
/-- the states of all cards that are in one state turned to another -/
def mo_ch (ν : mm_T) (x y : Int) : mm_T := rg_m ν 15 0 (ν 0 12) (fun k => if ν 15 k = x then y else ν 15 k)
/-- what is lost of the requests of c, but for one -/
def mo_lsg (ν : mm_T) (c w t : Int) : Int := if ν 25 t = c ∧ ν 28 t = 1099511627776 ∧ t ≠ w then 2199023255552 else ν 28 t
def mo_lsn (ν : mm_T) (c w t : Int) : Int := if ν 25 t = c ∧ ν 28 t = 1099511627776 ∧ t ≠ w then 1 else 0
def mo_ls (ν : mm_T) (c w : Int) : mm_T := rg_m ν 28 0 (ν 0 24) (mo_lsg ν c w)
/-- a card taken out -/
def mo_rm1 (ν : mm_T) (c y : Int) : mm_T := mm_u (mm_u ν 15 c y) 19 c 0
def mo_rm2 (ν : mm_T) (c y : Int) : mm_T := rg_m (mo_rm1 ν c y) 17 (3 * c) (3 * c + 3) (fun _ => -1)
def mo_rm3 (ν : mm_T) (c y : Int) : mm_T := rg_m (mo_rm2 ν c y) 2 0 32 (fun k => if ν 2 k = 100 + c then -1 else ν 2 k)
def mo_rm (ν : mm_T) (c y : Int) : mm_T := mm_u (mo_rm3 ν c y) 0 21 (if ν 0 21 = c then -1 else ν 0 21)
section MO4
variable {E : mv_E} {s ν : mm_T} {d : Nat} {b c r x y w p f g : Int}
theorem mo_mark_l (hp : 0 ≤ p) (hk : s p (-1) = 1) (hl : s p (-2) = 4096) (hx : 0 ≤ x) (hy : y ≤ 4096) (hxb : x < 2147483648) (hyb : -2147483648 ≤ y) : ∀ (m : Nat) (i : Int), x ≤ i → i + m = y ∨ (m = 0 ∧ y ≤ i ∧ i = x) → sw_w E d 99 (2, [some (2, p), some (0, x), some (0, y), some (0, i)], []) s (rg_m ν p x i (fun _ => 1)) (sw_is none s (rg_m ν p x y (fun _ => 1))) := by
  intro m
  induction m with
  | zero =>
    intro i hi him
    refine sw_p 2 (f' := (4, [some (2, p), some (0, x), some (0, y), some (0, i)], [(0, y), (0, i)])) rfl ?_
    refine sw_ge2 (pt := 17) (pn := 7) rfl rfl rfl (by omega) (by omega) (fun h1 => ?_) (fun h1 => ?_)
    · skip
      exact sw_retV rfl rfl rfl ⟨rfl, rfl, by rcases him with h | h; (· rw [show i = y by omega]); (· rw [rg_0 (by omega), rg_0 (by omega)])⟩
    · skip
      omega
  | succ m ih =>
    intro i hi him
    refine sw_p 2 (f' := (4, [some (2, p), some (0, x), some (0, y), some (0, i)], [(0, y), (0, i)])) rfl ?_
    refine sw_ge2 (pt := 17) (pn := 7) rfl rfl rfl (by omega) (by omega) (fun h1 => ?_) (fun h1 => ?_)
    · skip
      exact sw_retV rfl rfl rfl (absurd him (by omega))
    · skip
      refine sw_p 3 (f' := (10, [some (2, p), some (0, x), some (0, y), some (0, i)], [(0, 1), (0, i), (2, p)])) rfl ?_
      refine sw_bas (pn := 11) (l := 4096) rfl rfl (by omega) (by omega) hk hl (by omega) (by omega) ?_
      refine sw_p 2 (f' := (2, [some (2, p), some (0, x), some (0, y), some (0, i + 1)], [])) rfl ?_
      rw [rg_u (g := fun _ => 1) (by omega) rfl]
      exact ih (i + 1) (by omega) (by omega)
theorem mo_mark (hp : 0 ≤ p) (hk : s p (-1) = 1) (hl : s p (-2) = 4096) (hx : 0 ≤ x) (hy : y ≤ 4096) (hxb : x < 2147483648) (hyb : -2147483648 ≤ y) : sw_w E d 99 (0, [some (2, p), some (0, x), some (0, y), none], []) s ν (sw_is none s (rg_m ν p x y (fun _ => 1))) := by
  refine sw_p 2 (f' := (2, [some (2, p), some (0, x), some (0, y), some (0, x)], [])) rfl ?_
  have h := mo_mark_l (E := E) (d := d) (ν := ν) hp hk hl hx hy hxb hyb (y - x).toNat x (by omega) (by omega)
  rw [rg_0 (by omega)] at h
  exact h
theorem mo_change_l (hs : mo_sh s) (hB : mo_B ν) (hx : 0 ≤ x ∧ x ≤ 5) : ∀ (m : Nat) (i : Int), 0 ≤ i → i + m = ν 0 12 → sw_w E d 107 (2, [some (2, 0), some (0, x), some (0, y), some (0, i)], []) s (rg_m ν 15 0 i (fun k => if ν 15 k = x then y else ν 15 k)) (sw_is none s (mo_ch ν x y)) := by
  intro m
  induction m with
  | zero =>
    intro i hi him
    have h12 := hB.2.2.1
    refine sw_p 2 (f' := (4, [some (2, 0), some (0, x), some (0, y), some (0, i)], [(2, 0), (0, i)])) rfl ?_
    refine sw_gI (pn := 7) (i := 12) rfl rfl rfl rfl rfl (by omega) hs.1 ?_
    rw [show (rg_m ν 15 0 i (fun k => if ν 15 k = x then y else ν 15 k)) 0 12 = ν 0 12 from rg_ne (by omega)]
    refine sw_ge2 (pt := 42) (pn := 10) rfl rfl rfl (by omega) (by omega) (fun h1 => ?_) (fun h1 => ?_)
    · skip
      exact sw_retV rfl rfl rfl ⟨rfl, rfl, by rw [show i = ν 0 12 by omega]; rfl⟩
    · skip
      omega
  | succ m ih =>
    intro i hi him
    have h12 := hB.2.2.1
    have hcd := hB.cd i hi (by omega)
    refine sw_p 2 (f' := (4, [some (2, 0), some (0, x), some (0, y), some (0, i)], [(2, 0), (0, i)])) rfl ?_
    refine sw_gI (pn := 7) (i := 12) rfl rfl rfl rfl rfl (by omega) hs.1 ?_
    rw [show (rg_m ν 15 0 i (fun k => if ν 15 k = x then y else ν 15 k)) 0 12 = ν 0 12 from rg_ne (by omega)]
    refine sw_ge2 (pt := 42) (pn := 10) rfl rfl rfl (by omega) (by omega) (fun h1 => ?_) (fun h1 => ?_)
    · skip
      exact sw_retV rfl rfl rfl (absurd him (by omega))
    · skip
      refine sw_p 1 (f' := (11, [some (2, 0), some (0, x), some (0, y), some (0, i)], [(2, 0)])) rfl ?_
      refine sw_hA (pn := 14) (i := 15) (v := 15) rfl rfl rfl rfl rfl hs.1 (mo_s15 hs).1 (by omega) ?_
      refine sw_p 2 (f' := (16, [some (2, 0), some (0, x), some (0, y), some (0, i)], [(2, 0), (0, i), (2, 15)])) rfl ?_
      refine sw_hA (pn := 19) (i := 15) (v := 15) rfl rfl rfl rfl rfl hs.1 (mo_s15 hs).1 (by omega) ?_
      refine sw_p 1 (f' := (20, [some (2, 0), some (0, x), some (0, y), some (0, i)], [(0, i), (2, 15), (0, i), (2, 15)])) rfl ?_
      refine sw_ial (pn := 21) (l := 40) rfl rfl (by omega) (mo_s15 hs).2.1 (mo_s15 hs).2.2 (by omega) (by omega) ?_
      rw [show (rg_m ν 15 0 i (fun k => if ν 15 k = x then y else ν 15 k)) 15 i = ν 15 i from rg_ne (by omega)]
      refine sw_p 1 (f' := (22, [some (2, 0), some (0, x), some (0, y), some (0, i)], [(0, x), (0, ν 15 i), (0, i), (2, 15)])) rfl ?_
      refine sw_ne2 (pt := 29) (pn := 25) rfl rfl rfl (by omega) (by omega) (fun h2 => ?_) (fun h2 => ?_)
      · skip
        refine sw_p 1 (f' := (30, [some (2, 0), some (0, x), some (0, y), some (0, i)], [(2, 0), (0, i), (2, 15)])) rfl ?_
        refine sw_hA (pn := 33) (i := 15) (v := 15) rfl rfl rfl rfl rfl hs.1 (mo_s15 hs).1 (by omega) ?_
        refine sw_p 1 (f' := (34, [some (2, 0), some (0, x), some (0, y), some (0, i)], [(0, i), (2, 15), (0, i), (2, 15)])) rfl ?_
        refine sw_ial (pn := 35) (l := 40) rfl rfl (by omega) (mo_s15 hs).2.1 (mo_s15 hs).2.2 (by omega) (by omega) ?_
        rw [show (rg_m ν 15 0 i (fun k => if ν 15 k = x then y else ν 15 k)) 15 i = ν 15 i from rg_ne (by omega)]
        refine sw_ias (pn := 36) (l := 40) rfl rfl (by omega) (mo_s15 hs).2.1 (mo_s15 hs).2.2 (by omega) (by omega) ?_
        refine sw_p 2 (f' := (2, [some (2, 0), some (0, x), some (0, y), some (0, i + 1)], [])) rfl ?_
        rw [rg_u (by omega) (by rw [if_neg (by omega)])]
        exact ih (i + 1) (by omega) (by omega)
      · skip
        refine sw_p 2 (f' := (35, [some (2, 0), some (0, x), some (0, y), some (0, i)], [(0, y), (0, i), (2, 15)])) rfl ?_
        refine sw_ias (pn := 36) (l := 40) rfl rfl (by omega) (mo_s15 hs).2.1 (mo_s15 hs).2.2 (by omega) (by omega) ?_
        refine sw_p 2 (f' := (2, [some (2, 0), some (0, x), some (0, y), some (0, i + 1)], [])) rfl ?_
        rw [rg_u (by omega) (by rw [if_pos (by omega)])]
        exact ih (i + 1) (by omega) (by omega)
theorem mo_change (hs : mo_sh s) (hB : mo_B ν) (hx : 0 ≤ x ∧ x ≤ 5) : sw_w E d 107 (0, [some (2, 0), some (0, x), some (0, y), none], []) s ν (sw_is none s (mo_ch ν x y)) := by
  have h12 := hB.2.2.1
  refine sw_p 2 (f' := (2, [some (2, 0), some (0, x), some (0, y), some (0, 0)], [])) rfl ?_
  have h := mo_change_l (E := E) (d := d) (x := x) (y := y) hs hB hx (ν 0 12).toNat 0 (by omega) (by omega)
  rw [rg_0 (by omega)] at h
  exact h
theorem mo_lose_l (hs : mo_sh s) (hB : mo_B ν) (hc : 0 ≤ c ∧ c < 40) (hw : -1 ≤ w ∧ w < 512) : ∀ (m : Nat) (i : Int), 0 ≤ i → i + m = ν 0 24 → sw_w E d 113 (5, [some (2, 0), some (0, c), some (0, w), some (0, sm_s (mo_lsn ν c w) i.toNat), some (0, i)], []) s (rg_m ν 28 0 i (mo_lsg ν c w)) (sw_is (some (0, sm_s (mo_lsn ν c w) (ν 0 24).toNat)) s (mo_ls ν c w)) := by
  intro m
  induction m with
  | zero =>
    intro i hi him
    have h12 := hB.2.2.2.2.2.1
    refine sw_p 2 (f' := (8, [some (2, 0), some (0, c), some (0, w), some (0, sm_s (mo_lsn ν c w) i.toNat), some (0, i)], [(2, 0), (0, i)])) rfl ?_
    refine sw_gI (pn := 11) (i := 24) rfl rfl rfl rfl rfl (by omega) hs.1 ?_
    rw [show (rg_m ν 28 0 i (mo_lsg ν c w)) 0 24 = ν 0 24 from rg_ne (by omega)]
    refine sw_ge2 (pt := 64) (pn := 14) rfl rfl rfl (by omega) (by omega) (fun h1 => ?_) (fun h1 => ?_)
    · skip
      refine sw_p 1 (f' := (65, [some (2, 0), some (0, c), some (0, w), some (0, sm_s (mo_lsn ν c w) i.toNat), some (0, i)], [(0, sm_s (mo_lsn ν c w) i.toNat)])) rfl ?_
      exact sw_retI rfl rfl rfl ⟨by rw [show i = ν 0 24 by omega], rfl, by rw [show i = ν 0 24 by omega]; rfl⟩
    · skip
      omega
  | succ m ih =>
    intro i hi him
    have h12 := hB.2.2.2.2.2.1
    have htk := hB.tk i hi (by omega)
    refine sw_p 2 (f' := (8, [some (2, 0), some (0, c), some (0, w), some (0, sm_s (mo_lsn ν c w) i.toNat), some (0, i)], [(2, 0), (0, i)])) rfl ?_
    refine sw_gI (pn := 11) (i := 24) rfl rfl rfl rfl rfl (by omega) hs.1 ?_
    rw [show (rg_m ν 28 0 i (mo_lsg ν c w)) 0 24 = ν 0 24 from rg_ne (by omega)]
    refine sw_ge2 (pt := 64) (pn := 14) rfl rfl rfl (by omega) (by omega) (fun h1 => ?_) (fun h1 => ?_)
    · skip
      refine sw_p 1 (f' := (65, [some (2, 0), some (0, c), some (0, w), some (0, sm_s (mo_lsn ν c w) i.toNat), some (0, i)], [(0, sm_s (mo_lsn ν c w) i.toNat)])) rfl ?_
      exact sw_retI rfl rfl rfl (absurd him (by omega))
    · skip
      refine sw_p 1 (f' := (15, [some (2, 0), some (0, c), some (0, w), some (0, sm_s (mo_lsn ν c w) i.toNat), some (0, i)], [(2, 0)])) rfl ?_
      refine sw_hA (pn := 18) (i := 25) (v := 25) rfl rfl rfl rfl rfl hs.1 (mo_s25 hs).1 (by omega) ?_
      refine sw_p 1 (f' := (20, [some (2, 0), some (0, c), some (0, w), some (0, sm_s (mo_lsn ν c w) i.toNat), some (0, i)], [(0, i), (2, 25)])) rfl ?_
      refine sw_ial (pn := 21) (l := 512) rfl rfl (by omega) (mo_s25 hs).2.1 (mo_s25 hs).2.2 (by omega) (by omega) ?_
      rw [show (rg_m ν 28 0 i (mo_lsg ν c w)) 25 i = ν 25 i from rg_ne (by omega)]
      refine sw_p 1 (f' := (22, [some (2, 0), some (0, c), some (0, w), some (0, sm_s (mo_lsn ν c w) i.toNat), some (0, i)], [(0, c), (0, ν 25 i)])) rfl ?_
      refine sw_ne2 (pt := 58) (pn := 25) rfl rfl rfl (by omega) (by omega) (fun h2 => ?_) (fun h2 => ?_)
      · skip
        refine sw_p 2 (f' := (5, [some (2, 0), some (0, c), some (0, w), some (0, sm_s (mo_lsn ν c w) i.toNat), some (0, i + 1)], [])) rfl ?_
        have e : sm_s (mo_lsn ν c w) (i + 1).toNat = sm_s (mo_lsn ν c w) i.toNat := by
          rw [sm_su hi]
          unfold mo_lsn
          rw [if_neg (by omega)]
          exact Int.add_zero _
        rw [← e, ← rg_s (by omega) (by unfold mo_lsg; rw [if_neg (by omega)])]
        exact ih (i + 1) (by omega) (by omega)
      · skip
        refine sw_p 1 (f' := (26, [some (2, 0), some (0, c), some (0, w), some (0, sm_s (mo_lsn ν c w) i.toNat), some (0, i)], [(2, 0)])) rfl ?_
        refine sw_hA (pn := 29) (i := 28) (v := 28) rfl rfl rfl rfl rfl hs.1 (mo_s28 hs).1 (by omega) ?_
        refine sw_p 1 (f' := (31, [some (2, 0), some (0, c), some (0, w), some (0, sm_s (mo_lsn ν c w) i.toNat), some (0, i)], [(0, i), (2, 28)])) rfl ?_
        refine sw_lal (pn := 32) (l := 512) rfl rfl (by omega) (mo_s28 hs).2.1 (mo_s28 hs).2.2 (by omega) (by omega) ?_
        rw [show (rg_m ν 28 0 i (mo_lsg ν c w)) 28 i = ν 28 i from rg_ne (by omega)]
        refine sw_p 1 (f' := (35, [some (2, 0), some (0, c), some (0, w), some (0, sm_s (mo_lsn ν c w) i.toNat), some (0, i)], [(1, 1099511627776), (1, ν 28 i)])) rfl ?_
        refine sw_lcn (pt := 58) (pn := 39) rfl rfl rfl rfl (by omega) (by omega) (fun h3 => ?_) (fun h3 => ?_)
        · skip
          refine sw_p 2 (f' := (5, [some (2, 0), some (0, c), some (0, w), some (0, sm_s (mo_lsn ν c w) i.toNat), some (0, i + 1)], [])) rfl ?_
          have e : sm_s (mo_lsn ν c w) (i + 1).toNat = sm_s (mo_lsn ν c w) i.toNat := by
            rw [sm_su hi]
            unfold mo_lsn
            rw [if_neg (by omega)]
            exact Int.add_zero _
          rw [← e, ← rg_s (by omega) (by unfold mo_lsg; rw [if_neg (by omega)])]
          exact ih (i + 1) (by omega) (by omega)
        · skip
          refine sw_p 2 (f' := (42, [some (2, 0), some (0, c), some (0, w), some (0, sm_s (mo_lsn ν c w) i.toNat), some (0, i)], [(0, w), (0, i)])) rfl ?_
          refine sw_eq2 (pt := 58) (pn := 45) rfl rfl rfl (by omega) (by omega) (fun h4 => ?_) (fun h4 => ?_)
          · skip
            refine sw_p 2 (f' := (5, [some (2, 0), some (0, c), some (0, w), some (0, sm_s (mo_lsn ν c w) i.toNat), some (0, i + 1)], [])) rfl ?_
            have e : sm_s (mo_lsn ν c w) (i + 1).toNat = sm_s (mo_lsn ν c w) i.toNat := by
              rw [sm_su hi]
              unfold mo_lsn
              rw [if_neg (by omega)]
              exact Int.add_zero _
            rw [← e, ← rg_s (by omega) (by unfold mo_lsg; rw [if_neg (by omega)])]
            exact ih (i + 1) (by omega) (by omega)
          · skip
            refine sw_p 1 (f' := (46, [some (2, 0), some (0, c), some (0, w), some (0, sm_s (mo_lsn ν c w) i.toNat), some (0, i)], [(2, 0)])) rfl ?_
            refine sw_hA (pn := 49) (i := 28) (v := 28) rfl rfl rfl rfl rfl hs.1 (mo_s28 hs).1 (by omega) ?_
            refine sw_p 2 (f' := (54, [some (2, 0), some (0, c), some (0, w), some (0, sm_s (mo_lsn ν c w) i.toNat), some (0, i)], [(1, 2199023255552), (0, i), (2, 28)])) rfl ?_
            refine sw_las (pn := 55) (l := 512) rfl rfl (by omega) (mo_s28 hs).2.1 (mo_s28 hs).2.2 (by omega) (by omega) ?_
            refine sw_p 3 (f' := (5, [some (2, 0), some (0, c), some (0, w), some (0, sm_s (mo_lsn ν c w) i.toNat + 1), some (0, i + 1)], [])) rfl ?_
            have e : sm_s (mo_lsn ν c w) (i + 1).toNat = sm_s (mo_lsn ν c w) i.toNat + 1 := by
              rw [sm_su hi]
              unfold mo_lsn
              rw [if_pos (by omega)]
            rw [← e, rg_u (by omega) (by unfold mo_lsg; rw [if_pos (by omega)])]
            exact ih (i + 1) (by omega) (by omega)
theorem mo_lose (hs : mo_sh s) (hB : mo_B ν) (hc : 0 ≤ c ∧ c < 40) (hw : -1 ≤ w ∧ w < 512) : sw_w E d 113 (0, [some (2, 0), some (0, c), some (0, w), none, none], []) s ν (sw_is (some (0, sm_s (mo_lsn ν c w) (ν 0 24).toNat)) s (mo_ls ν c w)) := by
  have h12 := hB.2.2.2.2.2.1
  refine sw_p 4 (f' := (5, [some (2, 0), some (0, c), some (0, w), some (0, 0), some (0, 0)], [])) rfl ?_
  have h := mo_lose_l (E := E) (d := d) hs hB hc hw (ν 0 24).toNat 0 (by omega) (by omega)
  rw [rg_0 (by omega)] at h
  exact h
end MO4
end
section
/-! the reference: a card taken out; short public methods -/
section MO5
variable {E : mv_E} {s ν : mm_T} {d : Nat} {b c r x y w p f g k t : Int}
theorem mo_rm2_s : mo_rm2 ν c y 2 k = ν 2 k := by
  unfold mo_rm2 mo_rm1
  rw [rg_ne (by omega), mm_u_ne (by omega), mm_u_ne (by omega)]
theorem mo_rm3_0 : mo_rm3 ν c y 0 k = ν 0 k := by
  unfold mo_rm3 mo_rm2 mo_rm1
  rw [rg_ne (by omega), rg_ne (by omega), mm_u_ne (by omega), mm_u_ne (by omega)]
theorem mo_remove_2 (hs : mo_sh s) (hB : mo_B ν) (hc : 0 ≤ c ∧ c < 40) (hy : 0 ≤ y ∧ y ≤ 5) : ∀ (m : Nat) (i : Int), 0 ≤ i → i + m = 32 → sw_w E d 91 (40, [some (2, 0), some (0, c), some (0, y), some (0, i)], []) s (rg_m (mo_rm2 ν c y) 2 0 i (fun k => if ν 2 k = 100 + c then -1 else ν 2 k)) (sw_is none s (mo_rm ν c y)) := by
  intro m
  induction m with
  | zero =>
    intro i hi him
    have h12 := hB.2.2.1
    have h21 := hB.2.2.2.1
    rw [show rg_m (mo_rm2 ν c y) 2 0 i (fun k => if ν 2 k = 100 + c then -1 else ν 2 k) = mo_rm3 ν c y by rw [show i = 32 by omega]; rfl]
    refine sw_p 2 (f' := (43, [some (2, 0), some (0, c), some (0, y), some (0, i)], [(0, 32), (0, i)])) rfl ?_
    refine sw_ge2 (pt := 81) (pn := 46) rfl rfl rfl (by omega) (by omega) (fun h1 => ?_) (fun h1 => ?_)
    · skip
      refine sw_p 2 (f' := (83, [some (2, 0), some (0, c), some (0, y), some (0, i)], [(2, 0), (2, 0)])) rfl ?_
      refine sw_gI (pn := 86) (i := 21) rfl rfl rfl rfl rfl (by omega) hs.1 ?_
      rw [show (mo_rm3 ν c y) 0 21 = ν 0 21 from mo_rm3_0]
      refine sw_p 1 (f' := (87, [some (2, 0), some (0, c), some (0, y), some (0, i)], [(0, c), (0, ν 0 21), (2, 0)])) rfl ?_
      refine sw_ne2 (pt := 94) (pn := 90) rfl rfl rfl (by omega) (by omega) (fun h2 => ?_) (fun h2 => ?_)
      · skip
        refine sw_p 1 (f' := (95, [some (2, 0), some (0, c), some (0, y), some (0, i)], [(2, 0), (2, 0)])) rfl ?_
        refine sw_gI (pn := 98) (i := 21) rfl rfl rfl rfl rfl (by omega) hs.1 ?_
        rw [show (mo_rm3 ν c y) 0 21 = ν 0 21 from mo_rm3_0]
        refine sw_pI (pn := 101) (i := 21) rfl rfl rfl rfl rfl (by omega) hs.1 ?_
        exact sw_retV rfl rfl rfl ⟨rfl, rfl, by unfold mo_rm; rw [if_neg (by omega)]⟩
      · skip
        refine sw_p 2 (f' := (98, [some (2, 0), some (0, c), some (0, y), some (0, i)], [(0, -1), (2, 0)])) rfl ?_
        refine sw_pI (pn := 101) (i := 21) rfl rfl rfl rfl rfl (by omega) hs.1 ?_
        exact sw_retV rfl rfl rfl ⟨rfl, rfl, by unfold mo_rm; rw [if_pos (by omega)]⟩
    · skip
      omega
  | succ m ih =>
    intro i hi him
    have hsl := hB.2.2.2.2.2.2.2.1 i hi (by omega)
    refine sw_p 2 (f' := (43, [some (2, 0), some (0, c), some (0, y), some (0, i)], [(0, 32), (0, i)])) rfl ?_
    refine sw_ge2 (pt := 81) (pn := 46) rfl rfl rfl (by omega) (by omega) (fun h1 => ?_) (fun h1 => ?_)
    · skip
      omega
    · skip
      refine sw_p 1 (f' := (47, [some (2, 0), some (0, c), some (0, y), some (0, i)], [(2, 0)])) rfl ?_
      refine sw_hA (pn := 50) (i := 2) (v := 2) rfl rfl rfl rfl rfl hs.1 (mo_s2 hs).1 (by omega) ?_
      refine sw_p 2 (f' := (52, [some (2, 0), some (0, c), some (0, y), some (0, i)], [(2, 0), (0, i), (2, 2)])) rfl ?_
      refine sw_hA (pn := 55) (i := 2) (v := 2) rfl rfl rfl rfl rfl hs.1 (mo_s2 hs).1 (by omega) ?_
      refine sw_p 1 (f' := (56, [some (2, 0), some (0, c), some (0, y), some (0, i)], [(0, i), (2, 2), (0, i), (2, 2)])) rfl ?_
      refine sw_ial (pn := 57) (l := 32) rfl rfl (by omega) (mo_s2 hs).2.1 (mo_s2 hs).2.2 (by omega) (by omega) ?_
      rw [show (rg_m (mo_rm2 ν c y) 2 0 i (fun k => if ν 2 k = 100 + c then -1 else ν 2 k)) 2 i = ν 2 i from (rg_ne (by omega)).trans mo_rm2_s]
      refine sw_p 3 (f' := (61, [some (2, 0), some (0, c), some (0, y), some (0, i)], [(0, 100 + c), (0, ν 2 i), (0, i), (2, 2)])) rfl ?_
      refine sw_ne2 (pt := 68) (pn := 64) rfl rfl rfl (by omega) (by omega) (fun h2 => ?_) (fun h2 => ?_)
      · skip
        refine sw_p 1 (f' := (69, [some (2, 0), some (0, c), some (0, y), some (0, i)], [(2, 0), (0, i), (2, 2)])) rfl ?_
        refine sw_hA (pn := 72) (i := 2) (v := 2) rfl rfl rfl rfl rfl hs.1 (mo_s2 hs).1 (by omega) ?_
        refine sw_p 1 (f' := (73, [some (2, 0), some (0, c), some (0, y), some (0, i)], [(0, i), (2, 2), (0, i), (2, 2)])) rfl ?_
        refine sw_ial (pn := 74) (l := 32) rfl rfl (by omega) (mo_s2 hs).2.1 (mo_s2 hs).2.2 (by omega) (by omega) ?_
        rw [show (rg_m (mo_rm2 ν c y) 2 0 i (fun k => if ν 2 k = 100 + c then -1 else ν 2 k)) 2 i = ν 2 i from (rg_ne (by omega)).trans mo_rm2_s]
        refine sw_ias (pn := 75) (l := 32) rfl rfl (by omega) (mo_s2 hs).2.1 (mo_s2 hs).2.2 (by omega) (by omega) ?_
        refine sw_p 2 (f' := (40, [some (2, 0), some (0, c), some (0, y), some (0, i + 1)], [])) rfl ?_
        rw [rg_u (by omega) (by rw [if_neg (by omega)])]
        exact ih (i + 1) (by omega) (by omega)
      · skip
        refine sw_p 2 (f' := (74, [some (2, 0), some (0, c), some (0, y), some (0, i)], [(0, -1), (0, i), (2, 2)])) rfl ?_
        refine sw_ias (pn := 75) (l := 32) rfl rfl (by omega) (mo_s2 hs).2.1 (mo_s2 hs).2.2 (by omega) (by omega) ?_
        refine sw_p 2 (f' := (40, [some (2, 0), some (0, c), some (0, y), some (0, i + 1)], [])) rfl ?_
        rw [rg_u (by omega) (by rw [if_pos (by omega)])]
        exact ih (i + 1) (by omega) (by omega)
theorem mo_remove_1 (hs : mo_sh s) (hB : mo_B ν) (hc : 0 ≤ c ∧ c < 40) (hy : 0 ≤ y ∧ y ≤ 5) : ∀ (m : Nat) (i : Int), 0 ≤ i → i + m = 3 → sw_w E d 91 (16, [some (2, 0), some (0, c), some (0, y), some (0, i)], []) s (rg_m (mo_rm1 ν c y) 17 (3 * c) (3 * c + i) (fun _ => -1)) (sw_is none s (mo_rm ν c y)) := by
  intro m
  induction m with
  | zero =>
    intro i hi him
    rw [show (rg_m (mo_rm1 ν c y) 17 (3 * c) (3 * c + i) (fun _ => -1)) = mo_rm2 ν c y by rw [show i = 3 by omega]; rfl]
    refine sw_p 2 (f' := (18, [some (2, 0), some (0, c), some (0, y), some (0, i)], [(0, 3), (0, i)])) rfl ?_
    refine sw_ge2 (pt := 38) (pn := 21) rfl rfl rfl (by omega) (by omega) (fun h1 => ?_) (fun h1 => ?_)
    · skip
      refine sw_p 2 (f' := (40, [some (2, 0), some (0, c), some (0, y), some (0, 0)], [])) rfl ?_
      have h := mo_remove_2 (E := E) (d := d) hs hB hc hy 32 0 (by omega) (by omega)
      rw [rg_0 (by omega)] at h
      exact h
    · skip
      omega
  | succ m ih =>
    intro i hi him
    refine sw_p 2 (f' := (18, [some (2, 0), some (0, c), some (0, y), some (0, i)], [(0, 3), (0, i)])) rfl ?_
    refine sw_ge2 (pt := 38) (pn := 21) rfl rfl rfl (by omega) (by omega) (fun h1 => ?_) (fun h1 => ?_)
    · skip
      omega
    · skip
      refine sw_p 1 (f' := (22, [some (2, 0), some (0, c), some (0, y), some (0, i)], [(2, 0)])) rfl ?_
      refine sw_hA (pn := 25) (i := 17) (v := 17) rfl rfl rfl rfl rfl hs.1 (mo_s17 hs).1 (by omega) ?_
      refine sw_p 6 (f' := (31, [some (2, 0), some (0, c), some (0, y), some (0, i)], [(0, -1), (0, (3 * c) + i), (2, 17)])) rfl ?_
      refine sw_ias (pn := 32) (l := 120) rfl rfl (by omega) (mo_s17 hs).2.1 (mo_s17 hs).2.2 (by omega) (by omega) ?_
      refine sw_p 2 (f' := (16, [some (2, 0), some (0, c), some (0, y), some (0, i + 1)], [])) rfl ?_
      rw [rg_u (g := fun _ => -1) (by omega) rfl, show 3 * c + i + 1 = 3 * c + (i + 1) by omega]
      exact ih (i + 1) (by omega) (by omega)
theorem mo_remove (hs : mo_sh s) (hB : mo_B ν) (hc : 0 ≤ c ∧ c < 40) (hy : 0 ≤ y ∧ y ≤ 5) : sw_w E d 91 (0, [some (2, 0), some (0, c), some (0, y), none], []) s ν (sw_is none s (mo_rm ν c y)) := by
  refine sw_p 1 (f' := (1, [some (2, 0), some (0, c), some (0, y), none], [(2, 0)])) rfl ?_
  refine sw_hA (pn := 4) (i := 15) (v := 15) rfl rfl rfl rfl rfl hs.1 (mo_s15 hs).1 (by omega) ?_
  refine sw_p 2 (f' := (6, [some (2, 0), some (0, c), some (0, y), none], [(0, y), (0, c), (2, 15)])) rfl ?_
  refine sw_ias (pn := 7) (l := 40) rfl rfl (by omega) (mo_s15 hs).2.1 (mo_s15 hs).2.2 (by omega) (by omega) ?_
  refine sw_p 1 (f' := (8, [some (2, 0), some (0, c), some (0, y), none], [(2, 0)])) rfl ?_
  refine sw_hA (pn := 11) (i := 19) (v := 19) rfl rfl rfl rfl rfl hs.1 (mo_s19 hs).1 (by omega) ?_
  refine sw_p 2 (f' := (13, [some (2, 0), some (0, c), some (0, y), none], [(0, 0), (0, c), (2, 19)])) rfl ?_
  refine sw_ias (pn := 14) (l := 40) rfl rfl (by omega) (mo_s19 hs).2.1 (mo_s19 hs).2.2 (by omega) (by omega) ?_
  refine sw_p 2 (f' := (16, [some (2, 0), some (0, c), some (0, y), some (0, 0)], [])) rfl ?_
  have h := mo_remove_1 (E := E) (d := d) hs hB hc hy 3 0 (by omega) (by omega)
  rw [rg_0 (by omega)] at h
  exact h
theorem mo_movedp (hs : mo_sh s) (hB : mo_B ν)  : sw_w E (d + 1) 126 (0, [some (2, 0)], []) s ν (sw_is (some (0, ν 0 23)) s (mm_u ν 0 0 0)) := by
  refine sw_p 2 (f' := (2, [some (2, 0)], [(0, 0), (2, 0)])) rfl ?_
  refine sw_pI (pn := 5) (i := 0) rfl rfl rfl rfl rfl (by omega) hs.1 ?_
  refine sw_p 1 (f' := (6, [some (2, 0)], [(2, 0)])) rfl ?_
  refine sw_gI (pn := 9) (i := 23) rfl rfl rfl rfl rfl (by omega) hs.1 ?_
  rw [show (mm_u ν 0 0 0) 0 23 = ν 0 23 from mm_u_ne (by omega)]
  exact sw_retI rfl rfl rfl ⟨rfl, rfl, rfl⟩
end MO5
end
section
/-! the reference: what is asked of it -/
/-- memory with the code of the last call -/
abbrev mo_cd (ν : mm_T) (z : Int) : mm_T := mm_u ν 0 0 z
theorem mo_cd_ne {ν : mm_T} {z p i : Int} (h : ¬ (p = 0 ∧ i = 0)) : mo_cd ν z p i = ν p i := mm_u_ne h
set_option maxHeartbeats 1000000 in
theorem mo_B_cd {ν : mm_T} {z : Int} (h : mo_B ν) : mo_B (mo_cd ν z) := by
  have e : ∀ {p i : Int}, ¬ (p = 0 ∧ i = 0) → mo_cd ν z p i = ν p i := fun h => mm_u_ne h
  obtain ⟨h1, h2, h3, h4, h5, h6, h7, h8, h9, h10, h11, h12, h13, h14⟩ := h
  refine ⟨?_, ?_, ?_, ?_, ?_, ?_, ?_, ?_, ?_, ?_, ?_, ?_, ?_, ?_⟩
  · rw [e (by omega)]; exact h1
  · rw [e (by omega)]; exact h2
  · rw [e (by omega)]; exact h3
  · rw [e (by omega), e (by omega)]; exact h4
  · rw [e (by omega)]; exact h5
  · rw [e (by omega)]; exact h6
  · intro k a b; rw [e (by omega)]; exact h7 k a b
  · intro k a b; rw [e (by omega)]; exact h8 k a b
  · intro k a b; rw [e (by omega)]; exact h9 k a b
  · intro k a b; rw [e (by omega)]; exact h10 k a b
  · intro k a b; rw [e (by omega), e (by omega), e (by omega), e (by omega)]; exact h11 k a b
  · intro k a b; rw [e (by omega)]; exact h12 k a b
  · intro k a b; rw [e (by omega)]; exact h13 k a b
  · intro k a b; rw [e (by omega), e (by omega), e (by omega)]; exact h14 k a b
section MO6
variable {E : mv_E} {s ν : mm_T} {d : Nat} {b c r x y w p f g k t v lo hi : Int}
theorem mo_isB1 (hs : mo_sh s) (hB : mo_B ν) (hb : 0 ≤ b ∧ b < ν 0 1) : sw_w E d 84 (0, [some (2, 0), some (0, b)], []) s ν (sw_is (some (0, 1)) s ν) := by
  have h1 := hB.1
  have h := mo_isBridge (E := E) (d := d) (b := b) hs (by omega) (by omega : 0 ≤ ν 0 1 ∧ ν 0 1 ≤ 8)
  rwa [if_pos hb] at h
theorem mo_isB0 (hs : mo_sh s) (hB : mo_B ν) (hi : -2147483648 ≤ b ∧ b < 2147483648) (hb : ¬ (0 ≤ b ∧ b < ν 0 1)) : sw_w E d 84 (0, [some (2, 0), some (0, b)], []) s ν (sw_is (some (0, 0)) s ν) := by
  have h1 := hB.1
  have h := mo_isBridge (E := E) (d := d) (b := b) hs hi (by omega : 0 ≤ ν 0 1 ∧ ν 0 1 ≤ 8)
  rwa [if_neg hb] at h
theorem mo_isC1 (hs : mo_sh s) (hB : mo_B ν) (hb : 0 ≤ c ∧ c < ν 0 12) : sw_w E d 112 (0, [some (2, 0), some (0, c)], []) s ν (sw_is (some (0, 1)) s ν) := by
  have h1 := hB.2.2.1
  have h := mo_isCard (E := E) (d := d) (c := c) hs (by omega) (by omega : 0 ≤ ν 0 12 ∧ ν 0 12 ≤ 40)
  rwa [if_pos hb] at h
theorem mo_isC0 (hs : mo_sh s) (hB : mo_B ν) (hi : -2147483648 ≤ c ∧ c < 2147483648) (hb : ¬ (0 ≤ c ∧ c < ν 0 12)) : sw_w E d 112 (0, [some (2, 0), some (0, c)], []) s ν (sw_is (some (0, 0)) s ν) := by
  have h1 := hB.2.2.1
  have h := mo_isCard (E := E) (d := d) (c := c) hs hi (by omega : 0 ≤ ν 0 12 ∧ ν 0 12 ≤ 40)
  rwa [if_neg hb] at h
theorem mo_in1 (hv : -2147483648 ≤ v ∧ v < 2147483648) (h1 : -2147483648 ≤ lo ∧ lo < 2147483648) (h2 : -2147483648 ≤ hi ∧ hi < 2147483648) (h : lo ≤ v ∧ v ≤ hi) : sw_w E d 85 (0, [some (0, v), some (0, lo), some (0, hi)], []) s ν (sw_is (some (0, 1)) s ν) := by
  have h3 := mo_within (E := E) (d := d) (s := s) (ν := ν) hv h1 h2
  rwa [if_pos h] at h3
theorem mo_in0 (hv : -2147483648 ≤ v ∧ v < 2147483648) (h1 : -2147483648 ≤ lo ∧ lo < 2147483648) (h2 : -2147483648 ≤ hi ∧ hi < 2147483648) (h : ¬ (lo ≤ v ∧ v ≤ hi)) : sw_w E d 85 (0, [some (0, v), some (0, lo), some (0, hi)], []) s ν (sw_is (some (0, 0)) s ν) := by
  have h3 := mo_within (E := E) (d := d) (s := s) (ν := ν) hv h1 h2
  rwa [if_neg h] at h3
theorem mo_slot_1 (hs : mo_sh s) (hB : mo_B ν) (hb : 0 ≤ b ∧ b < ν 0 1) (hx : 0 ≤ x ∧ x ≤ 3) : sw_w E (d + 1) 125 (0, [some (2, 0), some (0, b), some (0, x)], []) s ν (sw_is (some (0, ν 2 (4 * b + x))) s (mo_cd ν 0)) := by
  have hn := hB.1
  refine sw_p 3 (f' := (3, [some (2, 0), some (0, b), some (0, x)], [(0, b), (2, 0), (2, 0)])) rfl ?_
  refine sw_cv1 (pn := 6) (q0 := mj_Mo_slot) (q := mj_Mo_isBridge) (p := 0) (as2 := [(0, b)]) (L2 := [some (2, 0), some (0, b)]) (rest := [(2, 0)]) (v := some (0, 1)) (s1 := s) (ν1 := ν) rfl rfl rfl rfl rfl rfl rfl rfl rfl hs.1 (mo_isB1 hs hB (by omega)) ?_
  show sw_w E _ 125 (6, [some (2, 0), some (0, b), some (0, x)], [(0, 1), (2, 0)]) s ν _
  refine sw_eq1 (pt := 22) (pn := 9) rfl rfl rfl (by omega) (fun h => absurd h (by decide)) (fun _ => ?_)
  refine sw_p 3 (f' := (12, [some (2, 0), some (0, b), some (0, x)], [(0, 3), (0, 0), (0, x), (2, 0)])) rfl ?_
  refine sw_cs1 (pn := 15) (q0 := mj_Mo_slot) (q := mj_Mo_within) (L2 := [some (0, x), some (0, 0), some (0, 3)]) (rest := [(2, 0)]) (v := some (0, 1)) (s1 := s) (ν1 := ν) rfl rfl rfl rfl rfl rfl rfl rfl (mo_in1 (by omega) (by omega) (by omega) (by omega)) ?_
  show sw_w E _ 125 (15, [some (2, 0), some (0, b), some (0, x)], [(0, 1), (2, 0)]) s ν _
  refine sw_eq1 (pt := 22) (pn := 18) rfl rfl rfl (by omega) (fun h => absurd h (by decide)) (fun _ => ?_)
  refine sw_p 2 (f' := (23, [some (2, 0), some (0, b), some (0, x)], [(0, 0), (2, 0)])) rfl ?_
  refine sw_pI (pn := 26) (i := 0) rfl rfl rfl rfl rfl (by omega) hs.1 ?_
  refine sw_p 1 (f' := (27, [some (2, 0), some (0, b), some (0, x)], [(2, 0)])) rfl ?_
  refine sw_gI (pn := 30) (i := 0) rfl rfl rfl rfl rfl (by omega) hs.1 ?_
  rw [show (mm_u ν 0 0 0) 0 0 = 0 from mm_u_at]
  refine sw_le1 (pt := 37) (pn := 33) rfl rfl rfl (by omega) (fun _ => ?_) (fun h => absurd h (by decide))
  refine sw_p 1 (f' := (38, [some (2, 0), some (0, b), some (0, x)], [(2, 0)])) rfl ?_
  refine sw_hA (pn := 41) (i := 2) (v := 2) rfl rfl rfl rfl rfl hs.1 (mo_s2 hs).1 (by omega) ?_
  refine sw_p 5 (f' := (46, [some (2, 0), some (0, b), some (0, x)], [(0, (4 * b) + x), (2, 2)])) rfl ?_
  refine sw_ial (pn := 47) (l := 32) rfl rfl (by omega) (mo_s2 hs).2.1 (mo_s2 hs).2.2 (by omega) (by omega) ?_
  rw [show (mm_u ν 0 0 0) 2 ((4 * b) + x) = ν 2 ((4 * b) + x) from mm_u_ne (by omega)]
  exact sw_retI rfl rfl rfl ⟨rfl, rfl, rfl⟩
theorem mo_slot_0 (hs : mo_sh s) (hB : mo_B ν) (hb : -2147483648 ≤ b ∧ b < 2147483648) (hx : -2147483648 ≤ x ∧ x < 2147483648) (h0 : ¬ (0 ≤ b ∧ b < ν 0 1)) : sw_w E (d + 1) 125 (0, [some (2, 0), some (0, b), some (0, x)], []) s ν (sw_is (some (0, 0)) s (mo_cd ν 1)) := by
  have hn := hB.1
  refine sw_p 3 (f' := (3, [some (2, 0), some (0, b), some (0, x)], [(0, b), (2, 0), (2, 0)])) rfl ?_
  refine sw_cv1 (pn := 6) (q0 := mj_Mo_slot) (q := mj_Mo_isBridge) (p := 0) (as2 := [(0, b)]) (L2 := [some (2, 0), some (0, b)]) (rest := [(2, 0)]) (v := some (0, 0)) (s1 := s) (ν1 := ν) rfl rfl rfl rfl rfl rfl rfl rfl rfl hs.1 (mo_isB0 hs hB (by omega) (by omega)) ?_
  show sw_w E _ 125 (6, [some (2, 0), some (0, b), some (0, x)], [(0, 0), (2, 0)]) s ν _
  refine sw_eq1 (pt := 22) (pn := 9) rfl rfl rfl (by omega) (fun _ => ?_) (fun h => absurd h (by decide))
  refine sw_p 1 (f' := (23, [some (2, 0), some (0, b), some (0, x)], [(0, 1), (2, 0)])) rfl ?_
  refine sw_pI (pn := 26) (i := 0) rfl rfl rfl rfl rfl (by omega) hs.1 ?_
  refine sw_p 1 (f' := (27, [some (2, 0), some (0, b), some (0, x)], [(2, 0)])) rfl ?_
  refine sw_gI (pn := 30) (i := 0) rfl rfl rfl rfl rfl (by omega) hs.1 ?_
  rw [show (mm_u ν 0 0 1) 0 0 = 1 from mm_u_at]
  refine sw_le1 (pt := 37) (pn := 33) rfl rfl rfl (by omega) (fun h => absurd h (by decide)) (fun _ => ?_)
  refine sw_p 2 (f' := (47, [some (2, 0), some (0, b), some (0, x)], [(0, 0)])) rfl ?_
  exact sw_retI rfl rfl rfl ⟨rfl, rfl, rfl⟩
theorem mo_slot_2 (hs : mo_sh s) (hB : mo_B ν) (hx : -2147483648 ≤ x ∧ x < 2147483648) (hb : 0 ≤ b ∧ b < ν 0 1) (h0 : ¬ (0 ≤ x ∧ x ≤ 3)) : sw_w E (d + 1) 125 (0, [some (2, 0), some (0, b), some (0, x)], []) s ν (sw_is (some (0, 0)) s (mo_cd ν 1)) := by
  have hn := hB.1
  refine sw_p 3 (f' := (3, [some (2, 0), some (0, b), some (0, x)], [(0, b), (2, 0), (2, 0)])) rfl ?_
  refine sw_cv1 (pn := 6) (q0 := mj_Mo_slot) (q := mj_Mo_isBridge) (p := 0) (as2 := [(0, b)]) (L2 := [some (2, 0), some (0, b)]) (rest := [(2, 0)]) (v := some (0, 1)) (s1 := s) (ν1 := ν) rfl rfl rfl rfl rfl rfl rfl rfl rfl hs.1 (mo_isB1 hs hB (by omega)) ?_
  show sw_w E _ 125 (6, [some (2, 0), some (0, b), some (0, x)], [(0, 1), (2, 0)]) s ν _
  refine sw_eq1 (pt := 22) (pn := 9) rfl rfl rfl (by omega) (fun h => absurd h (by decide)) (fun _ => ?_)
  refine sw_p 3 (f' := (12, [some (2, 0), some (0, b), some (0, x)], [(0, 3), (0, 0), (0, x), (2, 0)])) rfl ?_
  refine sw_cs1 (pn := 15) (q0 := mj_Mo_slot) (q := mj_Mo_within) (L2 := [some (0, x), some (0, 0), some (0, 3)]) (rest := [(2, 0)]) (v := some (0, 0)) (s1 := s) (ν1 := ν) rfl rfl rfl rfl rfl rfl rfl rfl (mo_in0 (by omega) (by omega) (by omega) (by omega)) ?_
  show sw_w E _ 125 (15, [some (2, 0), some (0, b), some (0, x)], [(0, 0), (2, 0)]) s ν _
  refine sw_eq1 (pt := 22) (pn := 18) rfl rfl rfl (by omega) (fun _ => ?_) (fun h => absurd h (by decide))
  refine sw_p 1 (f' := (23, [some (2, 0), some (0, b), some (0, x)], [(0, 1), (2, 0)])) rfl ?_
  refine sw_pI (pn := 26) (i := 0) rfl rfl rfl rfl rfl (by omega) hs.1 ?_
  refine sw_p 1 (f' := (27, [some (2, 0), some (0, b), some (0, x)], [(2, 0)])) rfl ?_
  refine sw_gI (pn := 30) (i := 0) rfl rfl rfl rfl rfl (by omega) hs.1 ?_
  rw [show (mm_u ν 0 0 1) 0 0 = 1 from mm_u_at]
  refine sw_le1 (pt := 37) (pn := 33) rfl rfl rfl (by omega) (fun h => absurd h (by decide)) (fun _ => ?_)
  refine sw_p 2 (f' := (47, [some (2, 0), some (0, b), some (0, x)], [(0, 0)])) rfl ?_
  exact sw_retI rfl rfl rfl ⟨rfl, rfl, rfl⟩
theorem mo_opening_1 (hs : mo_sh s) (hB : mo_B ν) (hb : 0 ≤ b ∧ b < ν 0 1) (hx : x = 0 ∨ x = 1) : sw_w E (d + 1) 122 (0, [some (2, 0), some (0, b), some (0, x)], []) s ν (sw_is (some (0, if x = 0 then ν 5 b else ν 6 b)) s (mo_cd ν 0)) := by
  have hn := hB.1
  refine sw_p 3 (f' := (3, [some (2, 0), some (0, b), some (0, x)], [(0, b), (2, 0), (2, 0)])) rfl ?_
  refine sw_cv1 (pn := 6) (q0 := mj_Mo_opening) (q := mj_Mo_isBridge) (p := 0) (as2 := [(0, b)]) (L2 := [some (2, 0), some (0, b)]) (rest := [(2, 0)]) (v := some (0, 1)) (s1 := s) (ν1 := ν) rfl rfl rfl rfl rfl rfl rfl rfl rfl hs.1 (mo_isB1 hs hB (by omega)) ?_
  show sw_w E _ 122 (6, [some (2, 0), some (0, b), some (0, x)], [(0, 1), (2, 0)]) s ν _
  refine sw_eq1 (pt := 13) (pn := 9) rfl rfl rfl (by omega) (fun h => absurd h (by decide)) (fun _ => ?_)
  refine sw_p 2 (f' := (14, [some (2, 0), some (0, b), some (0, x)], [(0, 0), (2, 0)])) rfl ?_
  refine sw_pI (pn := 17) (i := 0) rfl rfl rfl rfl rfl (by omega) hs.1 ?_
  refine sw_p 1 (f' := (18, [some (2, 0), some (0, b), some (0, x)], [(2, 0)])) rfl ?_
  refine sw_gI (pn := 21) (i := 0) rfl rfl rfl rfl rfl (by omega) hs.1 ?_
  rw [show (mm_u ν 0 0 0) 0 0 = 0 from mm_u_at]
  refine sw_le1 (pt := 28) (pn := 24) rfl rfl rfl (by omega) (fun _ => ?_) (fun h => absurd h (by decide))
  refine sw_p 1 (f' := (29, [some (2, 0), some (0, b), some (0, x)], [(0, x)])) rfl ?_
  refine sw_eq1 (pt := 41) (pn := 32) rfl rfl rfl (by omega) (fun h3 => ?_) (fun h3 => ?_)
  · skip
    refine sw_p 1 (f' := (42, [some (2, 0), some (0, b), some (0, x)], [(2, 0)])) rfl ?_
    refine sw_hA (pn := 45) (i := 5) (v := 5) rfl rfl rfl rfl rfl hs.1 (mo_s5 hs).1 (by omega) ?_
    refine sw_p 1 (f' := (46, [some (2, 0), some (0, b), some (0, x)], [(0, b), (2, 5)])) rfl ?_
    refine sw_ial (pn := 47) (l := 8) rfl rfl (by omega) (mo_s5 hs).2.1 (mo_s5 hs).2.2 (by omega) (by omega) ?_
    rw [show (mm_u ν 0 0 0) 5 b = ν 5 b from mm_u_ne (by omega)]
    exact sw_retI rfl rfl rfl ⟨by rw [if_pos (by omega)], rfl, rfl⟩
  · skip
    refine sw_p 1 (f' := (33, [some (2, 0), some (0, b), some (0, x)], [(2, 0)])) rfl ?_
    refine sw_hA (pn := 36) (i := 6) (v := 6) rfl rfl rfl rfl rfl hs.1 (mo_s6 hs).1 (by omega) ?_
    refine sw_p 1 (f' := (37, [some (2, 0), some (0, b), some (0, x)], [(0, b), (2, 6)])) rfl ?_
    refine sw_ial (pn := 38) (l := 8) rfl rfl (by omega) (mo_s6 hs).2.1 (mo_s6 hs).2.2 (by omega) (by omega) ?_
    rw [show (mm_u ν 0 0 0) 6 b = ν 6 b from mm_u_ne (by omega)]
    refine sw_p 1 (f' := (47, [some (2, 0), some (0, b), some (0, x)], [(0, ν 6 b)])) rfl ?_
    exact sw_retI rfl rfl rfl ⟨by rw [if_neg (by omega)], rfl, rfl⟩
theorem mo_opening_0 (hs : mo_sh s) (hB : mo_B ν) (hb : -2147483648 ≤ b ∧ b < 2147483648) (h0 : ¬ (0 ≤ b ∧ b < ν 0 1)) : sw_w E (d + 1) 122 (0, [some (2, 0), some (0, b), some (0, x)], []) s ν (sw_is (some (0, 0)) s (mo_cd ν 1)) := by
  have hn := hB.1
  refine sw_p 3 (f' := (3, [some (2, 0), some (0, b), some (0, x)], [(0, b), (2, 0), (2, 0)])) rfl ?_
  refine sw_cv1 (pn := 6) (q0 := mj_Mo_opening) (q := mj_Mo_isBridge) (p := 0) (as2 := [(0, b)]) (L2 := [some (2, 0), some (0, b)]) (rest := [(2, 0)]) (v := some (0, 0)) (s1 := s) (ν1 := ν) rfl rfl rfl rfl rfl rfl rfl rfl rfl hs.1 (mo_isB0 hs hB (by omega) (by omega)) ?_
  show sw_w E _ 122 (6, [some (2, 0), some (0, b), some (0, x)], [(0, 0), (2, 0)]) s ν _
  refine sw_eq1 (pt := 13) (pn := 9) rfl rfl rfl (by omega) (fun _ => ?_) (fun h => absurd h (by decide))
  refine sw_p 1 (f' := (14, [some (2, 0), some (0, b), some (0, x)], [(0, 1), (2, 0)])) rfl ?_
  refine sw_pI (pn := 17) (i := 0) rfl rfl rfl rfl rfl (by omega) hs.1 ?_
  refine sw_p 1 (f' := (18, [some (2, 0), some (0, b), some (0, x)], [(2, 0)])) rfl ?_
  refine sw_gI (pn := 21) (i := 0) rfl rfl rfl rfl rfl (by omega) hs.1 ?_
  rw [show (mm_u ν 0 0 1) 0 0 = 1 from mm_u_at]
  refine sw_le1 (pt := 28) (pn := 24) rfl rfl rfl (by omega) (fun h => absurd h (by decide)) (fun _ => ?_)
  refine sw_p 2 (f' := (47, [some (2, 0), some (0, b), some (0, x)], [(0, 0)])) rfl ?_
  exact sw_retI rfl rfl rfl ⟨rfl, rfl, rfl⟩
theorem mo_range_1 (hs : mo_sh s) (hB : mo_B ν) (hc : 0 ≤ c ∧ c < ν 0 12) (hx : 0 ≤ x ∧ x ≤ 2) : sw_w E (d + 1) 121 (0, [some (2, 0), some (0, c), some (0, x)], []) s ν (sw_is (some (0, ν 17 (3 * c + x))) s (mo_cd ν 0)) := by
  have hn := hB.2.2.1
  refine sw_p 3 (f' := (3, [some (2, 0), some (0, c), some (0, x)], [(0, c), (2, 0), (2, 0)])) rfl ?_
  refine sw_cv1 (pn := 6) (q0 := mj_Mo_range) (q := mj_Mo_isCard) (p := 0) (as2 := [(0, c)]) (L2 := [some (2, 0), some (0, c)]) (rest := [(2, 0)]) (v := some (0, 1)) (s1 := s) (ν1 := ν) rfl rfl rfl rfl rfl rfl rfl rfl rfl hs.1 (mo_isC1 hs hB (by omega)) ?_
  show sw_w E _ 121 (6, [some (2, 0), some (0, c), some (0, x)], [(0, 1), (2, 0)]) s ν _
  refine sw_eq1 (pt := 22) (pn := 9) rfl rfl rfl (by omega) (fun h => absurd h (by decide)) (fun _ => ?_)
  refine sw_p 3 (f' := (12, [some (2, 0), some (0, c), some (0, x)], [(0, 2), (0, 0), (0, x), (2, 0)])) rfl ?_
  refine sw_cs1 (pn := 15) (q0 := mj_Mo_range) (q := mj_Mo_within) (L2 := [some (0, x), some (0, 0), some (0, 2)]) (rest := [(2, 0)]) (v := some (0, 1)) (s1 := s) (ν1 := ν) rfl rfl rfl rfl rfl rfl rfl rfl (mo_in1 (by omega) (by omega) (by omega) (by omega)) ?_
  show sw_w E _ 121 (15, [some (2, 0), some (0, c), some (0, x)], [(0, 1), (2, 0)]) s ν _
  refine sw_eq1 (pt := 22) (pn := 18) rfl rfl rfl (by omega) (fun h => absurd h (by decide)) (fun _ => ?_)
  refine sw_p 2 (f' := (23, [some (2, 0), some (0, c), some (0, x)], [(0, 0), (2, 0)])) rfl ?_
  refine sw_pI (pn := 26) (i := 0) rfl rfl rfl rfl rfl (by omega) hs.1 ?_
  refine sw_p 1 (f' := (27, [some (2, 0), some (0, c), some (0, x)], [(2, 0)])) rfl ?_
  refine sw_gI (pn := 30) (i := 0) rfl rfl rfl rfl rfl (by omega) hs.1 ?_
  rw [show (mm_u ν 0 0 0) 0 0 = 0 from mm_u_at]
  refine sw_le1 (pt := 37) (pn := 33) rfl rfl rfl (by omega) (fun _ => ?_) (fun h => absurd h (by decide))
  refine sw_p 1 (f' := (38, [some (2, 0), some (0, c), some (0, x)], [(2, 0)])) rfl ?_
  refine sw_hA (pn := 41) (i := 17) (v := 17) rfl rfl rfl rfl rfl hs.1 (mo_s17 hs).1 (by omega) ?_
  refine sw_p 5 (f' := (46, [some (2, 0), some (0, c), some (0, x)], [(0, (3 * c) + x), (2, 17)])) rfl ?_
  refine sw_ial (pn := 47) (l := 120) rfl rfl (by omega) (mo_s17 hs).2.1 (mo_s17 hs).2.2 (by omega) (by omega) ?_
  rw [show (mm_u ν 0 0 0) 17 ((3 * c) + x) = ν 17 ((3 * c) + x) from mm_u_ne (by omega)]
  exact sw_retI rfl rfl rfl ⟨rfl, rfl, rfl⟩
theorem mo_range_0 (hs : mo_sh s) (hB : mo_B ν) (hc : -2147483648 ≤ c ∧ c < 2147483648) (hx : -2147483648 ≤ x ∧ x < 2147483648) (h0 : ¬ (0 ≤ c ∧ c < ν 0 12)) : sw_w E (d + 1) 121 (0, [some (2, 0), some (0, c), some (0, x)], []) s ν (sw_is (some (0, 0)) s (mo_cd ν 1)) := by
  have hn := hB.2.2.1
  refine sw_p 3 (f' := (3, [some (2, 0), some (0, c), some (0, x)], [(0, c), (2, 0), (2, 0)])) rfl ?_
  refine sw_cv1 (pn := 6) (q0 := mj_Mo_range) (q := mj_Mo_isCard) (p := 0) (as2 := [(0, c)]) (L2 := [some (2, 0), some (0, c)]) (rest := [(2, 0)]) (v := some (0, 0)) (s1 := s) (ν1 := ν) rfl rfl rfl rfl rfl rfl rfl rfl rfl hs.1 (mo_isC0 hs hB (by omega) (by omega)) ?_
  show sw_w E _ 121 (6, [some (2, 0), some (0, c), some (0, x)], [(0, 0), (2, 0)]) s ν _
  refine sw_eq1 (pt := 22) (pn := 9) rfl rfl rfl (by omega) (fun _ => ?_) (fun h => absurd h (by decide))
  refine sw_p 1 (f' := (23, [some (2, 0), some (0, c), some (0, x)], [(0, 1), (2, 0)])) rfl ?_
  refine sw_pI (pn := 26) (i := 0) rfl rfl rfl rfl rfl (by omega) hs.1 ?_
  refine sw_p 1 (f' := (27, [some (2, 0), some (0, c), some (0, x)], [(2, 0)])) rfl ?_
  refine sw_gI (pn := 30) (i := 0) rfl rfl rfl rfl rfl (by omega) hs.1 ?_
  rw [show (mm_u ν 0 0 1) 0 0 = 1 from mm_u_at]
  refine sw_le1 (pt := 37) (pn := 33) rfl rfl rfl (by omega) (fun h => absurd h (by decide)) (fun _ => ?_)
  refine sw_p 2 (f' := (47, [some (2, 0), some (0, c), some (0, x)], [(0, 0)])) rfl ?_
  exact sw_retI rfl rfl rfl ⟨rfl, rfl, rfl⟩
theorem mo_range_2 (hs : mo_sh s) (hB : mo_B ν) (hx : -2147483648 ≤ x ∧ x < 2147483648) (hc : 0 ≤ c ∧ c < ν 0 12) (h0 : ¬ (0 ≤ x ∧ x ≤ 2)) : sw_w E (d + 1) 121 (0, [some (2, 0), some (0, c), some (0, x)], []) s ν (sw_is (some (0, 0)) s (mo_cd ν 1)) := by
  have hn := hB.2.2.1
  refine sw_p 3 (f' := (3, [some (2, 0), some (0, c), some (0, x)], [(0, c), (2, 0), (2, 0)])) rfl ?_
  refine sw_cv1 (pn := 6) (q0 := mj_Mo_range) (q := mj_Mo_isCard) (p := 0) (as2 := [(0, c)]) (L2 := [some (2, 0), some (0, c)]) (rest := [(2, 0)]) (v := some (0, 1)) (s1 := s) (ν1 := ν) rfl rfl rfl rfl rfl rfl rfl rfl rfl hs.1 (mo_isC1 hs hB (by omega)) ?_
  show sw_w E _ 121 (6, [some (2, 0), some (0, c), some (0, x)], [(0, 1), (2, 0)]) s ν _
  refine sw_eq1 (pt := 22) (pn := 9) rfl rfl rfl (by omega) (fun h => absurd h (by decide)) (fun _ => ?_)
  refine sw_p 3 (f' := (12, [some (2, 0), some (0, c), some (0, x)], [(0, 2), (0, 0), (0, x), (2, 0)])) rfl ?_
  refine sw_cs1 (pn := 15) (q0 := mj_Mo_range) (q := mj_Mo_within) (L2 := [some (0, x), some (0, 0), some (0, 2)]) (rest := [(2, 0)]) (v := some (0, 0)) (s1 := s) (ν1 := ν) rfl rfl rfl rfl rfl rfl rfl rfl (mo_in0 (by omega) (by omega) (by omega) (by omega)) ?_
  show sw_w E _ 121 (15, [some (2, 0), some (0, c), some (0, x)], [(0, 0), (2, 0)]) s ν _
  refine sw_eq1 (pt := 22) (pn := 18) rfl rfl rfl (by omega) (fun _ => ?_) (fun h => absurd h (by decide))
  refine sw_p 1 (f' := (23, [some (2, 0), some (0, c), some (0, x)], [(0, 1), (2, 0)])) rfl ?_
  refine sw_pI (pn := 26) (i := 0) rfl rfl rfl rfl rfl (by omega) hs.1 ?_
  refine sw_p 1 (f' := (27, [some (2, 0), some (0, c), some (0, x)], [(2, 0)])) rfl ?_
  refine sw_gI (pn := 30) (i := 0) rfl rfl rfl rfl rfl (by omega) hs.1 ?_
  rw [show (mm_u ν 0 0 1) 0 0 = 1 from mm_u_at]
  refine sw_le1 (pt := 37) (pn := 33) rfl rfl rfl (by omega) (fun h => absurd h (by decide)) (fun _ => ?_)
  refine sw_p 2 (f' := (47, [some (2, 0), some (0, c), some (0, x)], [(0, 0)])) rfl ?_
  exact sw_retI rfl rfl rfl ⟨rfl, rfl, rfl⟩
theorem mo_result_1 (hs : mo_sh s) (hB : mo_B ν) (ht : 0 ≤ t ∧ t < ν 0 24) : sw_w E (d + 1) 119 (0, [some (2, 0), some (0, t)], []) s ν (sw_is (some (1, ν 28 t)) s (mo_cd ν 0)) := by
  have hn := hB.2.2.2.2.2.1
  refine sw_p 2 (f' := (2, [some (2, 0), some (0, t)], [(0, t), (2, 0)])) rfl ?_
  refine sw_lt1 (pt := 13) (pn := 5) rfl rfl rfl (by omega) (fun h1 => ?_) (fun h1 => ?_)
  · skip
    refine sw_p 2 (f' := (18, [some (2, 0), some (0, t)], [(0, 1), (2, 0)])) rfl ?_
    refine sw_pI (pn := 21) (i := 0) rfl rfl rfl rfl rfl (by omega) hs.1 ?_
    refine sw_p 1 (f' := (22, [some (2, 0), some (0, t)], [(2, 0)])) rfl ?_
    refine sw_gI (pn := 25) (i := 0) rfl rfl rfl rfl rfl (by omega) hs.1 ?_
    rw [show (mm_u ν 0 0 1) 0 0 = 1 from mm_u_at]
    refine sw_le1 (pt := 32) (pn := 28) rfl rfl rfl (by omega) (fun h => absurd h (by decide)) (fun _ => ?_)
    refine sw_p 2 (f' := (38, [some (2, 0), some (0, t)], [(1, 0)])) rfl ?_
    exact sw_retL rfl rfl rfl ⟨by first | rfl | (exfalso; omega), rfl, by first | rfl | (exfalso; omega)⟩
  · skip
    refine sw_p 2 (f' := (7, [some (2, 0), some (0, t)], [(2, 0), (0, t), (2, 0)])) rfl ?_
    refine sw_gI (pn := 10) (i := 24) rfl rfl rfl rfl rfl (by omega) hs.1 ?_
    refine sw_lt2 (pt := 17) (pn := 13) rfl rfl rfl (by omega) (by omega) (fun h3 => ?_) (fun h3 => ?_)
    · skip
      refine sw_p 1 (f' := (18, [some (2, 0), some (0, t)], [(0, 0), (2, 0)])) rfl ?_
      refine sw_pI (pn := 21) (i := 0) rfl rfl rfl rfl rfl (by omega) hs.1 ?_
      refine sw_p 1 (f' := (22, [some (2, 0), some (0, t)], [(2, 0)])) rfl ?_
      refine sw_gI (pn := 25) (i := 0) rfl rfl rfl rfl rfl (by omega) hs.1 ?_
      rw [show (mm_u ν 0 0 0) 0 0 = 0 from mm_u_at]
      refine sw_le1 (pt := 32) (pn := 28) rfl rfl rfl (by omega) (fun _ => ?_) (fun h => absurd h (by decide))
      refine sw_p 1 (f' := (33, [some (2, 0), some (0, t)], [(2, 0)])) rfl ?_
      refine sw_hA (pn := 36) (i := 28) (v := 28) rfl rfl rfl rfl rfl hs.1 (mo_s28 hs).1 (by omega) ?_
      refine sw_p 1 (f' := (37, [some (2, 0), some (0, t)], [(0, t), (2, 28)])) rfl ?_
      refine sw_lal (pn := 38) (l := 512) rfl rfl (by omega) (mo_s28 hs).2.1 (mo_s28 hs).2.2 (by omega) (by omega) ?_
      rw [show (mm_u ν 0 0 0) 28 t = ν 28 t from mm_u_ne (by omega)]
      exact sw_retL rfl rfl rfl ⟨by first | rfl | (exfalso; omega), rfl, by first | rfl | (exfalso; omega)⟩
    · skip
      refine sw_p 2 (f' := (18, [some (2, 0), some (0, t)], [(0, 1), (2, 0)])) rfl ?_
      refine sw_pI (pn := 21) (i := 0) rfl rfl rfl rfl rfl (by omega) hs.1 ?_
      refine sw_p 1 (f' := (22, [some (2, 0), some (0, t)], [(2, 0)])) rfl ?_
      refine sw_gI (pn := 25) (i := 0) rfl rfl rfl rfl rfl (by omega) hs.1 ?_
      rw [show (mm_u ν 0 0 1) 0 0 = 1 from mm_u_at]
      refine sw_le1 (pt := 32) (pn := 28) rfl rfl rfl (by omega) (fun h => absurd h (by decide)) (fun _ => ?_)
      refine sw_p 2 (f' := (38, [some (2, 0), some (0, t)], [(1, 0)])) rfl ?_
      exact sw_retL rfl rfl rfl ⟨by first | rfl | (exfalso; omega), rfl, by first | rfl | (exfalso; omega)⟩
theorem mo_result_0 (hs : mo_sh s) (hB : mo_B ν) (ht : -2147483648 ≤ t ∧ t < 2147483648) (h0 : ¬ (0 ≤ t ∧ t < ν 0 24)) : sw_w E (d + 1) 119 (0, [some (2, 0), some (0, t)], []) s ν (sw_is (some (1, 0)) s (mo_cd ν 1)) := by
  have hn := hB.2.2.2.2.2.1
  refine sw_p 2 (f' := (2, [some (2, 0), some (0, t)], [(0, t), (2, 0)])) rfl ?_
  refine sw_lt1 (pt := 13) (pn := 5) rfl rfl rfl (by omega) (fun h1 => ?_) (fun h1 => ?_)
  · skip
    refine sw_p 2 (f' := (18, [some (2, 0), some (0, t)], [(0, 1), (2, 0)])) rfl ?_
    refine sw_pI (pn := 21) (i := 0) rfl rfl rfl rfl rfl (by omega) hs.1 ?_
    refine sw_p 1 (f' := (22, [some (2, 0), some (0, t)], [(2, 0)])) rfl ?_
    refine sw_gI (pn := 25) (i := 0) rfl rfl rfl rfl rfl (by omega) hs.1 ?_
    rw [show (mm_u ν 0 0 1) 0 0 = 1 from mm_u_at]
    refine sw_le1 (pt := 32) (pn := 28) rfl rfl rfl (by omega) (fun h => absurd h (by decide)) (fun _ => ?_)
    refine sw_p 2 (f' := (38, [some (2, 0), some (0, t)], [(1, 0)])) rfl ?_
    exact sw_retL rfl rfl rfl ⟨by first | rfl | (exfalso; omega), rfl, by first | rfl | (exfalso; omega)⟩
  · skip
    refine sw_p 2 (f' := (7, [some (2, 0), some (0, t)], [(2, 0), (0, t), (2, 0)])) rfl ?_
    refine sw_gI (pn := 10) (i := 24) rfl rfl rfl rfl rfl (by omega) hs.1 ?_
    refine sw_lt2 (pt := 17) (pn := 13) rfl rfl rfl (by omega) (by omega) (fun h3 => ?_) (fun h3 => ?_)
    · skip
      refine sw_p 1 (f' := (18, [some (2, 0), some (0, t)], [(0, 0), (2, 0)])) rfl ?_
      refine sw_pI (pn := 21) (i := 0) rfl rfl rfl rfl rfl (by omega) hs.1 ?_
      refine sw_p 1 (f' := (22, [some (2, 0), some (0, t)], [(2, 0)])) rfl ?_
      refine sw_gI (pn := 25) (i := 0) rfl rfl rfl rfl rfl (by omega) hs.1 ?_
      rw [show (mm_u ν 0 0 0) 0 0 = 0 from mm_u_at]
      refine sw_le1 (pt := 32) (pn := 28) rfl rfl rfl (by omega) (fun _ => ?_) (fun h => absurd h (by decide))
      refine sw_p 1 (f' := (33, [some (2, 0), some (0, t)], [(2, 0)])) rfl ?_
      refine sw_hA (pn := 36) (i := 28) (v := 28) rfl rfl rfl rfl rfl hs.1 (mo_s28 hs).1 (by omega) ?_
      refine sw_p 1 (f' := (37, [some (2, 0), some (0, t)], [(0, t), (2, 28)])) rfl ?_
      refine sw_lal (pn := 38) (l := 512) rfl rfl (by omega) (mo_s28 hs).2.1 (mo_s28 hs).2.2 (by omega) (by omega) ?_
      rw [show (mm_u ν 0 0 0) 28 t = ν 28 t from mm_u_ne (by omega)]
      exact sw_retL rfl rfl rfl ⟨by first | rfl | (exfalso; omega), rfl, by first | rfl | (exfalso; omega)⟩
    · skip
      refine sw_p 2 (f' := (18, [some (2, 0), some (0, t)], [(0, 1), (2, 0)])) rfl ?_
      refine sw_pI (pn := 21) (i := 0) rfl rfl rfl rfl rfl (by omega) hs.1 ?_
      refine sw_p 1 (f' := (22, [some (2, 0), some (0, t)], [(2, 0)])) rfl ?_
      refine sw_gI (pn := 25) (i := 0) rfl rfl rfl rfl rfl (by omega) hs.1 ?_
      rw [show (mm_u ν 0 0 1) 0 0 = 1 from mm_u_at]
      refine sw_le1 (pt := 32) (pn := 28) rfl rfl rfl (by omega) (fun h => absurd h (by decide)) (fun _ => ?_)
      refine sw_p 2 (f' := (38, [some (2, 0), some (0, t)], [(1, 0)])) rfl ?_
      exact sw_retL rfl rfl rfl ⟨by first | rfl | (exfalso; omega), rfl, by first | rfl | (exfalso; omega)⟩
theorem mo_power_1 (hs : mo_sh s) (hB : mo_B ν) (hb : 0 ≤ b ∧ b < ν 0 1) : sw_w E (d + 2) 124 (0, [some (2, 0), some (0, b)], []) s ν (sw_is (some (0, mo_pw (mo_cd ν 0) b)) s (mo_cd ν 0)) := by
  have hn := hB.1
  refine sw_p 3 (f' := (3, [some (2, 0), some (0, b)], [(0, b), (2, 0), (2, 0)])) rfl ?_
  refine sw_cv1 (pn := 6) (q0 := mj_Mo_power) (q := mj_Mo_isBridge) (p := 0) (as2 := [(0, b)]) (L2 := [some (2, 0), some (0, b)]) (rest := [(2, 0)]) (v := some (0, 1)) (s1 := s) (ν1 := ν) rfl rfl rfl rfl rfl rfl rfl rfl rfl hs.1 (mo_isB1 hs hB (by omega)) ?_
  show sw_w E _ 124 (6, [some (2, 0), some (0, b)], [(0, 1), (2, 0)]) s ν _
  refine sw_eq1 (pt := 13) (pn := 9) rfl rfl rfl (by omega) (fun h => absurd h (by decide)) (fun _ => ?_)
  refine sw_p 2 (f' := (14, [some (2, 0), some (0, b)], [(0, 0), (2, 0)])) rfl ?_
  refine sw_pI (pn := 17) (i := 0) rfl rfl rfl rfl rfl (by omega) hs.1 ?_
  refine sw_p 1 (f' := (18, [some (2, 0), some (0, b)], [(2, 0)])) rfl ?_
  refine sw_gI (pn := 21) (i := 0) rfl rfl rfl rfl rfl (by omega) hs.1 ?_
  rw [show (mm_u ν 0 0 0) 0 0 = 0 from mm_u_at]
  refine sw_le1 (pt := 28) (pn := 24) rfl rfl rfl (by omega) (fun _ => ?_) (fun h => absurd h (by decide))
  refine sw_p 2 (f' := (30, [some (2, 0), some (0, b)], [(0, b), (2, 0)])) rfl ?_
  refine sw_cv1 (pn := 33) (q0 := mj_Mo_power) (q := mj_Mo_powerOf) (p := 0) (as2 := [(0, b)]) (L2 := [some (2, 0), some (0, b), none, none]) (rest := []) (v := some (0, mo_pw (mo_cd ν 0) b)) (s1 := s) (ν1 := (mm_u ν 0 0 0)) rfl rfl rfl rfl rfl rfl rfl rfl rfl hs.1 (mo_powerOf hs (mo_B_cd hB) (by omega)) ?_
  show sw_w E _ 124 (33, [some (2, 0), some (0, b)], [(0, mo_pw (mo_cd ν 0) b)]) s (mm_u ν 0 0 0) _
  exact sw_retI rfl rfl rfl ⟨rfl, rfl, rfl⟩
theorem mo_power_0 (hs : mo_sh s) (hB : mo_B ν) (hb : -2147483648 ≤ b ∧ b < 2147483648) (h0 : ¬ (0 ≤ b ∧ b < ν 0 1)) : sw_w E (d + 1) 124 (0, [some (2, 0), some (0, b)], []) s ν (sw_is (some (0, 0)) s (mo_cd ν 1)) := by
  have hn := hB.1
  refine sw_p 3 (f' := (3, [some (2, 0), some (0, b)], [(0, b), (2, 0), (2, 0)])) rfl ?_
  refine sw_cv1 (pn := 6) (q0 := mj_Mo_power) (q := mj_Mo_isBridge) (p := 0) (as2 := [(0, b)]) (L2 := [some (2, 0), some (0, b)]) (rest := [(2, 0)]) (v := some (0, 0)) (s1 := s) (ν1 := ν) rfl rfl rfl rfl rfl rfl rfl rfl rfl hs.1 (mo_isB0 hs hB (by omega) (by omega)) ?_
  show sw_w E _ 124 (6, [some (2, 0), some (0, b)], [(0, 0), (2, 0)]) s ν _
  refine sw_eq1 (pt := 13) (pn := 9) rfl rfl rfl (by omega) (fun _ => ?_) (fun h => absurd h (by decide))
  refine sw_p 1 (f' := (14, [some (2, 0), some (0, b)], [(0, 1), (2, 0)])) rfl ?_
  refine sw_pI (pn := 17) (i := 0) rfl rfl rfl rfl rfl (by omega) hs.1 ?_
  refine sw_p 1 (f' := (18, [some (2, 0), some (0, b)], [(2, 0)])) rfl ?_
  refine sw_gI (pn := 21) (i := 0) rfl rfl rfl rfl rfl (by omega) hs.1 ?_
  rw [show (mm_u ν 0 0 1) 0 0 = 1 from mm_u_at]
  refine sw_le1 (pt := 28) (pn := 24) rfl rfl rfl (by omega) (fun h => absurd h (by decide)) (fun _ => ?_)
  refine sw_p 2 (f' := (33, [some (2, 0), some (0, b)], [(0, 0)])) rfl ?_
  exact sw_retI rfl rfl rfl ⟨rfl, rfl, rfl⟩
theorem mo_card_1 (hs : mo_sh s) (hB : mo_B ν) (hc : 0 ≤ c ∧ c < ν 0 12) (hx : 0 ≤ x ∧ x ≤ 3) : sw_w E (d + 1) 120 (0, [some (2, 0), some (0, c), some (0, x)], []) s ν (sw_is (some (0, if x = 0 then ν 15 c else if x = 1 then ν 16 c else if x = 2 then mo_wt (mo_cd ν 0) c else ν 19 c)) s (mo_cd ν 0)) := by
  have hn := hB.2.2.1
  refine sw_p 3 (f' := (3, [some (2, 0), some (0, c), some (0, x)], [(0, c), (2, 0), (2, 0)])) rfl ?_
  refine sw_cv1 (pn := 6) (q0 := mj_Mo_card) (q := mj_Mo_isCard) (p := 0) (as2 := [(0, c)]) (L2 := [some (2, 0), some (0, c)]) (rest := [(2, 0)]) (v := some (0, 1)) (s1 := s) (ν1 := ν) rfl rfl rfl rfl rfl rfl rfl rfl rfl hs.1 (mo_isC1 hs hB (by omega)) ?_
  show sw_w E _ 120 (6, [some (2, 0), some (0, c), some (0, x)], [(0, 1), (2, 0)]) s ν _
  refine sw_eq1 (pt := 22) (pn := 9) rfl rfl rfl (by omega) (fun h => absurd h (by decide)) (fun _ => ?_)
  refine sw_p 3 (f' := (12, [some (2, 0), some (0, c), some (0, x)], [(0, 3), (0, 0), (0, x), (2, 0)])) rfl ?_
  refine sw_cs1 (pn := 15) (q0 := mj_Mo_card) (q := mj_Mo_within) (L2 := [some (0, x), some (0, 0), some (0, 3)]) (rest := [(2, 0)]) (v := some (0, 1)) (s1 := s) (ν1 := ν) rfl rfl rfl rfl rfl rfl rfl rfl (mo_in1 (by omega) (by omega) (by omega) (by omega)) ?_
  show sw_w E _ 120 (15, [some (2, 0), some (0, c), some (0, x)], [(0, 1), (2, 0)]) s ν _
  refine sw_eq1 (pt := 22) (pn := 18) rfl rfl rfl (by omega) (fun h => absurd h (by decide)) (fun _ => ?_)
  refine sw_p 2 (f' := (23, [some (2, 0), some (0, c), some (0, x)], [(0, 0), (2, 0)])) rfl ?_
  refine sw_pI (pn := 26) (i := 0) rfl rfl rfl rfl rfl (by omega) hs.1 ?_
  refine sw_p 1 (f' := (27, [some (2, 0), some (0, c), some (0, x)], [(2, 0)])) rfl ?_
  refine sw_gI (pn := 30) (i := 0) rfl rfl rfl rfl rfl (by omega) hs.1 ?_
  rw [show (mm_u ν 0 0 0) 0 0 = 0 from mm_u_at]
  refine sw_le1 (pt := 35) (pn := 33) rfl rfl rfl (by omega) (fun _ => ?_) (fun h => absurd h (by decide))
  refine sw_p 1 (f' := (36, [some (2, 0), some (0, c), some (0, x)], [(0, x)])) rfl ?_
  refine sw_ne1 (pt := 48) (pn := 39) rfl rfl rfl (by omega) (fun h4 => ?_) (fun h4 => ?_)
  · skip
    refine sw_p 2 (f' := (50, [some (2, 0), some (0, c), some (0, x)], [(0, 1), (0, x)])) rfl ?_
    refine sw_ne2 (pt := 62) (pn := 53) rfl rfl rfl (by omega) (by omega) (fun h5 => ?_) (fun h5 => ?_)
    · skip
      refine sw_p 2 (f' := (64, [some (2, 0), some (0, c), some (0, x)], [(0, 2), (0, x)])) rfl ?_
      refine sw_ne2 (pt := 75) (pn := 67) rfl rfl rfl (by omega) (by omega) (fun h6 => ?_) (fun h6 => ?_)
      · skip
        refine sw_p 1 (f' := (76, [some (2, 0), some (0, c), some (0, x)], [(2, 0)])) rfl ?_
        refine sw_hA (pn := 79) (i := 19) (v := 19) rfl rfl rfl rfl rfl hs.1 (mo_s19 hs).1 (by omega) ?_
        refine sw_p 1 (f' := (80, [some (2, 0), some (0, c), some (0, x)], [(0, c), (2, 19)])) rfl ?_
        refine sw_ial (pn := 81) (l := 40) rfl rfl (by omega) (mo_s19 hs).2.1 (mo_s19 hs).2.2 (by omega) (by omega) ?_
        rw [show (mm_u ν 0 0 0) 19 c = ν 19 c from mm_u_ne (by omega)]
        exact sw_retI rfl rfl rfl ⟨by first | rw [if_pos (by omega)] | rw [if_neg (by omega), if_pos (by omega)] | rw [if_neg (by omega), if_neg (by omega), if_pos (by omega)] | rw [if_neg (by omega), if_neg (by omega), if_neg (by omega)], rfl, rfl⟩
      · skip
        refine sw_p 2 (f' := (69, [some (2, 0), some (0, c), some (0, x)], [(0, c), (2, 0)])) rfl ?_
        refine sw_cv1 (pn := 72) (q0 := mj_Mo_card) (q := mj_Mo_waiting) (p := 0) (as2 := [(0, c)]) (L2 := [some (2, 0), some (0, c), none, none]) (rest := []) (v := some (0, mo_wt (mo_cd ν 0) c)) (s1 := s) (ν1 := (mm_u ν 0 0 0)) rfl rfl rfl rfl rfl rfl rfl rfl rfl hs.1 (mo_waiting hs (mo_B_cd hB) (by omega)) ?_
        show sw_w E _ 120 (72, [some (2, 0), some (0, c), some (0, x)], [(0, mo_wt (mo_cd ν 0) c)]) s (mm_u ν 0 0 0) _
        refine sw_p 1 (f' := (81, [some (2, 0), some (0, c), some (0, x)], [(0, mo_wt (mo_cd ν 0) c)])) rfl ?_
        exact sw_retI rfl rfl rfl ⟨by first | rw [if_pos (by omega)] | rw [if_neg (by omega), if_pos (by omega)] | rw [if_neg (by omega), if_neg (by omega), if_pos (by omega)] | rw [if_neg (by omega), if_neg (by omega), if_neg (by omega)], rfl, rfl⟩
    · skip
      refine sw_p 1 (f' := (54, [some (2, 0), some (0, c), some (0, x)], [(2, 0)])) rfl ?_
      refine sw_hA (pn := 57) (i := 16) (v := 16) rfl rfl rfl rfl rfl hs.1 (mo_s16 hs).1 (by omega) ?_
      refine sw_p 1 (f' := (58, [some (2, 0), some (0, c), some (0, x)], [(0, c), (2, 16)])) rfl ?_
      refine sw_ial (pn := 59) (l := 40) rfl rfl (by omega) (mo_s16 hs).2.1 (mo_s16 hs).2.2 (by omega) (by omega) ?_
      rw [show (mm_u ν 0 0 0) 16 c = ν 16 c from mm_u_ne (by omega)]
      refine sw_p 1 (f' := (81, [some (2, 0), some (0, c), some (0, x)], [(0, ν 16 c)])) rfl ?_
      exact sw_retI rfl rfl rfl ⟨by first | rw [if_pos (by omega)] | rw [if_neg (by omega), if_pos (by omega)] | rw [if_neg (by omega), if_neg (by omega), if_pos (by omega)] | rw [if_neg (by omega), if_neg (by omega), if_neg (by omega)], rfl, rfl⟩
  · skip
    refine sw_p 1 (f' := (40, [some (2, 0), some (0, c), some (0, x)], [(2, 0)])) rfl ?_
    refine sw_hA (pn := 43) (i := 15) (v := 15) rfl rfl rfl rfl rfl hs.1 (mo_s15 hs).1 (by omega) ?_
    refine sw_p 1 (f' := (44, [some (2, 0), some (0, c), some (0, x)], [(0, c), (2, 15)])) rfl ?_
    refine sw_ial (pn := 45) (l := 40) rfl rfl (by omega) (mo_s15 hs).2.1 (mo_s15 hs).2.2 (by omega) (by omega) ?_
    rw [show (mm_u ν 0 0 0) 15 c = ν 15 c from mm_u_ne (by omega)]
    refine sw_p 1 (f' := (81, [some (2, 0), some (0, c), some (0, x)], [(0, ν 15 c)])) rfl ?_
    exact sw_retI rfl rfl rfl ⟨by first | rw [if_pos (by omega)] | rw [if_neg (by omega), if_pos (by omega)] | rw [if_neg (by omega), if_neg (by omega), if_pos (by omega)] | rw [if_neg (by omega), if_neg (by omega), if_neg (by omega)], rfl, rfl⟩
theorem mo_card_0 (hs : mo_sh s) (hB : mo_B ν) (hc : -2147483648 ≤ c ∧ c < 2147483648) (hx : -2147483648 ≤ x ∧ x < 2147483648) (h0 : ¬ (0 ≤ c ∧ c < ν 0 12)) : sw_w E (d + 1) 120 (0, [some (2, 0), some (0, c), some (0, x)], []) s ν (sw_is (some (0, 0)) s (mo_cd ν 1)) := by
  have hn := hB.2.2.1
  refine sw_p 3 (f' := (3, [some (2, 0), some (0, c), some (0, x)], [(0, c), (2, 0), (2, 0)])) rfl ?_
  refine sw_cv1 (pn := 6) (q0 := mj_Mo_card) (q := mj_Mo_isCard) (p := 0) (as2 := [(0, c)]) (L2 := [some (2, 0), some (0, c)]) (rest := [(2, 0)]) (v := some (0, 0)) (s1 := s) (ν1 := ν) rfl rfl rfl rfl rfl rfl rfl rfl rfl hs.1 (mo_isC0 hs hB (by omega) (by omega)) ?_
  show sw_w E _ 120 (6, [some (2, 0), some (0, c), some (0, x)], [(0, 0), (2, 0)]) s ν _
  refine sw_eq1 (pt := 22) (pn := 9) rfl rfl rfl (by omega) (fun _ => ?_) (fun h => absurd h (by decide))
  refine sw_p 1 (f' := (23, [some (2, 0), some (0, c), some (0, x)], [(0, 1), (2, 0)])) rfl ?_
  refine sw_pI (pn := 26) (i := 0) rfl rfl rfl rfl rfl (by omega) hs.1 ?_
  refine sw_p 1 (f' := (27, [some (2, 0), some (0, c), some (0, x)], [(2, 0)])) rfl ?_
  refine sw_gI (pn := 30) (i := 0) rfl rfl rfl rfl rfl (by omega) hs.1 ?_
  rw [show (mm_u ν 0 0 1) 0 0 = 1 from mm_u_at]
  refine sw_le1 (pt := 35) (pn := 33) rfl rfl rfl (by omega) (fun h => absurd h (by decide)) (fun _ => ?_)
  refine sw_p 1 (f' := (34, [some (2, 0), some (0, c), some (0, x)], [(0, 0)])) rfl ?_
  exact sw_retI rfl rfl rfl ⟨rfl, rfl, rfl⟩
theorem mo_card_2 (hs : mo_sh s) (hB : mo_B ν) (hx : -2147483648 ≤ x ∧ x < 2147483648) (hc : 0 ≤ c ∧ c < ν 0 12) (h0 : ¬ (0 ≤ x ∧ x ≤ 3)) : sw_w E (d + 1) 120 (0, [some (2, 0), some (0, c), some (0, x)], []) s ν (sw_is (some (0, 0)) s (mo_cd ν 1)) := by
  have hn := hB.2.2.1
  refine sw_p 3 (f' := (3, [some (2, 0), some (0, c), some (0, x)], [(0, c), (2, 0), (2, 0)])) rfl ?_
  refine sw_cv1 (pn := 6) (q0 := mj_Mo_card) (q := mj_Mo_isCard) (p := 0) (as2 := [(0, c)]) (L2 := [some (2, 0), some (0, c)]) (rest := [(2, 0)]) (v := some (0, 1)) (s1 := s) (ν1 := ν) rfl rfl rfl rfl rfl rfl rfl rfl rfl hs.1 (mo_isC1 hs hB (by omega)) ?_
  show sw_w E _ 120 (6, [some (2, 0), some (0, c), some (0, x)], [(0, 1), (2, 0)]) s ν _
  refine sw_eq1 (pt := 22) (pn := 9) rfl rfl rfl (by omega) (fun h => absurd h (by decide)) (fun _ => ?_)
  refine sw_p 3 (f' := (12, [some (2, 0), some (0, c), some (0, x)], [(0, 3), (0, 0), (0, x), (2, 0)])) rfl ?_
  refine sw_cs1 (pn := 15) (q0 := mj_Mo_card) (q := mj_Mo_within) (L2 := [some (0, x), some (0, 0), some (0, 3)]) (rest := [(2, 0)]) (v := some (0, 0)) (s1 := s) (ν1 := ν) rfl rfl rfl rfl rfl rfl rfl rfl (mo_in0 (by omega) (by omega) (by omega) (by omega)) ?_
  show sw_w E _ 120 (15, [some (2, 0), some (0, c), some (0, x)], [(0, 0), (2, 0)]) s ν _
  refine sw_eq1 (pt := 22) (pn := 18) rfl rfl rfl (by omega) (fun _ => ?_) (fun h => absurd h (by decide))
  refine sw_p 1 (f' := (23, [some (2, 0), some (0, c), some (0, x)], [(0, 1), (2, 0)])) rfl ?_
  refine sw_pI (pn := 26) (i := 0) rfl rfl rfl rfl rfl (by omega) hs.1 ?_
  refine sw_p 1 (f' := (27, [some (2, 0), some (0, c), some (0, x)], [(2, 0)])) rfl ?_
  refine sw_gI (pn := 30) (i := 0) rfl rfl rfl rfl rfl (by omega) hs.1 ?_
  rw [show (mm_u ν 0 0 1) 0 0 = 1 from mm_u_at]
  refine sw_le1 (pt := 35) (pn := 33) rfl rfl rfl (by omega) (fun h => absurd h (by decide)) (fun _ => ?_)
  refine sw_p 1 (f' := (34, [some (2, 0), some (0, c), some (0, x)], [(0, 0)])) rfl ?_
  exact sw_retI rfl rfl rfl ⟨rfl, rfl, rfl⟩
end MO6
end
section
/-! the reference: bridge, request, leave, pull -/
section MO7
variable {E : mv_E} {s ν : mm_T} {d : Nat} {b c r x y w p f g k t v lo hi l : Int}
theorem mo_cnt_cd {z : Int} : ∀ (n : Nat) (k : Int), mo_cnt (mo_cd ν z) n k = mo_cnt ν n k
  | 0, k => rfl
  | n + 1, k => by
    unfold mo_cnt
    rw [show mo_cd ν z 3 k = ν 3 k from mm_u_ne (by omega), mo_cnt_cd n]
theorem mo_pd_cd {z : Int} : mo_pd (mo_cd ν z) c = mo_pd ν c := by
  funext t
  unfold mo_pd
  rw [show mo_cd ν z 25 t = ν 25 t from mm_u_ne (by omega), show mo_cd ν z 28 t = ν 28 t from mm_u_ne (by omega)]
theorem mo_wt_cd {z : Int} : mo_wt (mo_cd ν z) c = mo_wt ν c := by
  unfold mo_wt
  rw [mo_pd_cd, show mo_cd ν z 0 24 = ν 0 24 from mm_u_ne (by omega)]
theorem mo_pd_b (ν : mm_T) (c t : Int) : 0 ≤ mo_pd ν c t ∧ mo_pd ν c t ≤ 1 := by unfold mo_pd; split <;> omega
theorem mo_wt_b (hB : mo_B ν) : 0 ≤ mo_wt ν c ∧ mo_wt ν c ≤ 512 := by
  have h1 := hB.2.2.2.2.2.1
  have h2 := sm_b (g := mo_pd ν c) (M := 1) (fun i _ => mo_pd_b ν c i) (ν 0 24).toNat
  unfold mo_wt
  omega
/-- a bridge added -/
def mo_br (ν : mm_T) (b x l : Int) : mm_T := mm_u (mm_u (mm_u (mm_u (mo_cd ν 0) 2 (4 * b + x) (ν 0 1)) 3 (ν 0 1) b) 4 (ν 0 1) l) 0 1 (ν 0 1 + 1)
/-- a request made -/
def mo_rq (ν : mm_T) (c x w : Int) : mm_T := mm_u (mm_u (mm_u (mm_u (mm_u (mo_cd ν 0) 25 (ν 0 24) c) 26 (ν 0 24) x) 27 (ν 0 24) w) 28 (ν 0 24) 1099511627776) 0 24 (ν 0 24 + 1)
theorem mo_bridge_ok (hs : mo_sh s) (hB : mo_B ν) (hb : 0 ≤ b ∧ b < ν 0 1) (hx : 0 ≤ x ∧ x ≤ 3) (hl : 0 ≤ l ∧ l ≤ 1000) (h1 : ν 2 (4 * b + x) = -1) (h2 : ν 0 1 ≠ 8) (h3 : mo_cnt ν 8 (ν 3 b) ≠ 4) (h4 : ν 0 21 < 0) : sw_w E (d + 1) 83 (0, [some (2, 0), some (0, b), some (0, x), some (0, l)], []) s ν (sw_is (some (0, ν 0 1 + 1 - 1)) s (mo_br ν b x l)) := by
  have hn := hB.1
  have hcm := hB.2.2.2.1
  have hcc := hB.2.2.1
  have hsl := hB.2.2.2.2.2.2.2.1 (4 * b + x)
  have hct := mo_cnt_b ν 8 (ν 3 b)
  refine sw_p 3 (f' := (3, [some (2, 0), some (0, b), some (0, x), some (0, l)], [(0, b), (2, 0), (2, 0)])) rfl ?_
  refine sw_cv1 (pn := 6) (q0 := mj_Mo_bridge) (q := mj_Mo_isBridge) (p := 0) (as2 := [(0, b)]) (L2 := [some (2, 0), some (0, b)]) (rest := [(2, 0)]) (v := some (0, 1)) (s1 := s) (ν1 := ν) rfl rfl rfl rfl rfl rfl rfl rfl rfl hs.1 (mo_isB1 hs hB (by omega)) ?_
  show sw_w E _ 83 (6, [some (2, 0), some (0, b), some (0, x), some (0, l)], [(0, 1), (2, 0)]) s ν _
  refine sw_eq1 (pt := 33) (pn := 9) rfl rfl rfl (by omega) (fun h => absurd h (by decide)) (fun _ => ?_)
  refine sw_p 3 (f' := (12, [some (2, 0), some (0, b), some (0, x), some (0, l)], [(0, 3), (0, 0), (0, x), (2, 0)])) rfl ?_
  refine sw_cs1 (pn := 15) (q0 := mj_Mo_bridge) (q := mj_Mo_within) (L2 := [some (0, x), some (0, 0), some (0, 3)]) (rest := [(2, 0)]) (v := some (0, 1)) (s1 := s) (ν1 := ν) rfl rfl rfl rfl rfl rfl rfl rfl (mo_in1 (by omega) (by omega) (by omega) (by omega)) ?_
  show sw_w E _ 83 (15, [some (2, 0), some (0, b), some (0, x), some (0, l)], [(0, 1), (2, 0)]) s ν _
  refine sw_eq1 (pt := 33) (pn := 18) rfl rfl rfl (by omega) (fun h => absurd h (by decide)) (fun _ => ?_)
  refine sw_p 3 (f' := (23, [some (2, 0), some (0, b), some (0, x), some (0, l)], [(0, 1000), (0, 0), (0, l), (2, 0)])) rfl ?_
  refine sw_cs1 (pn := 26) (q0 := mj_Mo_bridge) (q := mj_Mo_within) (L2 := [some (0, l), some (0, 0), some (0, 1000)]) (rest := [(2, 0)]) (v := some (0, 1)) (s1 := s) (ν1 := ν) rfl rfl rfl rfl rfl rfl rfl rfl (mo_in1 (by omega) (by omega) (by omega) (by omega)) ?_
  show sw_w E _ 83 (26, [some (2, 0), some (0, b), some (0, x), some (0, l)], [(0, 1), (2, 0)]) s ν _
  refine sw_eq1 (pt := 33) (pn := 29) rfl rfl rfl (by omega) (fun h => absurd h (by decide)) (fun _ => ?_)
  refine sw_p 2 (f' := (34, [some (2, 0), some (0, b), some (0, x), some (0, l)], [(0, 0), (2, 0)])) rfl ?_
  refine sw_pI (pn := 37) (i := 0) rfl rfl rfl rfl rfl (by omega) hs.1 ?_
  refine sw_p 1 (f' := (38, [some (2, 0), some (0, b), some (0, x), some (0, l)], [(2, 0)])) rfl ?_
  refine sw_gI (pn := 41) (i := 0) rfl rfl rfl rfl rfl (by omega) hs.1 ?_
  rw [show (mm_u ν 0 0 0) 0 0 = 0 from mm_u_at]
  refine sw_ne1 (pt := 88) (pn := 44) rfl rfl rfl (by omega) (fun h => absurd h (by decide)) (fun _ => ?_)
  refine sw_p 1 (f' := (45, [some (2, 0), some (0, b), some (0, x), some (0, l)], [(2, 0)])) rfl ?_
  refine sw_hA (pn := 48) (i := 2) (v := 2) rfl rfl rfl rfl rfl hs.1 (mo_s2 hs).1 (by omega) ?_
  refine sw_p 5 (f' := (53, [some (2, 0), some (0, b), some (0, x), some (0, l)], [(0, (4 * b) + x), (2, 2)])) rfl ?_
  refine sw_ial (pn := 54) (l := 32) rfl rfl (by omega) (mo_s2 hs).2.1 (mo_s2 hs).2.2 (by omega) (by omega) ?_
  rw [show (mm_u ν 0 0 0) 2 ((4 * b) + x) = ν 2 ((4 * b) + x) from mm_u_ne (by omega)]
  refine sw_p 1 (f' := (55, [some (2, 0), some (0, b), some (0, x), some (0, l)], [(0, -1), (0, ν 2 ((4 * b) + x))])) rfl ?_
  refine sw_ne2 (pt := 83) (pn := 58) rfl rfl rfl (by omega) (by omega) (fun h => absurd h (by omega)) (fun h5 => ?_)
  refine sw_p 1 (f' := (59, [some (2, 0), some (0, b), some (0, x), some (0, l)], [(2, 0)])) rfl ?_
  refine sw_gI (pn := 62) (i := 1) rfl rfl rfl rfl rfl (by omega) hs.1 ?_
  rw [show (mm_u ν 0 0 0) 0 1 = ν 0 1 from mm_u_ne (by omega)]
  refine sw_p 1 (f' := (64, [some (2, 0), some (0, b), some (0, x), some (0, l)], [(0, 8), (0, ν 0 1)])) rfl ?_
  refine sw_eq2 (pt := 83) (pn := 67) rfl rfl rfl (by omega) (by omega) (fun h => absurd h (by omega)) (fun h6 => ?_)
  refine sw_p 2 (f' := (69, [some (2, 0), some (0, b), some (0, x), some (0, l)], [(0, b), (2, 0)])) rfl ?_
  refine sw_cv1 (pn := 72) (q0 := mj_Mo_bridge) (q := mj_Mo_depthOf) (p := 0) (as2 := [(0, b)]) (L2 := [some (2, 0), some (0, b), none, none]) (rest := []) (v := some (0, mo_cnt ν 8 (ν 3 b))) (s1 := s) (ν1 := (mm_u ν 0 0 0)) rfl rfl rfl rfl rfl rfl rfl rfl rfl hs.1 (by have h := mo_depthOf (E := E) (d := d) (b := b) (s := s) (ν := mo_cd ν 0) hs (mo_B_cd hB).ov (by omega); rw [mo_cnt_cd, show mo_cd ν 0 3 b = ν 3 b from mm_u_ne (by omega)] at h; exact h) ?_
  show sw_w E _ 83 (72, [some (2, 0), some (0, b), some (0, x), some (0, l)], [(0, mo_cnt ν 8 (ν 3 b))]) s (mm_u ν 0 0 0) _
  refine sw_p 1 (f' := (73, [some (2, 0), some (0, b), some (0, x), some (0, l)], [(0, 4), (0, mo_cnt ν 8 (ν 3 b))])) rfl ?_
  refine sw_eq2 (pt := 83) (pn := 76) rfl rfl rfl (by omega) (by omega) (fun h => absurd h (by omega)) (fun h7 => ?_)
  refine sw_p 1 (f' := (77, [some (2, 0), some (0, b), some (0, x), some (0, l)], [(2, 0)])) rfl ?_
  refine sw_gI (pn := 80) (i := 21) rfl rfl rfl rfl rfl (by omega) hs.1 ?_
  rw [show (mm_u ν 0 0 0) 0 21 = ν 0 21 from mm_u_ne (by omega)]
  refine sw_lt1 (pt := 88) (pn := 83) rfl rfl rfl (by omega) (fun h8 => ?_) (fun h => absurd h (by omega))
  refine sw_p 1 (f' := (89, [some (2, 0), some (0, b), some (0, x), some (0, l)], [(2, 0)])) rfl ?_
  refine sw_gI (pn := 92) (i := 0) rfl rfl rfl rfl rfl (by omega) hs.1 ?_
  rw [show (mm_u ν 0 0 0) 0 0 = 0 from mm_u_at]
  refine sw_le1 (pt := 97) (pn := 95) rfl rfl rfl (by omega) (fun _ => ?_) (fun h => absurd h (by decide))
  refine sw_p 1 (f' := (98, [some (2, 0), some (0, b), some (0, x), some (0, l)], [(2, 0)])) rfl ?_
  refine sw_hA (pn := 101) (i := 2) (v := 2) rfl rfl rfl rfl rfl hs.1 (mo_s2 hs).1 (by omega) ?_
  refine sw_p 6 (f' := (107, [some (2, 0), some (0, b), some (0, x), some (0, l)], [(2, 0), (0, (4 * b) + x), (2, 2)])) rfl ?_
  refine sw_gI (pn := 110) (i := 1) rfl rfl rfl rfl rfl (by omega) hs.1 ?_
  rw [show (mm_u ν 0 0 0) 0 1 = ν 0 1 from mm_u_ne (by omega)]
  refine sw_ias (pn := 111) (l := 32) rfl rfl (by omega) (mo_s2 hs).2.1 (mo_s2 hs).2.2 (by omega) (by omega) ?_
  refine sw_p 1 (f' := (112, [some (2, 0), some (0, b), some (0, x), some (0, l)], [(2, 0)])) rfl ?_
  refine sw_hA (pn := 115) (i := 3) (v := 3) rfl rfl rfl rfl rfl hs.1 (mo_s3 hs).1 (by omega) ?_
  refine sw_p 1 (f' := (116, [some (2, 0), some (0, b), some (0, x), some (0, l)], [(2, 0), (2, 3)])) rfl ?_
  refine sw_gI (pn := 119) (i := 1) rfl rfl rfl rfl rfl (by omega) hs.1 ?_
  rw [show (mm_u (mm_u ν 0 0 0) 2 ((4 * b) + x) (ν 0 1)) 0 1 = ν 0 1 from (mm_u_ne (by omega)).trans (mm_u_ne (by omega))]
  refine sw_p 1 (f' := (120, [some (2, 0), some (0, b), some (0, x), some (0, l)], [(0, b), (0, ν 0 1), (2, 3)])) rfl ?_
  refine sw_ias (pn := 121) (l := 8) rfl rfl (by omega) (mo_s3 hs).2.1 (mo_s3 hs).2.2 (by omega) (by omega) ?_
  refine sw_p 1 (f' := (122, [some (2, 0), some (0, b), some (0, x), some (0, l)], [(2, 0)])) rfl ?_
  refine sw_hA (pn := 125) (i := 4) (v := 4) rfl rfl rfl rfl rfl hs.1 (mo_s4 hs).1 (by omega) ?_
  refine sw_p 1 (f' := (126, [some (2, 0), some (0, b), some (0, x), some (0, l)], [(2, 0), (2, 4)])) rfl ?_
  refine sw_gI (pn := 129) (i := 1) rfl rfl rfl rfl rfl (by omega) hs.1 ?_
  rw [show (mm_u (mm_u (mm_u ν 0 0 0) 2 ((4 * b) + x) (ν 0 1)) 3 (ν 0 1) b) 0 1 = ν 0 1 from (mm_u_ne (by omega)).trans ((mm_u_ne (by omega)).trans (mm_u_ne (by omega)))]
  refine sw_p 1 (f' := (130, [some (2, 0), some (0, b), some (0, x), some (0, l)], [(0, l), (0, ν 0 1), (2, 4)])) rfl ?_
  refine sw_ias (pn := 131) (l := 8) rfl rfl (by omega) (mo_s4 hs).2.1 (mo_s4 hs).2.2 (by omega) (by omega) ?_
  refine sw_p 2 (f' := (133, [some (2, 0), some (0, b), some (0, x), some (0, l)], [(2, 0), (2, 0)])) rfl ?_
  refine sw_gI (pn := 136) (i := 1) rfl rfl rfl rfl rfl (by omega) hs.1 ?_
  rw [show (mm_u (mm_u (mm_u (mm_u ν 0 0 0) 2 ((4 * b) + x) (ν 0 1)) 3 (ν 0 1) b) 4 (ν 0 1) l) 0 1 = ν 0 1 from (mm_u_ne (by omega)).trans ((mm_u_ne (by omega)).trans ((mm_u_ne (by omega)).trans (mm_u_ne (by omega))))]
  refine sw_p 2 (f' := (138, [some (2, 0), some (0, b), some (0, x), some (0, l)], [(0, (ν 0 1) + 1), (2, 0)])) rfl ?_
  refine sw_pI (pn := 141) (i := 1) rfl rfl rfl rfl rfl (by omega) hs.1 ?_
  refine sw_p 1 (f' := (142, [some (2, 0), some (0, b), some (0, x), some (0, l)], [(2, 0)])) rfl ?_
  refine sw_gI (pn := 145) (i := 1) rfl rfl rfl rfl rfl (by omega) hs.1 ?_
  rw [show (mm_u (mm_u (mm_u (mm_u (mm_u ν 0 0 0) 2 ((4 * b) + x) (ν 0 1)) 3 (ν 0 1) b) 4 (ν 0 1) l) 0 1 ((ν 0 1) + 1)) 0 1 = (ν 0 1) + 1 from mm_u_at]
  refine sw_p 2 (f' := (147, [some (2, 0), some (0, b), some (0, x), some (0, l)], [(0, ((ν 0 1) + 1) - 1)])) rfl ?_
  exact sw_retI rfl rfl rfl ⟨rfl, rfl, rfl⟩
theorem mo_bridge_s1 (hs : mo_sh s) (hB : mo_B ν) (hb : 0 ≤ b ∧ b < ν 0 1) (hx : 0 ≤ x ∧ x ≤ 3) (hl : 0 ≤ l ∧ l ≤ 1000) (h1 : ν 2 (4 * b + x) ≠ -1) : sw_w E (d + 1) 83 (0, [some (2, 0), some (0, b), some (0, x), some (0, l)], []) s ν (sw_is (some (0, 0)) s (mm_u (mo_cd ν 0) 0 0 2)) := by
  have hn := hB.1
  have hcm := hB.2.2.2.1
  have hcc := hB.2.2.1
  have hsl := hB.2.2.2.2.2.2.2.1 (4 * b + x)
  have hct := mo_cnt_b ν 8 (ν 3 b)
  refine sw_p 3 (f' := (3, [some (2, 0), some (0, b), some (0, x), some (0, l)], [(0, b), (2, 0), (2, 0)])) rfl ?_
  refine sw_cv1 (pn := 6) (q0 := mj_Mo_bridge) (q := mj_Mo_isBridge) (p := 0) (as2 := [(0, b)]) (L2 := [some (2, 0), some (0, b)]) (rest := [(2, 0)]) (v := some (0, 1)) (s1 := s) (ν1 := ν) rfl rfl rfl rfl rfl rfl rfl rfl rfl hs.1 (mo_isB1 hs hB (by omega)) ?_
  show sw_w E _ 83 (6, [some (2, 0), some (0, b), some (0, x), some (0, l)], [(0, 1), (2, 0)]) s ν _
  refine sw_eq1 (pt := 33) (pn := 9) rfl rfl rfl (by omega) (fun h => absurd h (by decide)) (fun _ => ?_)
  refine sw_p 3 (f' := (12, [some (2, 0), some (0, b), some (0, x), some (0, l)], [(0, 3), (0, 0), (0, x), (2, 0)])) rfl ?_
  refine sw_cs1 (pn := 15) (q0 := mj_Mo_bridge) (q := mj_Mo_within) (L2 := [some (0, x), some (0, 0), some (0, 3)]) (rest := [(2, 0)]) (v := some (0, 1)) (s1 := s) (ν1 := ν) rfl rfl rfl rfl rfl rfl rfl rfl (mo_in1 (by omega) (by omega) (by omega) (by omega)) ?_
  show sw_w E _ 83 (15, [some (2, 0), some (0, b), some (0, x), some (0, l)], [(0, 1), (2, 0)]) s ν _
  refine sw_eq1 (pt := 33) (pn := 18) rfl rfl rfl (by omega) (fun h => absurd h (by decide)) (fun _ => ?_)
  refine sw_p 3 (f' := (23, [some (2, 0), some (0, b), some (0, x), some (0, l)], [(0, 1000), (0, 0), (0, l), (2, 0)])) rfl ?_
  refine sw_cs1 (pn := 26) (q0 := mj_Mo_bridge) (q := mj_Mo_within) (L2 := [some (0, l), some (0, 0), some (0, 1000)]) (rest := [(2, 0)]) (v := some (0, 1)) (s1 := s) (ν1 := ν) rfl rfl rfl rfl rfl rfl rfl rfl (mo_in1 (by omega) (by omega) (by omega) (by omega)) ?_
  show sw_w E _ 83 (26, [some (2, 0), some (0, b), some (0, x), some (0, l)], [(0, 1), (2, 0)]) s ν _
  refine sw_eq1 (pt := 33) (pn := 29) rfl rfl rfl (by omega) (fun h => absurd h (by decide)) (fun _ => ?_)
  refine sw_p 2 (f' := (34, [some (2, 0), some (0, b), some (0, x), some (0, l)], [(0, 0), (2, 0)])) rfl ?_
  refine sw_pI (pn := 37) (i := 0) rfl rfl rfl rfl rfl (by omega) hs.1 ?_
  refine sw_p 1 (f' := (38, [some (2, 0), some (0, b), some (0, x), some (0, l)], [(2, 0)])) rfl ?_
  refine sw_gI (pn := 41) (i := 0) rfl rfl rfl rfl rfl (by omega) hs.1 ?_
  rw [show (mm_u ν 0 0 0) 0 0 = 0 from mm_u_at]
  refine sw_ne1 (pt := 88) (pn := 44) rfl rfl rfl (by omega) (fun h => absurd h (by decide)) (fun _ => ?_)
  refine sw_p 1 (f' := (45, [some (2, 0), some (0, b), some (0, x), some (0, l)], [(2, 0)])) rfl ?_
  refine sw_hA (pn := 48) (i := 2) (v := 2) rfl rfl rfl rfl rfl hs.1 (mo_s2 hs).1 (by omega) ?_
  refine sw_p 5 (f' := (53, [some (2, 0), some (0, b), some (0, x), some (0, l)], [(0, (4 * b) + x), (2, 2)])) rfl ?_
  refine sw_ial (pn := 54) (l := 32) rfl rfl (by omega) (mo_s2 hs).2.1 (mo_s2 hs).2.2 (by omega) (by omega) ?_
  rw [show (mm_u ν 0 0 0) 2 ((4 * b) + x) = ν 2 ((4 * b) + x) from mm_u_ne (by omega)]
  refine sw_p 1 (f' := (55, [some (2, 0), some (0, b), some (0, x), some (0, l)], [(0, -1), (0, ν 2 ((4 * b) + x))])) rfl ?_
  refine sw_ne2 (pt := 83) (pn := 58) rfl rfl rfl (by omega) (by omega) (fun h5 => ?_) (fun h => absurd h (by omega))
  refine sw_p 2 (f' := (85, [some (2, 0), some (0, b), some (0, x), some (0, l)], [(0, 2), (2, 0)])) rfl ?_
  refine sw_pI (pn := 88) (i := 0) rfl rfl rfl rfl rfl (by omega) hs.1 ?_
  refine sw_p 1 (f' := (89, [some (2, 0), some (0, b), some (0, x), some (0, l)], [(2, 0)])) rfl ?_
  refine sw_gI (pn := 92) (i := 0) rfl rfl rfl rfl rfl (by omega) hs.1 ?_
  rw [show (mm_u (mm_u ν 0 0 0) 0 0 2) 0 0 = 2 from mm_u_at]
  refine sw_le1 (pt := 97) (pn := 95) rfl rfl rfl (by omega) (fun h => absurd h (by decide)) (fun _ => ?_)
  refine sw_p 1 (f' := (96, [some (2, 0), some (0, b), some (0, x), some (0, l)], [(0, 0)])) rfl ?_
  exact sw_retI rfl rfl rfl ⟨rfl, rfl, rfl⟩
theorem mo_bridge_s2 (hs : mo_sh s) (hB : mo_B ν) (hb : 0 ≤ b ∧ b < ν 0 1) (hx : 0 ≤ x ∧ x ≤ 3) (hl : 0 ≤ l ∧ l ≤ 1000) (h1 : ν 2 (4 * b + x) = -1) (h2 : ν 0 1 = 8) : sw_w E (d + 1) 83 (0, [some (2, 0), some (0, b), some (0, x), some (0, l)], []) s ν (sw_is (some (0, 0)) s (mm_u (mo_cd ν 0) 0 0 2)) := by
  have hn := hB.1
  have hcm := hB.2.2.2.1
  have hcc := hB.2.2.1
  have hsl := hB.2.2.2.2.2.2.2.1 (4 * b + x)
  have hct := mo_cnt_b ν 8 (ν 3 b)
  refine sw_p 3 (f' := (3, [some (2, 0), some (0, b), some (0, x), some (0, l)], [(0, b), (2, 0), (2, 0)])) rfl ?_
  refine sw_cv1 (pn := 6) (q0 := mj_Mo_bridge) (q := mj_Mo_isBridge) (p := 0) (as2 := [(0, b)]) (L2 := [some (2, 0), some (0, b)]) (rest := [(2, 0)]) (v := some (0, 1)) (s1 := s) (ν1 := ν) rfl rfl rfl rfl rfl rfl rfl rfl rfl hs.1 (mo_isB1 hs hB (by omega)) ?_
  show sw_w E _ 83 (6, [some (2, 0), some (0, b), some (0, x), some (0, l)], [(0, 1), (2, 0)]) s ν _
  refine sw_eq1 (pt := 33) (pn := 9) rfl rfl rfl (by omega) (fun h => absurd h (by decide)) (fun _ => ?_)
  refine sw_p 3 (f' := (12, [some (2, 0), some (0, b), some (0, x), some (0, l)], [(0, 3), (0, 0), (0, x), (2, 0)])) rfl ?_
  refine sw_cs1 (pn := 15) (q0 := mj_Mo_bridge) (q := mj_Mo_within) (L2 := [some (0, x), some (0, 0), some (0, 3)]) (rest := [(2, 0)]) (v := some (0, 1)) (s1 := s) (ν1 := ν) rfl rfl rfl rfl rfl rfl rfl rfl (mo_in1 (by omega) (by omega) (by omega) (by omega)) ?_
  show sw_w E _ 83 (15, [some (2, 0), some (0, b), some (0, x), some (0, l)], [(0, 1), (2, 0)]) s ν _
  refine sw_eq1 (pt := 33) (pn := 18) rfl rfl rfl (by omega) (fun h => absurd h (by decide)) (fun _ => ?_)
  refine sw_p 3 (f' := (23, [some (2, 0), some (0, b), some (0, x), some (0, l)], [(0, 1000), (0, 0), (0, l), (2, 0)])) rfl ?_
  refine sw_cs1 (pn := 26) (q0 := mj_Mo_bridge) (q := mj_Mo_within) (L2 := [some (0, l), some (0, 0), some (0, 1000)]) (rest := [(2, 0)]) (v := some (0, 1)) (s1 := s) (ν1 := ν) rfl rfl rfl rfl rfl rfl rfl rfl (mo_in1 (by omega) (by omega) (by omega) (by omega)) ?_
  show sw_w E _ 83 (26, [some (2, 0), some (0, b), some (0, x), some (0, l)], [(0, 1), (2, 0)]) s ν _
  refine sw_eq1 (pt := 33) (pn := 29) rfl rfl rfl (by omega) (fun h => absurd h (by decide)) (fun _ => ?_)
  refine sw_p 2 (f' := (34, [some (2, 0), some (0, b), some (0, x), some (0, l)], [(0, 0), (2, 0)])) rfl ?_
  refine sw_pI (pn := 37) (i := 0) rfl rfl rfl rfl rfl (by omega) hs.1 ?_
  refine sw_p 1 (f' := (38, [some (2, 0), some (0, b), some (0, x), some (0, l)], [(2, 0)])) rfl ?_
  refine sw_gI (pn := 41) (i := 0) rfl rfl rfl rfl rfl (by omega) hs.1 ?_
  rw [show (mm_u ν 0 0 0) 0 0 = 0 from mm_u_at]
  refine sw_ne1 (pt := 88) (pn := 44) rfl rfl rfl (by omega) (fun h => absurd h (by decide)) (fun _ => ?_)
  refine sw_p 1 (f' := (45, [some (2, 0), some (0, b), some (0, x), some (0, l)], [(2, 0)])) rfl ?_
  refine sw_hA (pn := 48) (i := 2) (v := 2) rfl rfl rfl rfl rfl hs.1 (mo_s2 hs).1 (by omega) ?_
  refine sw_p 5 (f' := (53, [some (2, 0), some (0, b), some (0, x), some (0, l)], [(0, (4 * b) + x), (2, 2)])) rfl ?_
  refine sw_ial (pn := 54) (l := 32) rfl rfl (by omega) (mo_s2 hs).2.1 (mo_s2 hs).2.2 (by omega) (by omega) ?_
  rw [show (mm_u ν 0 0 0) 2 ((4 * b) + x) = ν 2 ((4 * b) + x) from mm_u_ne (by omega)]
  refine sw_p 1 (f' := (55, [some (2, 0), some (0, b), some (0, x), some (0, l)], [(0, -1), (0, ν 2 ((4 * b) + x))])) rfl ?_
  refine sw_ne2 (pt := 83) (pn := 58) rfl rfl rfl (by omega) (by omega) (fun h => absurd h (by omega)) (fun h5 => ?_)
  refine sw_p 1 (f' := (59, [some (2, 0), some (0, b), some (0, x), some (0, l)], [(2, 0)])) rfl ?_
  refine sw_gI (pn := 62) (i := 1) rfl rfl rfl rfl rfl (by omega) hs.1 ?_
  rw [show (mm_u ν 0 0 0) 0 1 = ν 0 1 from mm_u_ne (by omega)]
  refine sw_p 1 (f' := (64, [some (2, 0), some (0, b), some (0, x), some (0, l)], [(0, 8), (0, ν 0 1)])) rfl ?_
  refine sw_eq2 (pt := 83) (pn := 67) rfl rfl rfl (by omega) (by omega) (fun h6 => ?_) (fun h => absurd h (by omega))
  refine sw_p 2 (f' := (85, [some (2, 0), some (0, b), some (0, x), some (0, l)], [(0, 2), (2, 0)])) rfl ?_
  refine sw_pI (pn := 88) (i := 0) rfl rfl rfl rfl rfl (by omega) hs.1 ?_
  refine sw_p 1 (f' := (89, [some (2, 0), some (0, b), some (0, x), some (0, l)], [(2, 0)])) rfl ?_
  refine sw_gI (pn := 92) (i := 0) rfl rfl rfl rfl rfl (by omega) hs.1 ?_
  rw [show (mm_u (mm_u ν 0 0 0) 0 0 2) 0 0 = 2 from mm_u_at]
  refine sw_le1 (pt := 97) (pn := 95) rfl rfl rfl (by omega) (fun h => absurd h (by decide)) (fun _ => ?_)
  refine sw_p 1 (f' := (96, [some (2, 0), some (0, b), some (0, x), some (0, l)], [(0, 0)])) rfl ?_
  exact sw_retI rfl rfl rfl ⟨rfl, rfl, rfl⟩
theorem mo_bridge_s3 (hs : mo_sh s) (hB : mo_B ν) (hb : 0 ≤ b ∧ b < ν 0 1) (hx : 0 ≤ x ∧ x ≤ 3) (hl : 0 ≤ l ∧ l ≤ 1000) (h1 : ν 2 (4 * b + x) = -1) (h2 : ν 0 1 ≠ 8) (h3 : mo_cnt ν 8 (ν 3 b) = 4) : sw_w E (d + 1) 83 (0, [some (2, 0), some (0, b), some (0, x), some (0, l)], []) s ν (sw_is (some (0, 0)) s (mm_u (mo_cd ν 0) 0 0 2)) := by
  have hn := hB.1
  have hcm := hB.2.2.2.1
  have hcc := hB.2.2.1
  have hsl := hB.2.2.2.2.2.2.2.1 (4 * b + x)
  have hct := mo_cnt_b ν 8 (ν 3 b)
  refine sw_p 3 (f' := (3, [some (2, 0), some (0, b), some (0, x), some (0, l)], [(0, b), (2, 0), (2, 0)])) rfl ?_
  refine sw_cv1 (pn := 6) (q0 := mj_Mo_bridge) (q := mj_Mo_isBridge) (p := 0) (as2 := [(0, b)]) (L2 := [some (2, 0), some (0, b)]) (rest := [(2, 0)]) (v := some (0, 1)) (s1 := s) (ν1 := ν) rfl rfl rfl rfl rfl rfl rfl rfl rfl hs.1 (mo_isB1 hs hB (by omega)) ?_
  show sw_w E _ 83 (6, [some (2, 0), some (0, b), some (0, x), some (0, l)], [(0, 1), (2, 0)]) s ν _
  refine sw_eq1 (pt := 33) (pn := 9) rfl rfl rfl (by omega) (fun h => absurd h (by decide)) (fun _ => ?_)
  refine sw_p 3 (f' := (12, [some (2, 0), some (0, b), some (0, x), some (0, l)], [(0, 3), (0, 0), (0, x), (2, 0)])) rfl ?_
  refine sw_cs1 (pn := 15) (q0 := mj_Mo_bridge) (q := mj_Mo_within) (L2 := [some (0, x), some (0, 0), some (0, 3)]) (rest := [(2, 0)]) (v := some (0, 1)) (s1 := s) (ν1 := ν) rfl rfl rfl rfl rfl rfl rfl rfl (mo_in1 (by omega) (by omega) (by omega) (by omega)) ?_
  show sw_w E _ 83 (15, [some (2, 0), some (0, b), some (0, x), some (0, l)], [(0, 1), (2, 0)]) s ν _
  refine sw_eq1 (pt := 33) (pn := 18) rfl rfl rfl (by omega) (fun h => absurd h (by decide)) (fun _ => ?_)
  refine sw_p 3 (f' := (23, [some (2, 0), some (0, b), some (0, x), some (0, l)], [(0, 1000), (0, 0), (0, l), (2, 0)])) rfl ?_
  refine sw_cs1 (pn := 26) (q0 := mj_Mo_bridge) (q := mj_Mo_within) (L2 := [some (0, l), some (0, 0), some (0, 1000)]) (rest := [(2, 0)]) (v := some (0, 1)) (s1 := s) (ν1 := ν) rfl rfl rfl rfl rfl rfl rfl rfl (mo_in1 (by omega) (by omega) (by omega) (by omega)) ?_
  show sw_w E _ 83 (26, [some (2, 0), some (0, b), some (0, x), some (0, l)], [(0, 1), (2, 0)]) s ν _
  refine sw_eq1 (pt := 33) (pn := 29) rfl rfl rfl (by omega) (fun h => absurd h (by decide)) (fun _ => ?_)
  refine sw_p 2 (f' := (34, [some (2, 0), some (0, b), some (0, x), some (0, l)], [(0, 0), (2, 0)])) rfl ?_
  refine sw_pI (pn := 37) (i := 0) rfl rfl rfl rfl rfl (by omega) hs.1 ?_
  refine sw_p 1 (f' := (38, [some (2, 0), some (0, b), some (0, x), some (0, l)], [(2, 0)])) rfl ?_
  refine sw_gI (pn := 41) (i := 0) rfl rfl rfl rfl rfl (by omega) hs.1 ?_
  rw [show (mm_u ν 0 0 0) 0 0 = 0 from mm_u_at]
  refine sw_ne1 (pt := 88) (pn := 44) rfl rfl rfl (by omega) (fun h => absurd h (by decide)) (fun _ => ?_)
  refine sw_p 1 (f' := (45, [some (2, 0), some (0, b), some (0, x), some (0, l)], [(2, 0)])) rfl ?_
  refine sw_hA (pn := 48) (i := 2) (v := 2) rfl rfl rfl rfl rfl hs.1 (mo_s2 hs).1 (by omega) ?_
  refine sw_p 5 (f' := (53, [some (2, 0), some (0, b), some (0, x), some (0, l)], [(0, (4 * b) + x), (2, 2)])) rfl ?_
  refine sw_ial (pn := 54) (l := 32) rfl rfl (by omega) (mo_s2 hs).2.1 (mo_s2 hs).2.2 (by omega) (by omega) ?_
  rw [show (mm_u ν 0 0 0) 2 ((4 * b) + x) = ν 2 ((4 * b) + x) from mm_u_ne (by omega)]
  refine sw_p 1 (f' := (55, [some (2, 0), some (0, b), some (0, x), some (0, l)], [(0, -1), (0, ν 2 ((4 * b) + x))])) rfl ?_
  refine sw_ne2 (pt := 83) (pn := 58) rfl rfl rfl (by omega) (by omega) (fun h => absurd h (by omega)) (fun h5 => ?_)
  refine sw_p 1 (f' := (59, [some (2, 0), some (0, b), some (0, x), some (0, l)], [(2, 0)])) rfl ?_
  refine sw_gI (pn := 62) (i := 1) rfl rfl rfl rfl rfl (by omega) hs.1 ?_
  rw [show (mm_u ν 0 0 0) 0 1 = ν 0 1 from mm_u_ne (by omega)]
  refine sw_p 1 (f' := (64, [some (2, 0), some (0, b), some (0, x), some (0, l)], [(0, 8), (0, ν 0 1)])) rfl ?_
  refine sw_eq2 (pt := 83) (pn := 67) rfl rfl rfl (by omega) (by omega) (fun h => absurd h (by omega)) (fun h6 => ?_)
  refine sw_p 2 (f' := (69, [some (2, 0), some (0, b), some (0, x), some (0, l)], [(0, b), (2, 0)])) rfl ?_
  refine sw_cv1 (pn := 72) (q0 := mj_Mo_bridge) (q := mj_Mo_depthOf) (p := 0) (as2 := [(0, b)]) (L2 := [some (2, 0), some (0, b), none, none]) (rest := []) (v := some (0, mo_cnt ν 8 (ν 3 b))) (s1 := s) (ν1 := (mm_u ν 0 0 0)) rfl rfl rfl rfl rfl rfl rfl rfl rfl hs.1 (by have h := mo_depthOf (E := E) (d := d) (b := b) (s := s) (ν := mo_cd ν 0) hs (mo_B_cd hB).ov (by omega); rw [mo_cnt_cd, show mo_cd ν 0 3 b = ν 3 b from mm_u_ne (by omega)] at h; exact h) ?_
  show sw_w E _ 83 (72, [some (2, 0), some (0, b), some (0, x), some (0, l)], [(0, mo_cnt ν 8 (ν 3 b))]) s (mm_u ν 0 0 0) _
  refine sw_p 1 (f' := (73, [some (2, 0), some (0, b), some (0, x), some (0, l)], [(0, 4), (0, mo_cnt ν 8 (ν 3 b))])) rfl ?_
  refine sw_eq2 (pt := 83) (pn := 76) rfl rfl rfl (by omega) (by omega) (fun h7 => ?_) (fun h => absurd h (by omega))
  refine sw_p 2 (f' := (85, [some (2, 0), some (0, b), some (0, x), some (0, l)], [(0, 2), (2, 0)])) rfl ?_
  refine sw_pI (pn := 88) (i := 0) rfl rfl rfl rfl rfl (by omega) hs.1 ?_
  refine sw_p 1 (f' := (89, [some (2, 0), some (0, b), some (0, x), some (0, l)], [(2, 0)])) rfl ?_
  refine sw_gI (pn := 92) (i := 0) rfl rfl rfl rfl rfl (by omega) hs.1 ?_
  rw [show (mm_u (mm_u ν 0 0 0) 0 0 2) 0 0 = 2 from mm_u_at]
  refine sw_le1 (pt := 97) (pn := 95) rfl rfl rfl (by omega) (fun h => absurd h (by decide)) (fun _ => ?_)
  refine sw_p 1 (f' := (96, [some (2, 0), some (0, b), some (0, x), some (0, l)], [(0, 0)])) rfl ?_
  exact sw_retI rfl rfl rfl ⟨rfl, rfl, rfl⟩
theorem mo_bridge_s4 (hs : mo_sh s) (hB : mo_B ν) (hb : 0 ≤ b ∧ b < ν 0 1) (hx : 0 ≤ x ∧ x ≤ 3) (hl : 0 ≤ l ∧ l ≤ 1000) (h1 : ν 2 (4 * b + x) = -1) (h2 : ν 0 1 ≠ 8) (h3 : mo_cnt ν 8 (ν 3 b) ≠ 4) (h4 : 0 ≤ ν 0 21) : sw_w E (d + 1) 83 (0, [some (2, 0), some (0, b), some (0, x), some (0, l)], []) s ν (sw_is (some (0, 0)) s (mm_u (mo_cd ν 0) 0 0 2)) := by
  have hn := hB.1
  have hcm := hB.2.2.2.1
  have hcc := hB.2.2.1
  have hsl := hB.2.2.2.2.2.2.2.1 (4 * b + x)
  have hct := mo_cnt_b ν 8 (ν 3 b)
  refine sw_p 3 (f' := (3, [some (2, 0), some (0, b), some (0, x), some (0, l)], [(0, b), (2, 0), (2, 0)])) rfl ?_
  refine sw_cv1 (pn := 6) (q0 := mj_Mo_bridge) (q := mj_Mo_isBridge) (p := 0) (as2 := [(0, b)]) (L2 := [some (2, 0), some (0, b)]) (rest := [(2, 0)]) (v := some (0, 1)) (s1 := s) (ν1 := ν) rfl rfl rfl rfl rfl rfl rfl rfl rfl hs.1 (mo_isB1 hs hB (by omega)) ?_
  show sw_w E _ 83 (6, [some (2, 0), some (0, b), some (0, x), some (0, l)], [(0, 1), (2, 0)]) s ν _
  refine sw_eq1 (pt := 33) (pn := 9) rfl rfl rfl (by omega) (fun h => absurd h (by decide)) (fun _ => ?_)
  refine sw_p 3 (f' := (12, [some (2, 0), some (0, b), some (0, x), some (0, l)], [(0, 3), (0, 0), (0, x), (2, 0)])) rfl ?_
  refine sw_cs1 (pn := 15) (q0 := mj_Mo_bridge) (q := mj_Mo_within) (L2 := [some (0, x), some (0, 0), some (0, 3)]) (rest := [(2, 0)]) (v := some (0, 1)) (s1 := s) (ν1 := ν) rfl rfl rfl rfl rfl rfl rfl rfl (mo_in1 (by omega) (by omega) (by omega) (by omega)) ?_
  show sw_w E _ 83 (15, [some (2, 0), some (0, b), some (0, x), some (0, l)], [(0, 1), (2, 0)]) s ν _
  refine sw_eq1 (pt := 33) (pn := 18) rfl rfl rfl (by omega) (fun h => absurd h (by decide)) (fun _ => ?_)
  refine sw_p 3 (f' := (23, [some (2, 0), some (0, b), some (0, x), some (0, l)], [(0, 1000), (0, 0), (0, l), (2, 0)])) rfl ?_
  refine sw_cs1 (pn := 26) (q0 := mj_Mo_bridge) (q := mj_Mo_within) (L2 := [some (0, l), some (0, 0), some (0, 1000)]) (rest := [(2, 0)]) (v := some (0, 1)) (s1 := s) (ν1 := ν) rfl rfl rfl rfl rfl rfl rfl rfl (mo_in1 (by omega) (by omega) (by omega) (by omega)) ?_
  show sw_w E _ 83 (26, [some (2, 0), some (0, b), some (0, x), some (0, l)], [(0, 1), (2, 0)]) s ν _
  refine sw_eq1 (pt := 33) (pn := 29) rfl rfl rfl (by omega) (fun h => absurd h (by decide)) (fun _ => ?_)
  refine sw_p 2 (f' := (34, [some (2, 0), some (0, b), some (0, x), some (0, l)], [(0, 0), (2, 0)])) rfl ?_
  refine sw_pI (pn := 37) (i := 0) rfl rfl rfl rfl rfl (by omega) hs.1 ?_
  refine sw_p 1 (f' := (38, [some (2, 0), some (0, b), some (0, x), some (0, l)], [(2, 0)])) rfl ?_
  refine sw_gI (pn := 41) (i := 0) rfl rfl rfl rfl rfl (by omega) hs.1 ?_
  rw [show (mm_u ν 0 0 0) 0 0 = 0 from mm_u_at]
  refine sw_ne1 (pt := 88) (pn := 44) rfl rfl rfl (by omega) (fun h => absurd h (by decide)) (fun _ => ?_)
  refine sw_p 1 (f' := (45, [some (2, 0), some (0, b), some (0, x), some (0, l)], [(2, 0)])) rfl ?_
  refine sw_hA (pn := 48) (i := 2) (v := 2) rfl rfl rfl rfl rfl hs.1 (mo_s2 hs).1 (by omega) ?_
  refine sw_p 5 (f' := (53, [some (2, 0), some (0, b), some (0, x), some (0, l)], [(0, (4 * b) + x), (2, 2)])) rfl ?_
  refine sw_ial (pn := 54) (l := 32) rfl rfl (by omega) (mo_s2 hs).2.1 (mo_s2 hs).2.2 (by omega) (by omega) ?_
  rw [show (mm_u ν 0 0 0) 2 ((4 * b) + x) = ν 2 ((4 * b) + x) from mm_u_ne (by omega)]
  refine sw_p 1 (f' := (55, [some (2, 0), some (0, b), some (0, x), some (0, l)], [(0, -1), (0, ν 2 ((4 * b) + x))])) rfl ?_
  refine sw_ne2 (pt := 83) (pn := 58) rfl rfl rfl (by omega) (by omega) (fun h => absurd h (by omega)) (fun h5 => ?_)
  refine sw_p 1 (f' := (59, [some (2, 0), some (0, b), some (0, x), some (0, l)], [(2, 0)])) rfl ?_
  refine sw_gI (pn := 62) (i := 1) rfl rfl rfl rfl rfl (by omega) hs.1 ?_
  rw [show (mm_u ν 0 0 0) 0 1 = ν 0 1 from mm_u_ne (by omega)]
  refine sw_p 1 (f' := (64, [some (2, 0), some (0, b), some (0, x), some (0, l)], [(0, 8), (0, ν 0 1)])) rfl ?_
  refine sw_eq2 (pt := 83) (pn := 67) rfl rfl rfl (by omega) (by omega) (fun h => absurd h (by omega)) (fun h6 => ?_)
  refine sw_p 2 (f' := (69, [some (2, 0), some (0, b), some (0, x), some (0, l)], [(0, b), (2, 0)])) rfl ?_
  refine sw_cv1 (pn := 72) (q0 := mj_Mo_bridge) (q := mj_Mo_depthOf) (p := 0) (as2 := [(0, b)]) (L2 := [some (2, 0), some (0, b), none, none]) (rest := []) (v := some (0, mo_cnt ν 8 (ν 3 b))) (s1 := s) (ν1 := (mm_u ν 0 0 0)) rfl rfl rfl rfl rfl rfl rfl rfl rfl hs.1 (by have h := mo_depthOf (E := E) (d := d) (b := b) (s := s) (ν := mo_cd ν 0) hs (mo_B_cd hB).ov (by omega); rw [mo_cnt_cd, show mo_cd ν 0 3 b = ν 3 b from mm_u_ne (by omega)] at h; exact h) ?_
  show sw_w E _ 83 (72, [some (2, 0), some (0, b), some (0, x), some (0, l)], [(0, mo_cnt ν 8 (ν 3 b))]) s (mm_u ν 0 0 0) _
  refine sw_p 1 (f' := (73, [some (2, 0), some (0, b), some (0, x), some (0, l)], [(0, 4), (0, mo_cnt ν 8 (ν 3 b))])) rfl ?_
  refine sw_eq2 (pt := 83) (pn := 76) rfl rfl rfl (by omega) (by omega) (fun h => absurd h (by omega)) (fun h7 => ?_)
  refine sw_p 1 (f' := (77, [some (2, 0), some (0, b), some (0, x), some (0, l)], [(2, 0)])) rfl ?_
  refine sw_gI (pn := 80) (i := 21) rfl rfl rfl rfl rfl (by omega) hs.1 ?_
  rw [show (mm_u ν 0 0 0) 0 21 = ν 0 21 from mm_u_ne (by omega)]
  refine sw_lt1 (pt := 88) (pn := 83) rfl rfl rfl (by omega) (fun h => absurd h (by omega)) (fun h8 => ?_)
  refine sw_p 2 (f' := (85, [some (2, 0), some (0, b), some (0, x), some (0, l)], [(0, 2), (2, 0)])) rfl ?_
  refine sw_pI (pn := 88) (i := 0) rfl rfl rfl rfl rfl (by omega) hs.1 ?_
  refine sw_p 1 (f' := (89, [some (2, 0), some (0, b), some (0, x), some (0, l)], [(2, 0)])) rfl ?_
  refine sw_gI (pn := 92) (i := 0) rfl rfl rfl rfl rfl (by omega) hs.1 ?_
  rw [show (mm_u (mm_u ν 0 0 0) 0 0 2) 0 0 = 2 from mm_u_at]
  refine sw_le1 (pt := 97) (pn := 95) rfl rfl rfl (by omega) (fun h => absurd h (by decide)) (fun _ => ?_)
  refine sw_p 1 (f' := (96, [some (2, 0), some (0, b), some (0, x), some (0, l)], [(0, 0)])) rfl ?_
  exact sw_retI rfl rfl rfl ⟨rfl, rfl, rfl⟩
theorem mo_bridge_b1 (hs : mo_sh s) (hB : mo_B ν) (hb : -2147483648 ≤ b ∧ b < 2147483648) (h0 : ¬ (0 ≤ b ∧ b < ν 0 1)) : sw_w E (d + 1) 83 (0, [some (2, 0), some (0, b), some (0, x), some (0, l)], []) s ν (sw_is (some (0, 0)) s (mo_cd ν 1)) := by
  have hn := hB.1
  refine sw_p 3 (f' := (3, [some (2, 0), some (0, b), some (0, x), some (0, l)], [(0, b), (2, 0), (2, 0)])) rfl ?_
  refine sw_cv1 (pn := 6) (q0 := mj_Mo_bridge) (q := mj_Mo_isBridge) (p := 0) (as2 := [(0, b)]) (L2 := [some (2, 0), some (0, b)]) (rest := [(2, 0)]) (v := some (0, 0)) (s1 := s) (ν1 := ν) rfl rfl rfl rfl rfl rfl rfl rfl rfl hs.1 (mo_isB0 hs hB (by omega) (by omega)) ?_
  show sw_w E _ 83 (6, [some (2, 0), some (0, b), some (0, x), some (0, l)], [(0, 0), (2, 0)]) s ν _
  refine sw_eq1 (pt := 33) (pn := 9) rfl rfl rfl (by omega) (fun _ => ?_) (fun h => absurd h (by decide))
  refine sw_p 1 (f' := (34, [some (2, 0), some (0, b), some (0, x), some (0, l)], [(0, 1), (2, 0)])) rfl ?_
  refine sw_pI (pn := 37) (i := 0) rfl rfl rfl rfl rfl (by omega) hs.1 ?_
  refine sw_p 1 (f' := (38, [some (2, 0), some (0, b), some (0, x), some (0, l)], [(2, 0)])) rfl ?_
  refine sw_gI (pn := 41) (i := 0) rfl rfl rfl rfl rfl (by omega) hs.1 ?_
  rw [show (mm_u ν 0 0 1) 0 0 = 1 from mm_u_at]
  refine sw_ne1 (pt := 88) (pn := 44) rfl rfl rfl (by omega) (fun _ => ?_) (fun h => absurd h (by decide))
  refine sw_p 1 (f' := (89, [some (2, 0), some (0, b), some (0, x), some (0, l)], [(2, 0)])) rfl ?_
  refine sw_gI (pn := 92) (i := 0) rfl rfl rfl rfl rfl (by omega) hs.1 ?_
  rw [show (mm_u ν 0 0 1) 0 0 = 1 from mm_u_at]
  refine sw_le1 (pt := 97) (pn := 95) rfl rfl rfl (by omega) (fun h => absurd h (by decide)) (fun _ => ?_)
  refine sw_p 1 (f' := (96, [some (2, 0), some (0, b), some (0, x), some (0, l)], [(0, 0)])) rfl ?_
  exact sw_retI rfl rfl rfl ⟨rfl, rfl, rfl⟩
theorem mo_bridge_b2 (hs : mo_sh s) (hB : mo_B ν) (hb : 0 ≤ b ∧ b < ν 0 1) (hx : -2147483648 ≤ x ∧ x < 2147483648) (h0 : ¬ (0 ≤ x ∧ x ≤ 3)) : sw_w E (d + 1) 83 (0, [some (2, 0), some (0, b), some (0, x), some (0, l)], []) s ν (sw_is (some (0, 0)) s (mo_cd ν 1)) := by
  have hn := hB.1
  refine sw_p 3 (f' := (3, [some (2, 0), some (0, b), some (0, x), some (0, l)], [(0, b), (2, 0), (2, 0)])) rfl ?_
  refine sw_cv1 (pn := 6) (q0 := mj_Mo_bridge) (q := mj_Mo_isBridge) (p := 0) (as2 := [(0, b)]) (L2 := [some (2, 0), some (0, b)]) (rest := [(2, 0)]) (v := some (0, 1)) (s1 := s) (ν1 := ν) rfl rfl rfl rfl rfl rfl rfl rfl rfl hs.1 (mo_isB1 hs hB (by omega)) ?_
  show sw_w E _ 83 (6, [some (2, 0), some (0, b), some (0, x), some (0, l)], [(0, 1), (2, 0)]) s ν _
  refine sw_eq1 (pt := 33) (pn := 9) rfl rfl rfl (by omega) (fun h => absurd h (by decide)) (fun _ => ?_)
  refine sw_p 3 (f' := (12, [some (2, 0), some (0, b), some (0, x), some (0, l)], [(0, 3), (0, 0), (0, x), (2, 0)])) rfl ?_
  refine sw_cs1 (pn := 15) (q0 := mj_Mo_bridge) (q := mj_Mo_within) (L2 := [some (0, x), some (0, 0), some (0, 3)]) (rest := [(2, 0)]) (v := some (0, 0)) (s1 := s) (ν1 := ν) rfl rfl rfl rfl rfl rfl rfl rfl (mo_in0 (by omega) (by omega) (by omega) (by omega)) ?_
  show sw_w E _ 83 (15, [some (2, 0), some (0, b), some (0, x), some (0, l)], [(0, 0), (2, 0)]) s ν _
  refine sw_eq1 (pt := 33) (pn := 18) rfl rfl rfl (by omega) (fun _ => ?_) (fun h => absurd h (by decide))
  refine sw_p 1 (f' := (34, [some (2, 0), some (0, b), some (0, x), some (0, l)], [(0, 1), (2, 0)])) rfl ?_
  refine sw_pI (pn := 37) (i := 0) rfl rfl rfl rfl rfl (by omega) hs.1 ?_
  refine sw_p 1 (f' := (38, [some (2, 0), some (0, b), some (0, x), some (0, l)], [(2, 0)])) rfl ?_
  refine sw_gI (pn := 41) (i := 0) rfl rfl rfl rfl rfl (by omega) hs.1 ?_
  rw [show (mm_u ν 0 0 1) 0 0 = 1 from mm_u_at]
  refine sw_ne1 (pt := 88) (pn := 44) rfl rfl rfl (by omega) (fun _ => ?_) (fun h => absurd h (by decide))
  refine sw_p 1 (f' := (89, [some (2, 0), some (0, b), some (0, x), some (0, l)], [(2, 0)])) rfl ?_
  refine sw_gI (pn := 92) (i := 0) rfl rfl rfl rfl rfl (by omega) hs.1 ?_
  rw [show (mm_u ν 0 0 1) 0 0 = 1 from mm_u_at]
  refine sw_le1 (pt := 97) (pn := 95) rfl rfl rfl (by omega) (fun h => absurd h (by decide)) (fun _ => ?_)
  refine sw_p 1 (f' := (96, [some (2, 0), some (0, b), some (0, x), some (0, l)], [(0, 0)])) rfl ?_
  exact sw_retI rfl rfl rfl ⟨rfl, rfl, rfl⟩
theorem mo_bridge_b3 (hs : mo_sh s) (hB : mo_B ν) (hb : 0 ≤ b ∧ b < ν 0 1) (hx : 0 ≤ x ∧ x ≤ 3) (hl : -2147483648 ≤ l ∧ l < 2147483648) (h0 : ¬ (0 ≤ l ∧ l ≤ 1000)) : sw_w E (d + 1) 83 (0, [some (2, 0), some (0, b), some (0, x), some (0, l)], []) s ν (sw_is (some (0, 0)) s (mo_cd ν 1)) := by
  have hn := hB.1
  refine sw_p 3 (f' := (3, [some (2, 0), some (0, b), some (0, x), some (0, l)], [(0, b), (2, 0), (2, 0)])) rfl ?_
  refine sw_cv1 (pn := 6) (q0 := mj_Mo_bridge) (q := mj_Mo_isBridge) (p := 0) (as2 := [(0, b)]) (L2 := [some (2, 0), some (0, b)]) (rest := [(2, 0)]) (v := some (0, 1)) (s1 := s) (ν1 := ν) rfl rfl rfl rfl rfl rfl rfl rfl rfl hs.1 (mo_isB1 hs hB (by omega)) ?_
  show sw_w E _ 83 (6, [some (2, 0), some (0, b), some (0, x), some (0, l)], [(0, 1), (2, 0)]) s ν _
  refine sw_eq1 (pt := 33) (pn := 9) rfl rfl rfl (by omega) (fun h => absurd h (by decide)) (fun _ => ?_)
  refine sw_p 3 (f' := (12, [some (2, 0), some (0, b), some (0, x), some (0, l)], [(0, 3), (0, 0), (0, x), (2, 0)])) rfl ?_
  refine sw_cs1 (pn := 15) (q0 := mj_Mo_bridge) (q := mj_Mo_within) (L2 := [some (0, x), some (0, 0), some (0, 3)]) (rest := [(2, 0)]) (v := some (0, 1)) (s1 := s) (ν1 := ν) rfl rfl rfl rfl rfl rfl rfl rfl (mo_in1 (by omega) (by omega) (by omega) (by omega)) ?_
  show sw_w E _ 83 (15, [some (2, 0), some (0, b), some (0, x), some (0, l)], [(0, 1), (2, 0)]) s ν _
  refine sw_eq1 (pt := 33) (pn := 18) rfl rfl rfl (by omega) (fun h => absurd h (by decide)) (fun _ => ?_)
  refine sw_p 3 (f' := (23, [some (2, 0), some (0, b), some (0, x), some (0, l)], [(0, 1000), (0, 0), (0, l), (2, 0)])) rfl ?_
  refine sw_cs1 (pn := 26) (q0 := mj_Mo_bridge) (q := mj_Mo_within) (L2 := [some (0, l), some (0, 0), some (0, 1000)]) (rest := [(2, 0)]) (v := some (0, 0)) (s1 := s) (ν1 := ν) rfl rfl rfl rfl rfl rfl rfl rfl (mo_in0 (by omega) (by omega) (by omega) (by omega)) ?_
  show sw_w E _ 83 (26, [some (2, 0), some (0, b), some (0, x), some (0, l)], [(0, 0), (2, 0)]) s ν _
  refine sw_eq1 (pt := 33) (pn := 29) rfl rfl rfl (by omega) (fun _ => ?_) (fun h => absurd h (by decide))
  refine sw_p 1 (f' := (34, [some (2, 0), some (0, b), some (0, x), some (0, l)], [(0, 1), (2, 0)])) rfl ?_
  refine sw_pI (pn := 37) (i := 0) rfl rfl rfl rfl rfl (by omega) hs.1 ?_
  refine sw_p 1 (f' := (38, [some (2, 0), some (0, b), some (0, x), some (0, l)], [(2, 0)])) rfl ?_
  refine sw_gI (pn := 41) (i := 0) rfl rfl rfl rfl rfl (by omega) hs.1 ?_
  rw [show (mm_u ν 0 0 1) 0 0 = 1 from mm_u_at]
  refine sw_ne1 (pt := 88) (pn := 44) rfl rfl rfl (by omega) (fun _ => ?_) (fun h => absurd h (by decide))
  refine sw_p 1 (f' := (89, [some (2, 0), some (0, b), some (0, x), some (0, l)], [(2, 0)])) rfl ?_
  refine sw_gI (pn := 92) (i := 0) rfl rfl rfl rfl rfl (by omega) hs.1 ?_
  rw [show (mm_u ν 0 0 1) 0 0 = 1 from mm_u_at]
  refine sw_le1 (pt := 97) (pn := 95) rfl rfl rfl (by omega) (fun h => absurd h (by decide)) (fun _ => ?_)
  refine sw_p 1 (f' := (96, [some (2, 0), some (0, b), some (0, x), some (0, l)], [(0, 0)])) rfl ?_
  exact sw_retI rfl rfl rfl ⟨rfl, rfl, rfl⟩
theorem mo_request_ok (hs : mo_sh s) (hB : mo_B ν) (hc : 0 ≤ c ∧ c < ν 0 12) (hx : 0 ≤ x ∧ x < 2147483648) (h1 : ν 15 c = 1 ∨ ν 15 c = 2) (h2 : mo_wt ν c ≠ 8) (h3 : ν 0 24 < 512) : sw_w E (d + 1) 116 (0, [some (2, 0), some (0, c), some (0, x), some (0, w)], []) s ν (sw_is (some (0, ν 0 24 + 1 - 1)) s (mo_rq ν c x w)) := by
  have hn := hB.2.2.1
  have hcd := hB.cd c
  have htk := hB.2.2.2.2.2.1
  have hwb := mo_wt_b (c := c) hB
  refine sw_p 3 (f' := (3, [some (2, 0), some (0, c), some (0, x), some (0, w)], [(0, c), (2, 0), (2, 0)])) rfl ?_
  refine sw_cv1 (pn := 6) (q0 := mj_Mo_request) (q := mj_Mo_isCard) (p := 0) (as2 := [(0, c)]) (L2 := [some (2, 0), some (0, c)]) (rest := [(2, 0)]) (v := some (0, 1)) (s1 := s) (ν1 := ν) rfl rfl rfl rfl rfl rfl rfl rfl rfl hs.1 (mo_isC1 hs hB (by omega)) ?_
  show sw_w E _ 116 (6, [some (2, 0), some (0, c), some (0, x), some (0, w)], [(0, 1), (2, 0)]) s ν _
  refine sw_eq1 (pt := 13) (pn := 9) rfl rfl rfl (by omega) (fun h => absurd h (by decide)) (fun _ => ?_)
  refine sw_p 1 (f' := (10, [some (2, 0), some (0, c), some (0, x), some (0, w)], [(0, x), (2, 0)])) rfl ?_
  refine sw_ge1 (pt := 17) (pn := 13) rfl rfl rfl (by omega) (fun h2 => ?_) (fun h => absurd h (by omega))
  refine sw_p 1 (f' := (18, [some (2, 0), some (0, c), some (0, x), some (0, w)], [(2, 0), (2, 0)])) rfl ?_
  refine sw_hA (pn := 21) (i := 15) (v := 15) rfl rfl rfl rfl rfl hs.1 (mo_s15 hs).1 (by omega) ?_
  refine sw_p 1 (f' := (22, [some (2, 0), some (0, c), some (0, x), some (0, w)], [(0, c), (2, 15), (2, 0)])) rfl ?_
  refine sw_ial (pn := 23) (l := 40) rfl rfl (by omega) (mo_s15 hs).2.1 (mo_s15 hs).2.2 (by omega) (by omega) ?_
  refine sw_p 1 (f' := (24, [some (2, 0), some (0, c), some (0, x), some (0, w)], [(0, 1), (0, ν 15 c), (2, 0)])) rfl ?_
  refine sw_eq2 (pt := 37) (pn := 27) rfl rfl rfl (by omega) (by omega) (fun h3 => ?_) (fun h3 => ?_)
  · skip
    refine sw_p 2 (f' := (39, [some (2, 0), some (0, c), some (0, x), some (0, w)], [(0, c), (2, 0), (2, 0)])) rfl ?_
    refine sw_cv1 (pn := 42) (q0 := mj_Mo_request) (q := mj_Mo_waiting) (p := 0) (as2 := [(0, c)]) (L2 := [some (2, 0), some (0, c), none, none]) (rest := [(2, 0)]) (v := some (0, mo_wt ν c)) (s1 := s) (ν1 := ν) rfl rfl rfl rfl rfl rfl rfl rfl rfl hs.1 (mo_waiting hs hB (by omega)) ?_
    show sw_w E _ 116 (42, [some (2, 0), some (0, c), some (0, x), some (0, w)], [(0, mo_wt ν c), (2, 0)]) s ν _
    refine sw_p 1 (f' := (44, [some (2, 0), some (0, c), some (0, x), some (0, w)], [(0, 8), (0, mo_wt ν c), (2, 0)])) rfl ?_
    refine sw_ne2 (pt := 51) (pn := 47) rfl rfl rfl (by omega) (by omega) (fun h4 => ?_) (fun h => absurd h (by omega))
    refine sw_p 1 (f' := (52, [some (2, 0), some (0, c), some (0, x), some (0, w)], [(0, 0), (2, 0)])) rfl ?_
    refine sw_pI (pn := 55) (i := 0) rfl rfl rfl rfl rfl (by omega) hs.1 ?_
    refine sw_p 1 (f' := (56, [some (2, 0), some (0, c), some (0, x), some (0, w)], [(2, 0)])) rfl ?_
    refine sw_gI (pn := 59) (i := 0) rfl rfl rfl rfl rfl (by omega) hs.1 ?_
    rw [show (mm_u ν 0 0 0) 0 0 = 0 from mm_u_at]
    refine sw_le1 (pt := 64) (pn := 62) rfl rfl rfl (by omega) (fun _ => ?_) (fun h => absurd h (by decide))
    refine sw_p 1 (f' := (65, [some (2, 0), some (0, c), some (0, x), some (0, w)], [(2, 0)])) rfl ?_
    refine sw_hA (pn := 68) (i := 25) (v := 25) rfl rfl rfl rfl rfl hs.1 (mo_s25 hs).1 (by omega) ?_
    refine sw_p 1 (f' := (69, [some (2, 0), some (0, c), some (0, x), some (0, w)], [(2, 0), (2, 25)])) rfl ?_
    refine sw_gI (pn := 72) (i := 24) rfl rfl rfl rfl rfl (by omega) hs.1 ?_
    rw [show (mm_u ν 0 0 0) 0 24 = ν 0 24 from mm_u_ne (by omega)]
    refine sw_p 1 (f' := (73, [some (2, 0), some (0, c), some (0, x), some (0, w)], [(0, c), (0, ν 0 24), (2, 25)])) rfl ?_
    refine sw_ias (pn := 74) (l := 512) rfl rfl (by omega) (mo_s25 hs).2.1 (mo_s25 hs).2.2 (by omega) (by omega) ?_
    refine sw_p 1 (f' := (75, [some (2, 0), some (0, c), some (0, x), some (0, w)], [(2, 0)])) rfl ?_
    refine sw_hA (pn := 78) (i := 26) (v := 26) rfl rfl rfl rfl rfl hs.1 (mo_s26 hs).1 (by omega) ?_
    refine sw_p 1 (f' := (79, [some (2, 0), some (0, c), some (0, x), some (0, w)], [(2, 0), (2, 26)])) rfl ?_
    refine sw_gI (pn := 82) (i := 24) rfl rfl rfl rfl rfl (by omega) hs.1 ?_
    rw [show (mm_u (mm_u ν 0 0 0) 25 (ν 0 24) c) 0 24 = ν 0 24 from (mm_u_ne (by omega)).trans (mm_u_ne (by omega))]
    refine sw_p 1 (f' := (83, [some (2, 0), some (0, c), some (0, x), some (0, w)], [(0, x), (0, ν 0 24), (2, 26)])) rfl ?_
    refine sw_ias (pn := 84) (l := 512) rfl rfl (by omega) (mo_s26 hs).2.1 (mo_s26 hs).2.2 (by omega) (by omega) ?_
    refine sw_p 1 (f' := (85, [some (2, 0), some (0, c), some (0, x), some (0, w)], [(2, 0)])) rfl ?_
    refine sw_hA (pn := 88) (i := 27) (v := 27) rfl rfl rfl rfl rfl hs.1 (mo_s27 hs).1 (by omega) ?_
    refine sw_p 1 (f' := (89, [some (2, 0), some (0, c), some (0, x), some (0, w)], [(2, 0), (2, 27)])) rfl ?_
    refine sw_gI (pn := 92) (i := 24) rfl rfl rfl rfl rfl (by omega) hs.1 ?_
    rw [show (mm_u (mm_u (mm_u ν 0 0 0) 25 (ν 0 24) c) 26 (ν 0 24) x) 0 24 = ν 0 24 from (mm_u_ne (by omega)).trans ((mm_u_ne (by omega)).trans (mm_u_ne (by omega)))]
    refine sw_p 1 (f' := (93, [some (2, 0), some (0, c), some (0, x), some (0, w)], [(0, w), (0, ν 0 24), (2, 27)])) rfl ?_
    refine sw_ias (pn := 94) (l := 512) rfl rfl (by omega) (mo_s27 hs).2.1 (mo_s27 hs).2.2 (by omega) (by omega) ?_
    refine sw_p 1 (f' := (95, [some (2, 0), some (0, c), some (0, x), some (0, w)], [(2, 0)])) rfl ?_
    refine sw_hA (pn := 98) (i := 28) (v := 28) rfl rfl rfl rfl rfl hs.1 (mo_s28 hs).1 (by omega) ?_
    refine sw_p 1 (f' := (99, [some (2, 0), some (0, c), some (0, x), some (0, w)], [(2, 0), (2, 28)])) rfl ?_
    refine sw_gI (pn := 102) (i := 24) rfl rfl rfl rfl rfl (by omega) hs.1 ?_
    rw [show (mm_u (mm_u (mm_u (mm_u ν 0 0 0) 25 (ν 0 24) c) 26 (ν 0 24) x) 27 (ν 0 24) w) 0 24 = ν 0 24 from (mm_u_ne (by omega)).trans ((mm_u_ne (by omega)).trans ((mm_u_ne (by omega)).trans (mm_u_ne (by omega))))]
    refine sw_p 1 (f' := (105, [some (2, 0), some (0, c), some (0, x), some (0, w)], [(1, 1099511627776), (0, ν 0 24), (2, 28)])) rfl ?_
    refine sw_las (pn := 106) (l := 512) rfl rfl (by omega) (mo_s28 hs).2.1 (mo_s28 hs).2.2 (by omega) (by omega) ?_
    refine sw_p 2 (f' := (108, [some (2, 0), some (0, c), some (0, x), some (0, w)], [(2, 0), (2, 0)])) rfl ?_
    refine sw_gI (pn := 111) (i := 24) rfl rfl rfl rfl rfl (by omega) hs.1 ?_
    rw [show (mm_u (mm_u (mm_u (mm_u (mm_u ν 0 0 0) 25 (ν 0 24) c) 26 (ν 0 24) x) 27 (ν 0 24) w) 28 (ν 0 24) 1099511627776) 0 24 = ν 0 24 from (mm_u_ne (by omega)).trans ((mm_u_ne (by omega)).trans ((mm_u_ne (by omega)).trans ((mm_u_ne (by omega)).trans (mm_u_ne (by omega)))))]
    refine sw_p 2 (f' := (113, [some (2, 0), some (0, c), some (0, x), some (0, w)], [(0, (ν 0 24) + 1), (2, 0)])) rfl ?_
    refine sw_pI (pn := 116) (i := 24) rfl rfl rfl rfl rfl (by omega) hs.1 ?_
    refine sw_p 1 (f' := (117, [some (2, 0), some (0, c), some (0, x), some (0, w)], [(2, 0)])) rfl ?_
    refine sw_gI (pn := 120) (i := 24) rfl rfl rfl rfl rfl (by omega) hs.1 ?_
    rw [show (mm_u (mm_u (mm_u (mm_u (mm_u (mm_u ν 0 0 0) 25 (ν 0 24) c) 26 (ν 0 24) x) 27 (ν 0 24) w) 28 (ν 0 24) 1099511627776) 0 24 ((ν 0 24) + 1)) 0 24 = (ν 0 24) + 1 from mm_u_at]
    refine sw_p 2 (f' := (122, [some (2, 0), some (0, c), some (0, x), some (0, w)], [(0, ((ν 0 24) + 1) - 1)])) rfl ?_
    exact sw_retI rfl rfl rfl ⟨rfl, rfl, rfl⟩
  · skip
    refine sw_p 1 (f' := (28, [some (2, 0), some (0, c), some (0, x), some (0, w)], [(2, 0), (2, 0)])) rfl ?_
    refine sw_hA (pn := 31) (i := 15) (v := 15) rfl rfl rfl rfl rfl hs.1 (mo_s15 hs).1 (by omega) ?_
    refine sw_p 1 (f' := (32, [some (2, 0), some (0, c), some (0, x), some (0, w)], [(0, c), (2, 15), (2, 0)])) rfl ?_
    refine sw_ial (pn := 33) (l := 40) rfl rfl (by omega) (mo_s15 hs).2.1 (mo_s15 hs).2.2 (by omega) (by omega) ?_
    refine sw_p 1 (f' := (34, [some (2, 0), some (0, c), some (0, x), some (0, w)], [(0, 2), (0, ν 15 c), (2, 0)])) rfl ?_
    refine sw_ne2 (pt := 47) (pn := 37) rfl rfl rfl (by omega) (by omega) (fun h => absurd h (by omega)) (fun h6 => ?_)
    refine sw_p 2 (f' := (39, [some (2, 0), some (0, c), some (0, x), some (0, w)], [(0, c), (2, 0), (2, 0)])) rfl ?_
    refine sw_cv1 (pn := 42) (q0 := mj_Mo_request) (q := mj_Mo_waiting) (p := 0) (as2 := [(0, c)]) (L2 := [some (2, 0), some (0, c), none, none]) (rest := [(2, 0)]) (v := some (0, mo_wt ν c)) (s1 := s) (ν1 := ν) rfl rfl rfl rfl rfl rfl rfl rfl rfl hs.1 (mo_waiting hs hB (by omega)) ?_
    show sw_w E _ 116 (42, [some (2, 0), some (0, c), some (0, x), some (0, w)], [(0, mo_wt ν c), (2, 0)]) s ν _
    refine sw_p 1 (f' := (44, [some (2, 0), some (0, c), some (0, x), some (0, w)], [(0, 8), (0, mo_wt ν c), (2, 0)])) rfl ?_
    refine sw_ne2 (pt := 51) (pn := 47) rfl rfl rfl (by omega) (by omega) (fun h7 => ?_) (fun h => absurd h (by omega))
    refine sw_p 1 (f' := (52, [some (2, 0), some (0, c), some (0, x), some (0, w)], [(0, 0), (2, 0)])) rfl ?_
    refine sw_pI (pn := 55) (i := 0) rfl rfl rfl rfl rfl (by omega) hs.1 ?_
    refine sw_p 1 (f' := (56, [some (2, 0), some (0, c), some (0, x), some (0, w)], [(2, 0)])) rfl ?_
    refine sw_gI (pn := 59) (i := 0) rfl rfl rfl rfl rfl (by omega) hs.1 ?_
    rw [show (mm_u ν 0 0 0) 0 0 = 0 from mm_u_at]
    refine sw_le1 (pt := 64) (pn := 62) rfl rfl rfl (by omega) (fun _ => ?_) (fun h => absurd h (by decide))
    refine sw_p 1 (f' := (65, [some (2, 0), some (0, c), some (0, x), some (0, w)], [(2, 0)])) rfl ?_
    refine sw_hA (pn := 68) (i := 25) (v := 25) rfl rfl rfl rfl rfl hs.1 (mo_s25 hs).1 (by omega) ?_
    refine sw_p 1 (f' := (69, [some (2, 0), some (0, c), some (0, x), some (0, w)], [(2, 0), (2, 25)])) rfl ?_
    refine sw_gI (pn := 72) (i := 24) rfl rfl rfl rfl rfl (by omega) hs.1 ?_
    rw [show (mm_u ν 0 0 0) 0 24 = ν 0 24 from mm_u_ne (by omega)]
    refine sw_p 1 (f' := (73, [some (2, 0), some (0, c), some (0, x), some (0, w)], [(0, c), (0, ν 0 24), (2, 25)])) rfl ?_
    refine sw_ias (pn := 74) (l := 512) rfl rfl (by omega) (mo_s25 hs).2.1 (mo_s25 hs).2.2 (by omega) (by omega) ?_
    refine sw_p 1 (f' := (75, [some (2, 0), some (0, c), some (0, x), some (0, w)], [(2, 0)])) rfl ?_
    refine sw_hA (pn := 78) (i := 26) (v := 26) rfl rfl rfl rfl rfl hs.1 (mo_s26 hs).1 (by omega) ?_
    refine sw_p 1 (f' := (79, [some (2, 0), some (0, c), some (0, x), some (0, w)], [(2, 0), (2, 26)])) rfl ?_
    refine sw_gI (pn := 82) (i := 24) rfl rfl rfl rfl rfl (by omega) hs.1 ?_
    rw [show (mm_u (mm_u ν 0 0 0) 25 (ν 0 24) c) 0 24 = ν 0 24 from (mm_u_ne (by omega)).trans (mm_u_ne (by omega))]
    refine sw_p 1 (f' := (83, [some (2, 0), some (0, c), some (0, x), some (0, w)], [(0, x), (0, ν 0 24), (2, 26)])) rfl ?_
    refine sw_ias (pn := 84) (l := 512) rfl rfl (by omega) (mo_s26 hs).2.1 (mo_s26 hs).2.2 (by omega) (by omega) ?_
    refine sw_p 1 (f' := (85, [some (2, 0), some (0, c), some (0, x), some (0, w)], [(2, 0)])) rfl ?_
    refine sw_hA (pn := 88) (i := 27) (v := 27) rfl rfl rfl rfl rfl hs.1 (mo_s27 hs).1 (by omega) ?_
    refine sw_p 1 (f' := (89, [some (2, 0), some (0, c), some (0, x), some (0, w)], [(2, 0), (2, 27)])) rfl ?_
    refine sw_gI (pn := 92) (i := 24) rfl rfl rfl rfl rfl (by omega) hs.1 ?_
    rw [show (mm_u (mm_u (mm_u ν 0 0 0) 25 (ν 0 24) c) 26 (ν 0 24) x) 0 24 = ν 0 24 from (mm_u_ne (by omega)).trans ((mm_u_ne (by omega)).trans (mm_u_ne (by omega)))]
    refine sw_p 1 (f' := (93, [some (2, 0), some (0, c), some (0, x), some (0, w)], [(0, w), (0, ν 0 24), (2, 27)])) rfl ?_
    refine sw_ias (pn := 94) (l := 512) rfl rfl (by omega) (mo_s27 hs).2.1 (mo_s27 hs).2.2 (by omega) (by omega) ?_
    refine sw_p 1 (f' := (95, [some (2, 0), some (0, c), some (0, x), some (0, w)], [(2, 0)])) rfl ?_
    refine sw_hA (pn := 98) (i := 28) (v := 28) rfl rfl rfl rfl rfl hs.1 (mo_s28 hs).1 (by omega) ?_
    refine sw_p 1 (f' := (99, [some (2, 0), some (0, c), some (0, x), some (0, w)], [(2, 0), (2, 28)])) rfl ?_
    refine sw_gI (pn := 102) (i := 24) rfl rfl rfl rfl rfl (by omega) hs.1 ?_
    rw [show (mm_u (mm_u (mm_u (mm_u ν 0 0 0) 25 (ν 0 24) c) 26 (ν 0 24) x) 27 (ν 0 24) w) 0 24 = ν 0 24 from (mm_u_ne (by omega)).trans ((mm_u_ne (by omega)).trans ((mm_u_ne (by omega)).trans (mm_u_ne (by omega))))]
    refine sw_p 1 (f' := (105, [some (2, 0), some (0, c), some (0, x), some (0, w)], [(1, 1099511627776), (0, ν 0 24), (2, 28)])) rfl ?_
    refine sw_las (pn := 106) (l := 512) rfl rfl (by omega) (mo_s28 hs).2.1 (mo_s28 hs).2.2 (by omega) (by omega) ?_
    refine sw_p 2 (f' := (108, [some (2, 0), some (0, c), some (0, x), some (0, w)], [(2, 0), (2, 0)])) rfl ?_
    refine sw_gI (pn := 111) (i := 24) rfl rfl rfl rfl rfl (by omega) hs.1 ?_
    rw [show (mm_u (mm_u (mm_u (mm_u (mm_u ν 0 0 0) 25 (ν 0 24) c) 26 (ν 0 24) x) 27 (ν 0 24) w) 28 (ν 0 24) 1099511627776) 0 24 = ν 0 24 from (mm_u_ne (by omega)).trans ((mm_u_ne (by omega)).trans ((mm_u_ne (by omega)).trans ((mm_u_ne (by omega)).trans (mm_u_ne (by omega)))))]
    refine sw_p 2 (f' := (113, [some (2, 0), some (0, c), some (0, x), some (0, w)], [(0, (ν 0 24) + 1), (2, 0)])) rfl ?_
    refine sw_pI (pn := 116) (i := 24) rfl rfl rfl rfl rfl (by omega) hs.1 ?_
    refine sw_p 1 (f' := (117, [some (2, 0), some (0, c), some (0, x), some (0, w)], [(2, 0)])) rfl ?_
    refine sw_gI (pn := 120) (i := 24) rfl rfl rfl rfl rfl (by omega) hs.1 ?_
    rw [show (mm_u (mm_u (mm_u (mm_u (mm_u (mm_u ν 0 0 0) 25 (ν 0 24) c) 26 (ν 0 24) x) 27 (ν 0 24) w) 28 (ν 0 24) 1099511627776) 0 24 ((ν 0 24) + 1)) 0 24 = (ν 0 24) + 1 from mm_u_at]
    refine sw_p 2 (f' := (122, [some (2, 0), some (0, c), some (0, x), some (0, w)], [(0, ((ν 0 24) + 1) - 1)])) rfl ?_
    exact sw_retI rfl rfl rfl ⟨rfl, rfl, rfl⟩
theorem mo_request_s1 (hs : mo_sh s) (hB : mo_B ν) (hc : 0 ≤ c ∧ c < ν 0 12) (hx : 0 ≤ x ∧ x < 2147483648) (h1 : ν 15 c ≠ 1) (h2 : ν 15 c ≠ 2) : sw_w E (d + 1) 116 (0, [some (2, 0), some (0, c), some (0, x), some (0, w)], []) s ν (sw_is (some (0, 0)) s (mo_cd ν 2)) := by
  have hn := hB.2.2.1
  have hcd := hB.cd c
  have htk := hB.2.2.2.2.2.1
  have hwb := mo_wt_b (c := c) hB
  refine sw_p 3 (f' := (3, [some (2, 0), some (0, c), some (0, x), some (0, w)], [(0, c), (2, 0), (2, 0)])) rfl ?_
  refine sw_cv1 (pn := 6) (q0 := mj_Mo_request) (q := mj_Mo_isCard) (p := 0) (as2 := [(0, c)]) (L2 := [some (2, 0), some (0, c)]) (rest := [(2, 0)]) (v := some (0, 1)) (s1 := s) (ν1 := ν) rfl rfl rfl rfl rfl rfl rfl rfl rfl hs.1 (mo_isC1 hs hB (by omega)) ?_
  show sw_w E _ 116 (6, [some (2, 0), some (0, c), some (0, x), some (0, w)], [(0, 1), (2, 0)]) s ν _
  refine sw_eq1 (pt := 13) (pn := 9) rfl rfl rfl (by omega) (fun h => absurd h (by decide)) (fun _ => ?_)
  refine sw_p 1 (f' := (10, [some (2, 0), some (0, c), some (0, x), some (0, w)], [(0, x), (2, 0)])) rfl ?_
  refine sw_ge1 (pt := 17) (pn := 13) rfl rfl rfl (by omega) (fun h2 => ?_) (fun h => absurd h (by omega))
  refine sw_p 1 (f' := (18, [some (2, 0), some (0, c), some (0, x), some (0, w)], [(2, 0), (2, 0)])) rfl ?_
  refine sw_hA (pn := 21) (i := 15) (v := 15) rfl rfl rfl rfl rfl hs.1 (mo_s15 hs).1 (by omega) ?_
  refine sw_p 1 (f' := (22, [some (2, 0), some (0, c), some (0, x), some (0, w)], [(0, c), (2, 15), (2, 0)])) rfl ?_
  refine sw_ial (pn := 23) (l := 40) rfl rfl (by omega) (mo_s15 hs).2.1 (mo_s15 hs).2.2 (by omega) (by omega) ?_
  refine sw_p 1 (f' := (24, [some (2, 0), some (0, c), some (0, x), some (0, w)], [(0, 1), (0, ν 15 c), (2, 0)])) rfl ?_
  refine sw_eq2 (pt := 37) (pn := 27) rfl rfl rfl (by omega) (by omega) (fun h => absurd h (by omega)) (fun h3 => ?_)
  refine sw_p 1 (f' := (28, [some (2, 0), some (0, c), some (0, x), some (0, w)], [(2, 0), (2, 0)])) rfl ?_
  refine sw_hA (pn := 31) (i := 15) (v := 15) rfl rfl rfl rfl rfl hs.1 (mo_s15 hs).1 (by omega) ?_
  refine sw_p 1 (f' := (32, [some (2, 0), some (0, c), some (0, x), some (0, w)], [(0, c), (2, 15), (2, 0)])) rfl ?_
  refine sw_ial (pn := 33) (l := 40) rfl rfl (by omega) (mo_s15 hs).2.1 (mo_s15 hs).2.2 (by omega) (by omega) ?_
  refine sw_p 1 (f' := (34, [some (2, 0), some (0, c), some (0, x), some (0, w)], [(0, 2), (0, ν 15 c), (2, 0)])) rfl ?_
  refine sw_ne2 (pt := 47) (pn := 37) rfl rfl rfl (by omega) (by omega) (fun h4 => ?_) (fun h => absurd h (by omega))
  refine sw_p 2 (f' := (52, [some (2, 0), some (0, c), some (0, x), some (0, w)], [(0, 2), (2, 0)])) rfl ?_
  refine sw_pI (pn := 55) (i := 0) rfl rfl rfl rfl rfl (by omega) hs.1 ?_
  refine sw_p 1 (f' := (56, [some (2, 0), some (0, c), some (0, x), some (0, w)], [(2, 0)])) rfl ?_
  refine sw_gI (pn := 59) (i := 0) rfl rfl rfl rfl rfl (by omega) hs.1 ?_
  rw [show (mm_u ν 0 0 2) 0 0 = 2 from mm_u_at]
  refine sw_le1 (pt := 64) (pn := 62) rfl rfl rfl (by omega) (fun h => absurd h (by decide)) (fun _ => ?_)
  refine sw_p 1 (f' := (63, [some (2, 0), some (0, c), some (0, x), some (0, w)], [(0, 0)])) rfl ?_
  exact sw_retI rfl rfl rfl ⟨rfl, rfl, rfl⟩
theorem mo_request_s2 (hs : mo_sh s) (hB : mo_B ν) (hc : 0 ≤ c ∧ c < ν 0 12) (hx : 0 ≤ x ∧ x < 2147483648) (h1 : ν 15 c = 1 ∨ ν 15 c = 2) (h2 : mo_wt ν c = 8) : sw_w E (d + 1) 116 (0, [some (2, 0), some (0, c), some (0, x), some (0, w)], []) s ν (sw_is (some (0, 0)) s (mo_cd ν 2)) := by
  have hn := hB.2.2.1
  have hcd := hB.cd c
  have htk := hB.2.2.2.2.2.1
  have hwb := mo_wt_b (c := c) hB
  refine sw_p 3 (f' := (3, [some (2, 0), some (0, c), some (0, x), some (0, w)], [(0, c), (2, 0), (2, 0)])) rfl ?_
  refine sw_cv1 (pn := 6) (q0 := mj_Mo_request) (q := mj_Mo_isCard) (p := 0) (as2 := [(0, c)]) (L2 := [some (2, 0), some (0, c)]) (rest := [(2, 0)]) (v := some (0, 1)) (s1 := s) (ν1 := ν) rfl rfl rfl rfl rfl rfl rfl rfl rfl hs.1 (mo_isC1 hs hB (by omega)) ?_
  show sw_w E _ 116 (6, [some (2, 0), some (0, c), some (0, x), some (0, w)], [(0, 1), (2, 0)]) s ν _
  refine sw_eq1 (pt := 13) (pn := 9) rfl rfl rfl (by omega) (fun h => absurd h (by decide)) (fun _ => ?_)
  refine sw_p 1 (f' := (10, [some (2, 0), some (0, c), some (0, x), some (0, w)], [(0, x), (2, 0)])) rfl ?_
  refine sw_ge1 (pt := 17) (pn := 13) rfl rfl rfl (by omega) (fun h2 => ?_) (fun h => absurd h (by omega))
  refine sw_p 1 (f' := (18, [some (2, 0), some (0, c), some (0, x), some (0, w)], [(2, 0), (2, 0)])) rfl ?_
  refine sw_hA (pn := 21) (i := 15) (v := 15) rfl rfl rfl rfl rfl hs.1 (mo_s15 hs).1 (by omega) ?_
  refine sw_p 1 (f' := (22, [some (2, 0), some (0, c), some (0, x), some (0, w)], [(0, c), (2, 15), (2, 0)])) rfl ?_
  refine sw_ial (pn := 23) (l := 40) rfl rfl (by omega) (mo_s15 hs).2.1 (mo_s15 hs).2.2 (by omega) (by omega) ?_
  refine sw_p 1 (f' := (24, [some (2, 0), some (0, c), some (0, x), some (0, w)], [(0, 1), (0, ν 15 c), (2, 0)])) rfl ?_
  refine sw_eq2 (pt := 37) (pn := 27) rfl rfl rfl (by omega) (by omega) (fun h3 => ?_) (fun h3 => ?_)
  · skip
    refine sw_p 2 (f' := (39, [some (2, 0), some (0, c), some (0, x), some (0, w)], [(0, c), (2, 0), (2, 0)])) rfl ?_
    refine sw_cv1 (pn := 42) (q0 := mj_Mo_request) (q := mj_Mo_waiting) (p := 0) (as2 := [(0, c)]) (L2 := [some (2, 0), some (0, c), none, none]) (rest := [(2, 0)]) (v := some (0, mo_wt ν c)) (s1 := s) (ν1 := ν) rfl rfl rfl rfl rfl rfl rfl rfl rfl hs.1 (mo_waiting hs hB (by omega)) ?_
    show sw_w E _ 116 (42, [some (2, 0), some (0, c), some (0, x), some (0, w)], [(0, mo_wt ν c), (2, 0)]) s ν _
    refine sw_p 1 (f' := (44, [some (2, 0), some (0, c), some (0, x), some (0, w)], [(0, 8), (0, mo_wt ν c), (2, 0)])) rfl ?_
    refine sw_ne2 (pt := 51) (pn := 47) rfl rfl rfl (by omega) (by omega) (fun h => absurd h (by omega)) (fun h4 => ?_)
    refine sw_p 2 (f' := (52, [some (2, 0), some (0, c), some (0, x), some (0, w)], [(0, 2), (2, 0)])) rfl ?_
    refine sw_pI (pn := 55) (i := 0) rfl rfl rfl rfl rfl (by omega) hs.1 ?_
    refine sw_p 1 (f' := (56, [some (2, 0), some (0, c), some (0, x), some (0, w)], [(2, 0)])) rfl ?_
    refine sw_gI (pn := 59) (i := 0) rfl rfl rfl rfl rfl (by omega) hs.1 ?_
    rw [show (mm_u ν 0 0 2) 0 0 = 2 from mm_u_at]
    refine sw_le1 (pt := 64) (pn := 62) rfl rfl rfl (by omega) (fun h => absurd h (by decide)) (fun _ => ?_)
    refine sw_p 1 (f' := (63, [some (2, 0), some (0, c), some (0, x), some (0, w)], [(0, 0)])) rfl ?_
    exact sw_retI rfl rfl rfl ⟨rfl, rfl, rfl⟩
  · skip
    refine sw_p 1 (f' := (28, [some (2, 0), some (0, c), some (0, x), some (0, w)], [(2, 0), (2, 0)])) rfl ?_
    refine sw_hA (pn := 31) (i := 15) (v := 15) rfl rfl rfl rfl rfl hs.1 (mo_s15 hs).1 (by omega) ?_
    refine sw_p 1 (f' := (32, [some (2, 0), some (0, c), some (0, x), some (0, w)], [(0, c), (2, 15), (2, 0)])) rfl ?_
    refine sw_ial (pn := 33) (l := 40) rfl rfl (by omega) (mo_s15 hs).2.1 (mo_s15 hs).2.2 (by omega) (by omega) ?_
    refine sw_p 1 (f' := (34, [some (2, 0), some (0, c), some (0, x), some (0, w)], [(0, 2), (0, ν 15 c), (2, 0)])) rfl ?_
    refine sw_ne2 (pt := 47) (pn := 37) rfl rfl rfl (by omega) (by omega) (fun h => absurd h (by omega)) (fun h6 => ?_)
    refine sw_p 2 (f' := (39, [some (2, 0), some (0, c), some (0, x), some (0, w)], [(0, c), (2, 0), (2, 0)])) rfl ?_
    refine sw_cv1 (pn := 42) (q0 := mj_Mo_request) (q := mj_Mo_waiting) (p := 0) (as2 := [(0, c)]) (L2 := [some (2, 0), some (0, c), none, none]) (rest := [(2, 0)]) (v := some (0, mo_wt ν c)) (s1 := s) (ν1 := ν) rfl rfl rfl rfl rfl rfl rfl rfl rfl hs.1 (mo_waiting hs hB (by omega)) ?_
    show sw_w E _ 116 (42, [some (2, 0), some (0, c), some (0, x), some (0, w)], [(0, mo_wt ν c), (2, 0)]) s ν _
    refine sw_p 1 (f' := (44, [some (2, 0), some (0, c), some (0, x), some (0, w)], [(0, 8), (0, mo_wt ν c), (2, 0)])) rfl ?_
    refine sw_ne2 (pt := 51) (pn := 47) rfl rfl rfl (by omega) (by omega) (fun h => absurd h (by omega)) (fun h7 => ?_)
    refine sw_p 2 (f' := (52, [some (2, 0), some (0, c), some (0, x), some (0, w)], [(0, 2), (2, 0)])) rfl ?_
    refine sw_pI (pn := 55) (i := 0) rfl rfl rfl rfl rfl (by omega) hs.1 ?_
    refine sw_p 1 (f' := (56, [some (2, 0), some (0, c), some (0, x), some (0, w)], [(2, 0)])) rfl ?_
    refine sw_gI (pn := 59) (i := 0) rfl rfl rfl rfl rfl (by omega) hs.1 ?_
    rw [show (mm_u ν 0 0 2) 0 0 = 2 from mm_u_at]
    refine sw_le1 (pt := 64) (pn := 62) rfl rfl rfl (by omega) (fun h => absurd h (by decide)) (fun _ => ?_)
    refine sw_p 1 (f' := (63, [some (2, 0), some (0, c), some (0, x), some (0, w)], [(0, 0)])) rfl ?_
    exact sw_retI rfl rfl rfl ⟨rfl, rfl, rfl⟩
theorem mo_request_b1 (hs : mo_sh s) (hB : mo_B ν) (hc : -2147483648 ≤ c ∧ c < 2147483648) (h0 : ¬ (0 ≤ c ∧ c < ν 0 12)) : sw_w E (d + 1) 116 (0, [some (2, 0), some (0, c), some (0, x), some (0, w)], []) s ν (sw_is (some (0, 0)) s (mo_cd ν 1)) := by
  have hn := hB.2.2.1
  have hcd := hB.cd c
  have htk := hB.2.2.2.2.2.1
  have hwb := mo_wt_b (c := c) hB
  refine sw_p 3 (f' := (3, [some (2, 0), some (0, c), some (0, x), some (0, w)], [(0, c), (2, 0), (2, 0)])) rfl ?_
  refine sw_cv1 (pn := 6) (q0 := mj_Mo_request) (q := mj_Mo_isCard) (p := 0) (as2 := [(0, c)]) (L2 := [some (2, 0), some (0, c)]) (rest := [(2, 0)]) (v := some (0, 0)) (s1 := s) (ν1 := ν) rfl rfl rfl rfl rfl rfl rfl rfl rfl hs.1 (mo_isC0 hs hB (by omega) (by omega)) ?_
  show sw_w E _ 116 (6, [some (2, 0), some (0, c), some (0, x), some (0, w)], [(0, 0), (2, 0)]) s ν _
  refine sw_eq1 (pt := 13) (pn := 9) rfl rfl rfl (by omega) (fun _ => ?_) (fun h => absurd h (by decide))
  refine sw_p 2 (f' := (52, [some (2, 0), some (0, c), some (0, x), some (0, w)], [(0, 1), (2, 0)])) rfl ?_
  refine sw_pI (pn := 55) (i := 0) rfl rfl rfl rfl rfl (by omega) hs.1 ?_
  refine sw_p 1 (f' := (56, [some (2, 0), some (0, c), some (0, x), some (0, w)], [(2, 0)])) rfl ?_
  refine sw_gI (pn := 59) (i := 0) rfl rfl rfl rfl rfl (by omega) hs.1 ?_
  rw [show (mm_u ν 0 0 1) 0 0 = 1 from mm_u_at]
  refine sw_le1 (pt := 64) (pn := 62) rfl rfl rfl (by omega) (fun h => absurd h (by decide)) (fun _ => ?_)
  refine sw_p 1 (f' := (63, [some (2, 0), some (0, c), some (0, x), some (0, w)], [(0, 0)])) rfl ?_
  exact sw_retI rfl rfl rfl ⟨rfl, rfl, rfl⟩
theorem mo_request_b2 (hs : mo_sh s) (hB : mo_B ν) (hc : 0 ≤ c ∧ c < ν 0 12) (hx : -2147483648 ≤ x ∧ x < 0) : sw_w E (d + 1) 116 (0, [some (2, 0), some (0, c), some (0, x), some (0, w)], []) s ν (sw_is (some (0, 0)) s (mo_cd ν 1)) := by
  have hn := hB.2.2.1
  have hcd := hB.cd c
  have htk := hB.2.2.2.2.2.1
  have hwb := mo_wt_b (c := c) hB
  refine sw_p 3 (f' := (3, [some (2, 0), some (0, c), some (0, x), some (0, w)], [(0, c), (2, 0), (2, 0)])) rfl ?_
  refine sw_cv1 (pn := 6) (q0 := mj_Mo_request) (q := mj_Mo_isCard) (p := 0) (as2 := [(0, c)]) (L2 := [some (2, 0), some (0, c)]) (rest := [(2, 0)]) (v := some (0, 1)) (s1 := s) (ν1 := ν) rfl rfl rfl rfl rfl rfl rfl rfl rfl hs.1 (mo_isC1 hs hB (by omega)) ?_
  show sw_w E _ 116 (6, [some (2, 0), some (0, c), some (0, x), some (0, w)], [(0, 1), (2, 0)]) s ν _
  refine sw_eq1 (pt := 13) (pn := 9) rfl rfl rfl (by omega) (fun h => absurd h (by decide)) (fun _ => ?_)
  refine sw_p 1 (f' := (10, [some (2, 0), some (0, c), some (0, x), some (0, w)], [(0, x), (2, 0)])) rfl ?_
  refine sw_ge1 (pt := 17) (pn := 13) rfl rfl rfl (by omega) (fun h => absurd h (by omega)) (fun h2 => ?_)
  refine sw_p 2 (f' := (52, [some (2, 0), some (0, c), some (0, x), some (0, w)], [(0, 1), (2, 0)])) rfl ?_
  refine sw_pI (pn := 55) (i := 0) rfl rfl rfl rfl rfl (by omega) hs.1 ?_
  refine sw_p 1 (f' := (56, [some (2, 0), some (0, c), some (0, x), some (0, w)], [(2, 0)])) rfl ?_
  refine sw_gI (pn := 59) (i := 0) rfl rfl rfl rfl rfl (by omega) hs.1 ?_
  rw [show (mm_u ν 0 0 1) 0 0 = 1 from mm_u_at]
  refine sw_le1 (pt := 64) (pn := 62) rfl rfl rfl (by omega) (fun h => absurd h (by decide)) (fun _ => ?_)
  refine sw_p 1 (f' := (63, [some (2, 0), some (0, c), some (0, x), some (0, w)], [(0, 0)])) rfl ?_
  exact sw_retI rfl rfl rfl ⟨rfl, rfl, rfl⟩
end MO7
end
section
/-! the reference: leave, pull; bounds stay -/
section MO8
variable {E : mv_E} {s ν : mm_T} {d : Nat} {b c r x y w p f g k t v lo hi l z : Int}
set_option maxHeartbeats 1000000 in
theorem mo_B_15 (h : mo_B ν) (hz : 0 ≤ z ∧ z ≤ 5) : mo_B (mm_u ν 15 c z) := by
  have e : ∀ {p i : Int}, p ≠ 15 → mm_u ν 15 c z p i = ν p i := fun h => mm_u_ne (by omega)
  obtain ⟨h1, h2, h3, h4, h5, h6, h7, h8, h9, h10, h11, h12, h13, h14⟩ := h
  refine ⟨?_, ?_, ?_, ?_, ?_, ?_, ?_, ?_, ?_, ?_, ?_, ?_, ?_, ?_⟩
  · rw [e (by omega)]; exact h1
  · rw [e (by omega)]; exact h2
  · rw [e (by omega)]; exact h3
  · rw [e (by omega), e (by omega)]; exact h4
  · rw [e (by omega)]; exact h5
  · rw [e (by omega)]; exact h6
  · intro k a b; rw [e (by omega)]; exact h7 k a b
  · intro k a b; rw [e (by omega)]; exact h8 k a b
  · intro k a b; rw [e (by omega)]; exact h9 k a b
  · intro k a b; rw [e (by omega)]; exact h10 k a b
  · intro k a b
    rw [e (p := 13) (by omega), e (p := 14) (by omega), e (p := 19) (by omega)]
    have h := h11 k a b
    refine ⟨h.1, h.2.1, ?_, h.2.2.2⟩
    by_cases hk : k = c
    · rw [hk, mm_u_at]; exact hz
    · rw [mm_u_ne (by omega)]; exact h.2.2.1
  · intro k a b; rw [e (by omega)]; exact h12 k a b
  · intro k a b; rw [e (by omega)]; exact h13 k a b
  · intro k a b; rw [e (by omega), e (by omega), e (by omega)]; exact h14 k a b
set_option maxHeartbeats 1000000 in
theorem mo_B_ch (h : mo_B ν) (hz : 0 ≤ y ∧ y ≤ 5) : mo_B (mo_ch ν x y) := by
  have e : ∀ {p i : Int}, p ≠ 15 → mo_ch ν x y p i = ν p i := fun h => rg_ne (by omega)
  obtain ⟨h1, h2, h3, h4, h5, h6, h7, h8, h9, h10, h11, h12, h13, h14⟩ := h
  refine ⟨?_, ?_, ?_, ?_, ?_, ?_, ?_, ?_, ?_, ?_, ?_, ?_, ?_, ?_⟩
  · rw [e (by omega)]; exact h1
  · rw [e (by omega)]; exact h2
  · rw [e (by omega)]; exact h3
  · rw [e (by omega), e (by omega)]; exact h4
  · rw [e (by omega)]; exact h5
  · rw [e (by omega)]; exact h6
  · intro k a b; rw [e (by omega)]; exact h7 k a b
  · intro k a b; rw [e (by omega)]; exact h8 k a b
  · intro k a b; rw [e (by omega)]; exact h9 k a b
  · intro k a b; rw [e (by omega)]; exact h10 k a b
  · intro k a b
    rw [e (p := 13) (by omega), e (p := 14) (by omega), e (p := 19) (by omega)]
    have h := h11 k a b
    refine ⟨h.1, h.2.1, ?_, h.2.2.2⟩
    unfold mo_ch
    by_cases hk : k < ν 0 12
    · rw [rg_at ⟨a, hk⟩]
      split
      · exact hz
      · exact h.2.2.1
    · rw [rg_ne (by omega)]; exact h.2.2.1
  · intro k a b; rw [e (by omega)]; exact h12 k a b
  · intro k a b; rw [e (by omega)]; exact h13 k a b
  · intro k a b; rw [e (by omega), e (by omega), e (by omega)]; exact h14 k a b
/-- what is read of a memory with a card taken out -/
theorem mo_rm_ne (hp : p ≠ 0) (h2 : p ≠ 2) (h15 : p ≠ 15) (h17 : p ≠ 17) (h19 : p ≠ 19) : mo_rm ν c y p k = ν p k := by
  unfold mo_rm mo_rm3 mo_rm2 mo_rm1
  rw [mm_u_ne (by omega), rg_ne (by omega), rg_ne (by omega), mm_u_ne (by omega), mm_u_ne (by omega)]
theorem mo_rm_0 (hk : k ≠ 21) : mo_rm ν c y 0 k = ν 0 k := by
  unfold mo_rm
  rw [mm_u_ne (by omega), mo_rm3_0]
theorem mo_rm_21 : mo_rm ν c y 0 21 = if ν 0 21 = c then -1 else ν 0 21 := by
  unfold mo_rm
  rw [mm_u_at]
theorem mo_rm_2 (hk : 0 ≤ k ∧ k < 32) : mo_rm ν c y 2 k = if ν 2 k = 100 + c then -1 else ν 2 k := by
  unfold mo_rm mo_rm3
  rw [mm_u_ne (by omega), rg_at hk]
theorem mo_rm_15 : mo_rm ν c y 15 k = if k = c then y else ν 15 k := by
  unfold mo_rm mo_rm3 mo_rm2 mo_rm1
  rw [mm_u_ne (by omega), rg_ne (by omega), rg_ne (by omega), mm_u_ne (by omega)]
  by_cases h : k = c
  · rw [if_pos h, h, mm_u_at]
  · rw [if_neg h, mm_u_ne (by omega)]
theorem mo_rm_19 : mo_rm ν c y 19 k = if k = c then 0 else ν 19 k := by
  unfold mo_rm mo_rm3 mo_rm2 mo_rm1
  rw [mm_u_ne (by omega), rg_ne (by omega), rg_ne (by omega)]
  by_cases h : k = c
  · rw [if_pos h, h, mm_u_at]
  · rw [if_neg h, mm_u_ne (by omega), mm_u_ne (by omega)]
theorem mo_rm_17 : mo_rm ν c y 17 k = if 3 * c ≤ k ∧ k < 3 * c + 3 then -1 else ν 17 k := by
  unfold mo_rm mo_rm3 mo_rm2 mo_rm1
  rw [mm_u_ne (by omega), rg_ne (by omega)]
  by_cases h : 3 * c ≤ k ∧ k < 3 * c + 3
  · rw [if_pos h, rg_at h]
  · rw [if_neg h, rg_ne (by omega), mm_u_ne (by omega), mm_u_ne (by omega)]
set_option maxHeartbeats 1000000 in
theorem mo_B_rm (h : mo_B ν) (hc : 0 ≤ c) (hz : 0 ≤ y ∧ y ≤ 5) : mo_B (mo_rm ν c y) := by
  have e : ∀ {p i : Int}, p ≠ 0 ∧ p ≠ 2 ∧ p ≠ 15 ∧ p ≠ 17 ∧ p ≠ 19 → mo_rm ν c y p i = ν p i := fun h => mo_rm_ne h.1 h.2.1 h.2.2.1 h.2.2.2.1 h.2.2.2.2
  obtain ⟨h1, h2, h3, h4, h5, h6, h7, h8, h9, h10, h11, h12, h13, h14⟩ := h
  refine ⟨?_, ?_, ?_, ?_, ?_, ?_, ?_, ?_, ?_, ?_, ?_, ?_, ?_, ?_⟩
  · rw [mo_rm_0 (by omega)]; exact h1
  · rw [mo_rm_0 (by omega)]; exact h2
  · rw [mo_rm_0 (by omega)]; exact h3
  · rw [mo_rm_0 (k := 12) (by omega), mo_rm_21]; split <;> omega
  · rw [mo_rm_0 (by omega)]; exact h5
  · rw [mo_rm_0 (by omega)]; exact h6
  · intro k a b; rw [e (by omega)]; exact h7 k a b
  · intro k a b
    have h := h8 k a b
    rw [mo_rm_2 ⟨a, b⟩]
    split <;> omega
  · intro k a b; rw [e (by omega)]; exact h9 k a b
  · intro k a b; rw [e (by omega)]; exact h10 k a b
  · intro k a b
    have h := h11 k a b
    rw [e (by omega), e (by omega), mo_rm_15, mo_rm_19]
    refine ⟨h.1, h.2.1, ?_, ?_⟩
    · split <;> omega
    · split <;> omega
  · intro k a b; rw [e (by omega)]; exact h12 k a b
  · intro k a b
    have h := h13 k a b
    rw [mo_rm_17]
    split <;> omega
  · intro k a b; rw [e (by omega), e (by omega), e (by omega)]; exact h14 k a b
theorem mo_fi_b (ν : mm_T) (c : Int) : ∀ (n : Nat) (r : Int), -1 ≤ r ∧ r < 512 → n ≤ 512 → -1 ≤ mo_fi ν c r n ∧ mo_fi ν c r n < 512
  | 0, r, hr, _ => hr
  | n + 1, r, hr, hn => by
    rw [mo_fi]
    refine mo_fi_b ν c n _ ?_ (by omega)
    split <;> omega
/-- a card that leaves -/
def mo_lv (ν : mm_T) (c : Int) : mm_T := mm_u (mo_cd ν 0) 15 c 3
def mo_lw (ν : mm_T) (c : Int) : Int := if 0 < ν 19 c then mo_fi (mo_lv ν c) c (-1) (mo_lv ν c 0 24).toNat else -1
/-- a card pulled: the others may go on -/
def mo_pu (ν : mm_T) (c : Int) : mm_T := if c = ν 0 21 ∧ ν 0 22 ≠ 0 then mo_ch (mo_cd ν 0) 2 1 else mo_cd ν 0
theorem mo_leave_a (hs : mo_sh s) (hB : mo_B ν) (hc : 0 ≤ c ∧ c < ν 0 12) (h1 : ν 15 c = 1) (h2 : 0 < ν 19 c) : sw_w E (d + 1) 114 (0, [some (2, 0), some (0, c)], []) s ν (sw_is (some (0, sm_s (mo_lsn (mo_lv ν c) c (mo_lw ν c)) (mo_lv ν c 0 24).toNat)) s (mo_ls (mo_lv ν c) c (mo_lw ν c))) := by
  have hn := hB.2.2.1
  have hcd := hB.cd c (by omega) (by omega)
  have hBl : mo_B (mo_lv ν c) := mo_B_15 (mo_B_cd hB) (by omega)
  have h24 : mo_lv ν c 0 24 = ν 0 24 := (mm_u_ne (by omega)).trans (mm_u_ne (by omega))
  have htk := hB.2.2.2.2.2.1
  have hfb := mo_fi_b (mo_lv ν c) c (mo_lv ν c 0 24).toNat (-1) (by omega) (by omega)
  refine sw_p 3 (f' := (3, [some (2, 0), some (0, c)], [(0, c), (2, 0), (2, 0)])) rfl ?_
  refine sw_cv1 (pn := 6) (q0 := mj_Mo_leave) (q := mj_Mo_isCard) (p := 0) (as2 := [(0, c)]) (L2 := [some (2, 0), some (0, c)]) (rest := [(2, 0)]) (v := some (0, 1)) (s1 := s) (ν1 := ν) rfl rfl rfl rfl rfl rfl rfl rfl rfl hs.1 (mo_isC1 hs hB (by omega)) ?_
  show sw_w E _ 114 (6, [some (2, 0), some (0, c)], [(0, 1), (2, 0)]) s ν _
  refine sw_ne1 (pt := 13) (pn := 9) rfl rfl rfl (by omega) (fun _ => ?_) (fun h => absurd h (by decide))
  refine sw_p 1 (f' := (14, [some (2, 0), some (0, c)], [(2, 0), (2, 0)])) rfl ?_
  refine sw_hA (pn := 17) (i := 15) (v := 15) rfl rfl rfl rfl rfl hs.1 (mo_s15 hs).1 (by omega) ?_
  refine sw_p 1 (f' := (18, [some (2, 0), some (0, c)], [(0, c), (2, 15), (2, 0)])) rfl ?_
  refine sw_ial (pn := 19) (l := 40) rfl rfl (by omega) (mo_s15 hs).2.1 (mo_s15 hs).2.2 (by omega) (by omega) ?_
  refine sw_p 1 (f' := (20, [some (2, 0), some (0, c)], [(0, 1), (0, ν 15 c), (2, 0)])) rfl ?_
  refine sw_eq2 (pt := 27) (pn := 23) rfl rfl rfl (by omega) (by omega) (fun h2 => ?_) (fun h => absurd h (by omega))
  refine sw_p 1 (f' := (28, [some (2, 0), some (0, c)], [(0, 0), (2, 0)])) rfl ?_
  refine sw_pI (pn := 31) (i := 0) rfl rfl rfl rfl rfl (by omega) hs.1 ?_
  refine sw_p 1 (f' := (32, [some (2, 0), some (0, c)], [(2, 0)])) rfl ?_
  refine sw_gI (pn := 35) (i := 0) rfl rfl rfl rfl rfl (by omega) hs.1 ?_
  rw [show (mm_u ν 0 0 0) 0 0 = 0 from mm_u_at]
  refine sw_le1 (pt := 40) (pn := 38) rfl rfl rfl (by omega) (fun _ => ?_) (fun h => absurd h (by decide))
  refine sw_p 1 (f' := (41, [some (2, 0), some (0, c)], [(2, 0)])) rfl ?_
  refine sw_hA (pn := 44) (i := 15) (v := 15) rfl rfl rfl rfl rfl hs.1 (mo_s15 hs).1 (by omega) ?_
  refine sw_p 2 (f' := (46, [some (2, 0), some (0, c)], [(0, 3), (0, c), (2, 15)])) rfl ?_
  refine sw_ias (pn := 47) (l := 40) rfl rfl (by omega) (mo_s15 hs).2.1 (mo_s15 hs).2.2 (by omega) (by omega) ?_
  refine sw_p 3 (f' := (50, [some (2, 0), some (0, c)], [(2, 0), (0, c), (2, 0)])) rfl ?_
  refine sw_hA (pn := 53) (i := 19) (v := 19) rfl rfl rfl rfl rfl hs.1 (mo_s19 hs).1 (by omega) ?_
  refine sw_p 1 (f' := (54, [some (2, 0), some (0, c)], [(0, c), (2, 19), (0, c), (2, 0)])) rfl ?_
  refine sw_ial (pn := 55) (l := 40) rfl rfl (by omega) (mo_s19 hs).2.1 (mo_s19 hs).2.2 (by omega) (by omega) ?_
  rw [show (mm_u (mm_u ν 0 0 0) 15 c 3) 19 c = ν 19 c from (mm_u_ne (by omega)).trans (mm_u_ne (by omega))]
  refine sw_le1 (pt := 66) (pn := 58) rfl rfl rfl (by omega) (fun h => absurd h (by omega)) (fun h4 => ?_)
  refine sw_p 2 (f' := (60, [some (2, 0), some (0, c)], [(0, c), (2, 0), (0, c), (2, 0)])) rfl ?_
  refine sw_cv1 (pn := 63) (q0 := mj_Mo_leave) (q := mj_Mo_firstOf) (p := 0) (as2 := [(0, c)]) (L2 := [some (2, 0), some (0, c), none, none]) (rest := [(0, c), (2, 0)]) (v := some (0, mo_fi (mo_lv ν c) c (-1) (mo_lv ν c 0 24).toNat)) (s1 := s) (ν1 := (mm_u (mm_u ν 0 0 0) 15 c 3)) rfl rfl rfl rfl rfl rfl rfl rfl rfl hs.1 (mo_firstOf hs hBl (by omega)) ?_
  show sw_w E _ 114 (63, [some (2, 0), some (0, c)], [(0, mo_fi (mo_lv ν c) c (-1) (mo_lv ν c 0 24).toNat), (0, c), (2, 0)]) s (mm_u (mm_u ν 0 0 0) 15 c 3) _
  refine sw_p 1 (f' := (67, [some (2, 0), some (0, c)], [(0, mo_fi (mo_lv ν c) c (-1) (mo_lv ν c 0 24).toNat), (0, c), (2, 0)])) rfl ?_
  refine sw_cv1 (pn := 70) (q0 := mj_Mo_leave) (q := mj_Mo_lose) (p := 0) (as2 := [(0, c), (0, mo_fi (mo_lv ν c) c (-1) (mo_lv ν c 0 24).toNat)]) (L2 := [some (2, 0), some (0, c), some (0, mo_fi (mo_lv ν c) c (-1) (mo_lv ν c 0 24).toNat), none, none]) (rest := []) (v := some (0, sm_s (mo_lsn (mo_lv ν c) c (mo_lw ν c)) (mo_lv ν c 0 24).toNat)) (s1 := s) (ν1 := (mo_ls (mo_lv ν c) c (mo_lw ν c))) rfl rfl rfl rfl rfl rfl rfl rfl rfl hs.1 (by rw [show mo_fi (mo_lv ν c) c (-1) (mo_lv ν c 0 24).toNat = mo_lw ν c by unfold mo_lw; rw [if_pos (by omega)]]; exact mo_lose hs hBl (by omega) (by unfold mo_lw; split <;> omega)) ?_
  show sw_w E _ 114 (70, [some (2, 0), some (0, c)], [(0, sm_s (mo_lsn (mo_lv ν c) c (mo_lw ν c)) (mo_lv ν c 0 24).toNat)]) s (mo_ls (mo_lv ν c) c (mo_lw ν c)) _
  exact sw_retI rfl rfl rfl ⟨rfl, rfl, rfl⟩
theorem mo_leave_b (hs : mo_sh s) (hB : mo_B ν) (hc : 0 ≤ c ∧ c < ν 0 12) (h1 : ν 15 c = 1) (h2 : ν 19 c ≤ 0) : sw_w E (d + 1) 114 (0, [some (2, 0), some (0, c)], []) s ν (sw_is (some (0, sm_s (mo_lsn (mo_lv ν c) c (mo_lw ν c)) (mo_lv ν c 0 24).toNat)) s (mo_ls (mo_lv ν c) c (mo_lw ν c))) := by
  have hn := hB.2.2.1
  have hcd := hB.cd c (by omega) (by omega)
  have hBl : mo_B (mo_lv ν c) := mo_B_15 (mo_B_cd hB) (by omega)
  have h24 : mo_lv ν c 0 24 = ν 0 24 := (mm_u_ne (by omega)).trans (mm_u_ne (by omega))
  have htk := hB.2.2.2.2.2.1
  have hfb := mo_fi_b (mo_lv ν c) c (mo_lv ν c 0 24).toNat (-1) (by omega) (by omega)
  refine sw_p 3 (f' := (3, [some (2, 0), some (0, c)], [(0, c), (2, 0), (2, 0)])) rfl ?_
  refine sw_cv1 (pn := 6) (q0 := mj_Mo_leave) (q := mj_Mo_isCard) (p := 0) (as2 := [(0, c)]) (L2 := [some (2, 0), some (0, c)]) (rest := [(2, 0)]) (v := some (0, 1)) (s1 := s) (ν1 := ν) rfl rfl rfl rfl rfl rfl rfl rfl rfl hs.1 (mo_isC1 hs hB (by omega)) ?_
  show sw_w E _ 114 (6, [some (2, 0), some (0, c)], [(0, 1), (2, 0)]) s ν _
  refine sw_ne1 (pt := 13) (pn := 9) rfl rfl rfl (by omega) (fun _ => ?_) (fun h => absurd h (by decide))
  refine sw_p 1 (f' := (14, [some (2, 0), some (0, c)], [(2, 0), (2, 0)])) rfl ?_
  refine sw_hA (pn := 17) (i := 15) (v := 15) rfl rfl rfl rfl rfl hs.1 (mo_s15 hs).1 (by omega) ?_
  refine sw_p 1 (f' := (18, [some (2, 0), some (0, c)], [(0, c), (2, 15), (2, 0)])) rfl ?_
  refine sw_ial (pn := 19) (l := 40) rfl rfl (by omega) (mo_s15 hs).2.1 (mo_s15 hs).2.2 (by omega) (by omega) ?_
  refine sw_p 1 (f' := (20, [some (2, 0), some (0, c)], [(0, 1), (0, ν 15 c), (2, 0)])) rfl ?_
  refine sw_eq2 (pt := 27) (pn := 23) rfl rfl rfl (by omega) (by omega) (fun h2 => ?_) (fun h => absurd h (by omega))
  refine sw_p 1 (f' := (28, [some (2, 0), some (0, c)], [(0, 0), (2, 0)])) rfl ?_
  refine sw_pI (pn := 31) (i := 0) rfl rfl rfl rfl rfl (by omega) hs.1 ?_
  refine sw_p 1 (f' := (32, [some (2, 0), some (0, c)], [(2, 0)])) rfl ?_
  refine sw_gI (pn := 35) (i := 0) rfl rfl rfl rfl rfl (by omega) hs.1 ?_
  rw [show (mm_u ν 0 0 0) 0 0 = 0 from mm_u_at]
  refine sw_le1 (pt := 40) (pn := 38) rfl rfl rfl (by omega) (fun _ => ?_) (fun h => absurd h (by decide))
  refine sw_p 1 (f' := (41, [some (2, 0), some (0, c)], [(2, 0)])) rfl ?_
  refine sw_hA (pn := 44) (i := 15) (v := 15) rfl rfl rfl rfl rfl hs.1 (mo_s15 hs).1 (by omega) ?_
  refine sw_p 2 (f' := (46, [some (2, 0), some (0, c)], [(0, 3), (0, c), (2, 15)])) rfl ?_
  refine sw_ias (pn := 47) (l := 40) rfl rfl (by omega) (mo_s15 hs).2.1 (mo_s15 hs).2.2 (by omega) (by omega) ?_
  refine sw_p 3 (f' := (50, [some (2, 0), some (0, c)], [(2, 0), (0, c), (2, 0)])) rfl ?_
  refine sw_hA (pn := 53) (i := 19) (v := 19) rfl rfl rfl rfl rfl hs.1 (mo_s19 hs).1 (by omega) ?_
  refine sw_p 1 (f' := (54, [some (2, 0), some (0, c)], [(0, c), (2, 19), (0, c), (2, 0)])) rfl ?_
  refine sw_ial (pn := 55) (l := 40) rfl rfl (by omega) (mo_s19 hs).2.1 (mo_s19 hs).2.2 (by omega) (by omega) ?_
  rw [show (mm_u (mm_u ν 0 0 0) 15 c 3) 19 c = ν 19 c from (mm_u_ne (by omega)).trans (mm_u_ne (by omega))]
  refine sw_le1 (pt := 66) (pn := 58) rfl rfl rfl (by omega) (fun h4 => ?_) (fun h => absurd h (by omega))
  refine sw_p 1 (f' := (67, [some (2, 0), some (0, c)], [(0, -1), (0, c), (2, 0)])) rfl ?_
  refine sw_cv1 (pn := 70) (q0 := mj_Mo_leave) (q := mj_Mo_lose) (p := 0) (as2 := [(0, c), (0, -1)]) (L2 := [some (2, 0), some (0, c), some (0, -1), none, none]) (rest := []) (v := some (0, sm_s (mo_lsn (mo_lv ν c) c (mo_lw ν c)) (mo_lv ν c 0 24).toNat)) (s1 := s) (ν1 := (mo_ls (mo_lv ν c) c (mo_lw ν c))) rfl rfl rfl rfl rfl rfl rfl rfl rfl hs.1 (by rw [show -1 = mo_lw ν c by unfold mo_lw; rw [if_neg (by omega)]]; exact mo_lose hs hBl (by omega) (by unfold mo_lw; split <;> omega)) ?_
  show sw_w E _ 114 (70, [some (2, 0), some (0, c)], [(0, sm_s (mo_lsn (mo_lv ν c) c (mo_lw ν c)) (mo_lv ν c 0 24).toNat)]) s (mo_ls (mo_lv ν c) c (mo_lw ν c)) _
  exact sw_retI rfl rfl rfl ⟨rfl, rfl, rfl⟩
theorem mo_leave_s (hs : mo_sh s) (hB : mo_B ν) (hc : 0 ≤ c ∧ c < ν 0 12) (h1 : ν 15 c ≠ 1) : sw_w E (d + 1) 114 (0, [some (2, 0), some (0, c)], []) s ν (sw_is (some (0, 0)) s (mo_cd ν 2)) := by
  have hn := hB.2.2.1
  have hcd := hB.cd c
  refine sw_p 3 (f' := (3, [some (2, 0), some (0, c)], [(0, c), (2, 0), (2, 0)])) rfl ?_
  refine sw_cv1 (pn := 6) (q0 := mj_Mo_leave) (q := mj_Mo_isCard) (p := 0) (as2 := [(0, c)]) (L2 := [some (2, 0), some (0, c)]) (rest := [(2, 0)]) (v := some (0, 1)) (s1 := s) (ν1 := ν) rfl rfl rfl rfl rfl rfl rfl rfl rfl hs.1 (mo_isC1 hs hB (by omega)) ?_
  show sw_w E _ 114 (6, [some (2, 0), some (0, c)], [(0, 1), (2, 0)]) s ν _
  refine sw_ne1 (pt := 13) (pn := 9) rfl rfl rfl (by omega) (fun _ => ?_) (fun h => absurd h (by decide))
  refine sw_p 1 (f' := (14, [some (2, 0), some (0, c)], [(2, 0), (2, 0)])) rfl ?_
  refine sw_hA (pn := 17) (i := 15) (v := 15) rfl rfl rfl rfl rfl hs.1 (mo_s15 hs).1 (by omega) ?_
  refine sw_p 1 (f' := (18, [some (2, 0), some (0, c)], [(0, c), (2, 15), (2, 0)])) rfl ?_
  refine sw_ial (pn := 19) (l := 40) rfl rfl (by omega) (mo_s15 hs).2.1 (mo_s15 hs).2.2 (by omega) (by omega) ?_
  refine sw_p 1 (f' := (20, [some (2, 0), some (0, c)], [(0, 1), (0, ν 15 c), (2, 0)])) rfl ?_
  refine sw_eq2 (pt := 27) (pn := 23) rfl rfl rfl (by omega) (by omega) (fun h => absurd h (by omega)) (fun h2 => ?_)
  refine sw_p 2 (f' := (28, [some (2, 0), some (0, c)], [(0, 2), (2, 0)])) rfl ?_
  refine sw_pI (pn := 31) (i := 0) rfl rfl rfl rfl rfl (by omega) hs.1 ?_
  refine sw_p 1 (f' := (32, [some (2, 0), some (0, c)], [(2, 0)])) rfl ?_
  refine sw_gI (pn := 35) (i := 0) rfl rfl rfl rfl rfl (by omega) hs.1 ?_
  rw [show (mm_u ν 0 0 2) 0 0 = 2 from mm_u_at]
  refine sw_le1 (pt := 40) (pn := 38) rfl rfl rfl (by omega) (fun h => absurd h (by decide)) (fun _ => ?_)
  refine sw_p 1 (f' := (39, [some (2, 0), some (0, c)], [(0, 0)])) rfl ?_
  exact sw_retI rfl rfl rfl ⟨rfl, rfl, rfl⟩
theorem mo_leave_bad (hs : mo_sh s) (hB : mo_B ν) (hc : -2147483648 ≤ c ∧ c < 2147483648) (h0 : ¬ (0 ≤ c ∧ c < ν 0 12)) : sw_w E (d + 1) 114 (0, [some (2, 0), some (0, c)], []) s ν (sw_is (some (0, 0)) s (mo_cd ν 1)) := by
  have hn := hB.2.2.1
  have hcd := hB.cd c
  refine sw_p 3 (f' := (3, [some (2, 0), some (0, c)], [(0, c), (2, 0), (2, 0)])) rfl ?_
  refine sw_cv1 (pn := 6) (q0 := mj_Mo_leave) (q := mj_Mo_isCard) (p := 0) (as2 := [(0, c)]) (L2 := [some (2, 0), some (0, c)]) (rest := [(2, 0)]) (v := some (0, 0)) (s1 := s) (ν1 := ν) rfl rfl rfl rfl rfl rfl rfl rfl rfl hs.1 (mo_isC0 hs hB (by omega) (by omega)) ?_
  show sw_w E _ 114 (6, [some (2, 0), some (0, c)], [(0, 0), (2, 0)]) s ν _
  refine sw_ne1 (pt := 13) (pn := 9) rfl rfl rfl (by omega) (fun h => absurd h (by decide)) (fun _ => ?_)
  refine sw_p 2 (f' := (28, [some (2, 0), some (0, c)], [(0, 1), (2, 0)])) rfl ?_
  refine sw_pI (pn := 31) (i := 0) rfl rfl rfl rfl rfl (by omega) hs.1 ?_
  refine sw_p 1 (f' := (32, [some (2, 0), some (0, c)], [(2, 0)])) rfl ?_
  refine sw_gI (pn := 35) (i := 0) rfl rfl rfl rfl rfl (by omega) hs.1 ?_
  rw [show (mm_u ν 0 0 1) 0 0 = 1 from mm_u_at]
  refine sw_le1 (pt := 40) (pn := 38) rfl rfl rfl (by omega) (fun h => absurd h (by decide)) (fun _ => ?_)
  refine sw_p 1 (f' := (39, [some (2, 0), some (0, c)], [(0, 0)])) rfl ?_
  exact sw_retI rfl rfl rfl ⟨rfl, rfl, rfl⟩
theorem mo_pull_a (hs : mo_sh s) (hB : mo_B ν) (hc : 0 ≤ c ∧ c < ν 0 12) (h1 : ν 15 c ≠ 4) (h2 : ν 15 c ≠ 5) (h3 : c = ν 0 21) (h4 : ν 0 22 ≠ 0) : sw_w E (d + 1) 111 (0, [some (2, 0), some (0, c)], []) s ν (sw_is (some (0, sm_s (mo_lsn (mo_rm (mo_pu ν c) c 4) c (-1)) (mo_rm (mo_pu ν c) c 4 0 24).toNat)) s (mo_ls (mo_rm (mo_pu ν c) c 4) c (-1))) := by
  have hn := hB.2.2.1
  have hcd := hB.cd c (by omega) (by omega)
  have hcm := hB.2.2.2.1
  have hck := hB.2.2.2.2.1
  have hBp : mo_B (mo_pu ν c) := by
    unfold mo_pu
    split
    · exact mo_B_ch (mo_B_cd hB) (by omega)
    · exact mo_B_cd hB
  have hBr : mo_B (mo_rm (mo_pu ν c) c 4) := mo_B_rm hBp (by omega) (by omega)
  refine sw_p 3 (f' := (3, [some (2, 0), some (0, c)], [(0, c), (2, 0), (2, 0)])) rfl ?_
  refine sw_cv1 (pn := 6) (q0 := mj_Mo_pull) (q := mj_Mo_isCard) (p := 0) (as2 := [(0, c)]) (L2 := [some (2, 0), some (0, c)]) (rest := [(2, 0)]) (v := some (0, 1)) (s1 := s) (ν1 := ν) rfl rfl rfl rfl rfl rfl rfl rfl rfl hs.1 (mo_isC1 hs hB (by omega)) ?_
  show sw_w E _ 111 (6, [some (2, 0), some (0, c)], [(0, 1), (2, 0)]) s ν _
  refine sw_ne1 (pt := 13) (pn := 9) rfl rfl rfl (by omega) (fun _ => ?_) (fun h => absurd h (by decide))
  refine sw_p 1 (f' := (14, [some (2, 0), some (0, c)], [(2, 0), (2, 0)])) rfl ?_
  refine sw_hA (pn := 17) (i := 15) (v := 15) rfl rfl rfl rfl rfl hs.1 (mo_s15 hs).1 (by omega) ?_
  refine sw_p 1 (f' := (18, [some (2, 0), some (0, c)], [(0, c), (2, 15), (2, 0)])) rfl ?_
  refine sw_ial (pn := 19) (l := 40) rfl rfl (by omega) (mo_s15 hs).2.1 (mo_s15 hs).2.2 (by omega) (by omega) ?_
  refine sw_p 1 (f' := (20, [some (2, 0), some (0, c)], [(0, 4), (0, ν 15 c), (2, 0)])) rfl ?_
  refine sw_eq2 (pt := 33) (pn := 23) rfl rfl rfl (by omega) (by omega) (fun h => absurd h (by omega)) (fun h2 => ?_)
  refine sw_p 1 (f' := (24, [some (2, 0), some (0, c)], [(2, 0), (2, 0)])) rfl ?_
  refine sw_hA (pn := 27) (i := 15) (v := 15) rfl rfl rfl rfl rfl hs.1 (mo_s15 hs).1 (by omega) ?_
  refine sw_p 1 (f' := (28, [some (2, 0), some (0, c)], [(0, c), (2, 15), (2, 0)])) rfl ?_
  refine sw_ial (pn := 29) (l := 40) rfl rfl (by omega) (mo_s15 hs).2.1 (mo_s15 hs).2.2 (by omega) (by omega) ?_
  refine sw_p 1 (f' := (30, [some (2, 0), some (0, c)], [(0, 5), (0, ν 15 c), (2, 0)])) rfl ?_
  refine sw_ne2 (pt := 37) (pn := 33) rfl rfl rfl (by omega) (by omega) (fun h3 => ?_) (fun h => absurd h (by omega))
  refine sw_p 1 (f' := (38, [some (2, 0), some (0, c)], [(0, 0), (2, 0)])) rfl ?_
  refine sw_pI (pn := 41) (i := 0) rfl rfl rfl rfl rfl (by omega) hs.1 ?_
  refine sw_p 1 (f' := (42, [some (2, 0), some (0, c)], [(2, 0)])) rfl ?_
  refine sw_gI (pn := 45) (i := 0) rfl rfl rfl rfl rfl (by omega) hs.1 ?_
  rw [show (mm_u ν 0 0 0) 0 0 = 0 from mm_u_at]
  refine sw_le1 (pt := 50) (pn := 48) rfl rfl rfl (by omega) (fun _ => ?_) (fun h => absurd h (by decide))
  refine sw_p 2 (f' := (52, [some (2, 0), some (0, c)], [(2, 0), (0, c)])) rfl ?_
  refine sw_gI (pn := 55) (i := 21) rfl rfl rfl rfl rfl (by omega) hs.1 ?_
  rw [show (mm_u ν 0 0 0) 0 21 = ν 0 21 from mm_u_ne (by omega)]
  refine sw_ne2 (pt := 71) (pn := 58) rfl rfl rfl (by omega) (by omega) (fun h => absurd h (by omega)) (fun h5 => ?_)
  refine sw_p 1 (f' := (59, [some (2, 0), some (0, c)], [(2, 0)])) rfl ?_
  refine sw_gI (pn := 62) (i := 22) rfl rfl rfl rfl rfl (by omega) hs.1 ?_
  rw [show (mm_u ν 0 0 0) 0 22 = ν 0 22 from mm_u_ne (by omega)]
  refine sw_eq1 (pt := 71) (pn := 65) rfl rfl rfl (by omega) (fun h => absurd h (by omega)) (fun h6 => ?_)
  refine sw_p 3 (f' := (68, [some (2, 0), some (0, c)], [(0, 1), (0, 2), (2, 0)])) rfl ?_
  refine sw_cv1 (pn := 71) (q0 := mj_Mo_pull) (q := mj_Mo_change) (p := 0) (as2 := [(0, 2), (0, 1)]) (L2 := [some (2, 0), some (0, 2), some (0, 1), none]) (rest := []) (v := none) (s1 := s) (ν1 := (mo_ch (mo_cd ν 0) 2 1)) rfl rfl rfl rfl rfl rfl rfl rfl rfl hs.1 (mo_change hs (mo_B_cd hB) (by omega)) ?_
  show sw_w E _ 111 (71, [some (2, 0), some (0, c)], []) s (mo_ch (mo_cd ν 0) 2 1) _
  refine sw_p 3 (f' := (74, [some (2, 0), some (0, c)], [(0, 4), (0, c), (2, 0)])) rfl ?_
  refine sw_cv1 (pn := 77) (q0 := mj_Mo_pull) (q := mj_Mo_remove) (p := 0) (as2 := [(0, c), (0, 4)]) (L2 := [some (2, 0), some (0, c), some (0, 4), none]) (rest := []) (v := none) (s1 := s) (ν1 := (mo_rm (mo_pu ν c) c 4)) rfl rfl rfl rfl rfl rfl rfl rfl rfl hs.1 (by rw [show (mo_ch (mo_cd ν 0) 2 1) = mo_pu ν c by unfold mo_pu; rw [if_pos (by omega)]]; exact mo_remove hs hBp (by omega) (by omega)) ?_
  show sw_w E _ 111 (77, [some (2, 0), some (0, c)], []) s (mo_rm (mo_pu ν c) c 4) _
  refine sw_p 3 (f' := (80, [some (2, 0), some (0, c)], [(0, -1), (0, c), (2, 0)])) rfl ?_
  refine sw_cv1 (pn := 83) (q0 := mj_Mo_pull) (q := mj_Mo_lose) (p := 0) (as2 := [(0, c), (0, -1)]) (L2 := [some (2, 0), some (0, c), some (0, -1), none, none]) (rest := []) (v := some (0, sm_s (mo_lsn (mo_rm (mo_pu ν c) c 4) c (-1)) (mo_rm (mo_pu ν c) c 4 0 24).toNat)) (s1 := s) (ν1 := (mo_ls (mo_rm (mo_pu ν c) c 4) c (-1))) rfl rfl rfl rfl rfl rfl rfl rfl rfl hs.1 (mo_lose hs hBr (by omega) (by omega)) ?_
  show sw_w E _ 111 (83, [some (2, 0), some (0, c)], [(0, sm_s (mo_lsn (mo_rm (mo_pu ν c) c 4) c (-1)) (mo_rm (mo_pu ν c) c 4 0 24).toNat)]) s (mo_ls (mo_rm (mo_pu ν c) c 4) c (-1)) _
  exact sw_retI rfl rfl rfl ⟨rfl, rfl, rfl⟩
theorem mo_pull_b (hs : mo_sh s) (hB : mo_B ν) (hc : 0 ≤ c ∧ c < ν 0 12) (h1 : ν 15 c ≠ 4) (h2 : ν 15 c ≠ 5) (h3 : c = ν 0 21) (h4 : ν 0 22 = 0) : sw_w E (d + 1) 111 (0, [some (2, 0), some (0, c)], []) s ν (sw_is (some (0, sm_s (mo_lsn (mo_rm (mo_pu ν c) c 4) c (-1)) (mo_rm (mo_pu ν c) c 4 0 24).toNat)) s (mo_ls (mo_rm (mo_pu ν c) c 4) c (-1))) := by
  have hn := hB.2.2.1
  have hcd := hB.cd c (by omega) (by omega)
  have hcm := hB.2.2.2.1
  have hck := hB.2.2.2.2.1
  have hBp : mo_B (mo_pu ν c) := by
    unfold mo_pu
    split
    · exact mo_B_ch (mo_B_cd hB) (by omega)
    · exact mo_B_cd hB
  have hBr : mo_B (mo_rm (mo_pu ν c) c 4) := mo_B_rm hBp (by omega) (by omega)
  refine sw_p 3 (f' := (3, [some (2, 0), some (0, c)], [(0, c), (2, 0), (2, 0)])) rfl ?_
  refine sw_cv1 (pn := 6) (q0 := mj_Mo_pull) (q := mj_Mo_isCard) (p := 0) (as2 := [(0, c)]) (L2 := [some (2, 0), some (0, c)]) (rest := [(2, 0)]) (v := some (0, 1)) (s1 := s) (ν1 := ν) rfl rfl rfl rfl rfl rfl rfl rfl rfl hs.1 (mo_isC1 hs hB (by omega)) ?_
  show sw_w E _ 111 (6, [some (2, 0), some (0, c)], [(0, 1), (2, 0)]) s ν _
  refine sw_ne1 (pt := 13) (pn := 9) rfl rfl rfl (by omega) (fun _ => ?_) (fun h => absurd h (by decide))
  refine sw_p 1 (f' := (14, [some (2, 0), some (0, c)], [(2, 0), (2, 0)])) rfl ?_
  refine sw_hA (pn := 17) (i := 15) (v := 15) rfl rfl rfl rfl rfl hs.1 (mo_s15 hs).1 (by omega) ?_
  refine sw_p 1 (f' := (18, [some (2, 0), some (0, c)], [(0, c), (2, 15), (2, 0)])) rfl ?_
  refine sw_ial (pn := 19) (l := 40) rfl rfl (by omega) (mo_s15 hs).2.1 (mo_s15 hs).2.2 (by omega) (by omega) ?_
  refine sw_p 1 (f' := (20, [some (2, 0), some (0, c)], [(0, 4), (0, ν 15 c), (2, 0)])) rfl ?_
  refine sw_eq2 (pt := 33) (pn := 23) rfl rfl rfl (by omega) (by omega) (fun h => absurd h (by omega)) (fun h2 => ?_)
  refine sw_p 1 (f' := (24, [some (2, 0), some (0, c)], [(2, 0), (2, 0)])) rfl ?_
  refine sw_hA (pn := 27) (i := 15) (v := 15) rfl rfl rfl rfl rfl hs.1 (mo_s15 hs).1 (by omega) ?_
  refine sw_p 1 (f' := (28, [some (2, 0), some (0, c)], [(0, c), (2, 15), (2, 0)])) rfl ?_
  refine sw_ial (pn := 29) (l := 40) rfl rfl (by omega) (mo_s15 hs).2.1 (mo_s15 hs).2.2 (by omega) (by omega) ?_
  refine sw_p 1 (f' := (30, [some (2, 0), some (0, c)], [(0, 5), (0, ν 15 c), (2, 0)])) rfl ?_
  refine sw_ne2 (pt := 37) (pn := 33) rfl rfl rfl (by omega) (by omega) (fun h3 => ?_) (fun h => absurd h (by omega))
  refine sw_p 1 (f' := (38, [some (2, 0), some (0, c)], [(0, 0), (2, 0)])) rfl ?_
  refine sw_pI (pn := 41) (i := 0) rfl rfl rfl rfl rfl (by omega) hs.1 ?_
  refine sw_p 1 (f' := (42, [some (2, 0), some (0, c)], [(2, 0)])) rfl ?_
  refine sw_gI (pn := 45) (i := 0) rfl rfl rfl rfl rfl (by omega) hs.1 ?_
  rw [show (mm_u ν 0 0 0) 0 0 = 0 from mm_u_at]
  refine sw_le1 (pt := 50) (pn := 48) rfl rfl rfl (by omega) (fun _ => ?_) (fun h => absurd h (by decide))
  refine sw_p 2 (f' := (52, [some (2, 0), some (0, c)], [(2, 0), (0, c)])) rfl ?_
  refine sw_gI (pn := 55) (i := 21) rfl rfl rfl rfl rfl (by omega) hs.1 ?_
  rw [show (mm_u ν 0 0 0) 0 21 = ν 0 21 from mm_u_ne (by omega)]
  refine sw_ne2 (pt := 71) (pn := 58) rfl rfl rfl (by omega) (by omega) (fun h => absurd h (by omega)) (fun h5 => ?_)
  refine sw_p 1 (f' := (59, [some (2, 0), some (0, c)], [(2, 0)])) rfl ?_
  refine sw_gI (pn := 62) (i := 22) rfl rfl rfl rfl rfl (by omega) hs.1 ?_
  rw [show (mm_u ν 0 0 0) 0 22 = ν 0 22 from mm_u_ne (by omega)]
  refine sw_eq1 (pt := 71) (pn := 65) rfl rfl rfl (by omega) (fun h6 => ?_) (fun h => absurd h (by omega))
  refine sw_p 3 (f' := (74, [some (2, 0), some (0, c)], [(0, 4), (0, c), (2, 0)])) rfl ?_
  refine sw_cv1 (pn := 77) (q0 := mj_Mo_pull) (q := mj_Mo_remove) (p := 0) (as2 := [(0, c), (0, 4)]) (L2 := [some (2, 0), some (0, c), some (0, 4), none]) (rest := []) (v := none) (s1 := s) (ν1 := (mo_rm (mo_pu ν c) c 4)) rfl rfl rfl rfl rfl rfl rfl rfl rfl hs.1 (by rw [show (mm_u ν 0 0 0) = mo_pu ν c by unfold mo_pu; rw [if_neg (by omega)]]; exact mo_remove hs hBp (by omega) (by omega)) ?_
  show sw_w E _ 111 (77, [some (2, 0), some (0, c)], []) s (mo_rm (mo_pu ν c) c 4) _
  refine sw_p 3 (f' := (80, [some (2, 0), some (0, c)], [(0, -1), (0, c), (2, 0)])) rfl ?_
  refine sw_cv1 (pn := 83) (q0 := mj_Mo_pull) (q := mj_Mo_lose) (p := 0) (as2 := [(0, c), (0, -1)]) (L2 := [some (2, 0), some (0, c), some (0, -1), none, none]) (rest := []) (v := some (0, sm_s (mo_lsn (mo_rm (mo_pu ν c) c 4) c (-1)) (mo_rm (mo_pu ν c) c 4 0 24).toNat)) (s1 := s) (ν1 := (mo_ls (mo_rm (mo_pu ν c) c 4) c (-1))) rfl rfl rfl rfl rfl rfl rfl rfl rfl hs.1 (mo_lose hs hBr (by omega) (by omega)) ?_
  show sw_w E _ 111 (83, [some (2, 0), some (0, c)], [(0, sm_s (mo_lsn (mo_rm (mo_pu ν c) c 4) c (-1)) (mo_rm (mo_pu ν c) c 4 0 24).toNat)]) s (mo_ls (mo_rm (mo_pu ν c) c 4) c (-1)) _
  exact sw_retI rfl rfl rfl ⟨rfl, rfl, rfl⟩
theorem mo_pull_c (hs : mo_sh s) (hB : mo_B ν) (hc : 0 ≤ c ∧ c < ν 0 12) (h1 : ν 15 c ≠ 4) (h2 : ν 15 c ≠ 5) (h3 : c ≠ ν 0 21) : sw_w E (d + 1) 111 (0, [some (2, 0), some (0, c)], []) s ν (sw_is (some (0, sm_s (mo_lsn (mo_rm (mo_pu ν c) c 4) c (-1)) (mo_rm (mo_pu ν c) c 4 0 24).toNat)) s (mo_ls (mo_rm (mo_pu ν c) c 4) c (-1))) := by
  have hn := hB.2.2.1
  have hcd := hB.cd c (by omega) (by omega)
  have hcm := hB.2.2.2.1
  have hck := hB.2.2.2.2.1
  have hBp : mo_B (mo_pu ν c) := by
    unfold mo_pu
    split
    · exact mo_B_ch (mo_B_cd hB) (by omega)
    · exact mo_B_cd hB
  have hBr : mo_B (mo_rm (mo_pu ν c) c 4) := mo_B_rm hBp (by omega) (by omega)
  refine sw_p 3 (f' := (3, [some (2, 0), some (0, c)], [(0, c), (2, 0), (2, 0)])) rfl ?_
  refine sw_cv1 (pn := 6) (q0 := mj_Mo_pull) (q := mj_Mo_isCard) (p := 0) (as2 := [(0, c)]) (L2 := [some (2, 0), some (0, c)]) (rest := [(2, 0)]) (v := some (0, 1)) (s1 := s) (ν1 := ν) rfl rfl rfl rfl rfl rfl rfl rfl rfl hs.1 (mo_isC1 hs hB (by omega)) ?_
  show sw_w E _ 111 (6, [some (2, 0), some (0, c)], [(0, 1), (2, 0)]) s ν _
  refine sw_ne1 (pt := 13) (pn := 9) rfl rfl rfl (by omega) (fun _ => ?_) (fun h => absurd h (by decide))
  refine sw_p 1 (f' := (14, [some (2, 0), some (0, c)], [(2, 0), (2, 0)])) rfl ?_
  refine sw_hA (pn := 17) (i := 15) (v := 15) rfl rfl rfl rfl rfl hs.1 (mo_s15 hs).1 (by omega) ?_
  refine sw_p 1 (f' := (18, [some (2, 0), some (0, c)], [(0, c), (2, 15), (2, 0)])) rfl ?_
  refine sw_ial (pn := 19) (l := 40) rfl rfl (by omega) (mo_s15 hs).2.1 (mo_s15 hs).2.2 (by omega) (by omega) ?_
  refine sw_p 1 (f' := (20, [some (2, 0), some (0, c)], [(0, 4), (0, ν 15 c), (2, 0)])) rfl ?_
  refine sw_eq2 (pt := 33) (pn := 23) rfl rfl rfl (by omega) (by omega) (fun h => absurd h (by omega)) (fun h2 => ?_)
  refine sw_p 1 (f' := (24, [some (2, 0), some (0, c)], [(2, 0), (2, 0)])) rfl ?_
  refine sw_hA (pn := 27) (i := 15) (v := 15) rfl rfl rfl rfl rfl hs.1 (mo_s15 hs).1 (by omega) ?_
  refine sw_p 1 (f' := (28, [some (2, 0), some (0, c)], [(0, c), (2, 15), (2, 0)])) rfl ?_
  refine sw_ial (pn := 29) (l := 40) rfl rfl (by omega) (mo_s15 hs).2.1 (mo_s15 hs).2.2 (by omega) (by omega) ?_
  refine sw_p 1 (f' := (30, [some (2, 0), some (0, c)], [(0, 5), (0, ν 15 c), (2, 0)])) rfl ?_
  refine sw_ne2 (pt := 37) (pn := 33) rfl rfl rfl (by omega) (by omega) (fun h3 => ?_) (fun h => absurd h (by omega))
  refine sw_p 1 (f' := (38, [some (2, 0), some (0, c)], [(0, 0), (2, 0)])) rfl ?_
  refine sw_pI (pn := 41) (i := 0) rfl rfl rfl rfl rfl (by omega) hs.1 ?_
  refine sw_p 1 (f' := (42, [some (2, 0), some (0, c)], [(2, 0)])) rfl ?_
  refine sw_gI (pn := 45) (i := 0) rfl rfl rfl rfl rfl (by omega) hs.1 ?_
  rw [show (mm_u ν 0 0 0) 0 0 = 0 from mm_u_at]
  refine sw_le1 (pt := 50) (pn := 48) rfl rfl rfl (by omega) (fun _ => ?_) (fun h => absurd h (by decide))
  refine sw_p 2 (f' := (52, [some (2, 0), some (0, c)], [(2, 0), (0, c)])) rfl ?_
  refine sw_gI (pn := 55) (i := 21) rfl rfl rfl rfl rfl (by omega) hs.1 ?_
  rw [show (mm_u ν 0 0 0) 0 21 = ν 0 21 from mm_u_ne (by omega)]
  refine sw_ne2 (pt := 71) (pn := 58) rfl rfl rfl (by omega) (by omega) (fun h5 => ?_) (fun h => absurd h (by omega))
  refine sw_p 3 (f' := (74, [some (2, 0), some (0, c)], [(0, 4), (0, c), (2, 0)])) rfl ?_
  refine sw_cv1 (pn := 77) (q0 := mj_Mo_pull) (q := mj_Mo_remove) (p := 0) (as2 := [(0, c), (0, 4)]) (L2 := [some (2, 0), some (0, c), some (0, 4), none]) (rest := []) (v := none) (s1 := s) (ν1 := (mo_rm (mo_pu ν c) c 4)) rfl rfl rfl rfl rfl rfl rfl rfl rfl hs.1 (by rw [show (mm_u ν 0 0 0) = mo_pu ν c by unfold mo_pu; rw [if_neg (by omega)]]; exact mo_remove hs hBp (by omega) (by omega)) ?_
  show sw_w E _ 111 (77, [some (2, 0), some (0, c)], []) s (mo_rm (mo_pu ν c) c 4) _
  refine sw_p 3 (f' := (80, [some (2, 0), some (0, c)], [(0, -1), (0, c), (2, 0)])) rfl ?_
  refine sw_cv1 (pn := 83) (q0 := mj_Mo_pull) (q := mj_Mo_lose) (p := 0) (as2 := [(0, c), (0, -1)]) (L2 := [some (2, 0), some (0, c), some (0, -1), none, none]) (rest := []) (v := some (0, sm_s (mo_lsn (mo_rm (mo_pu ν c) c 4) c (-1)) (mo_rm (mo_pu ν c) c 4 0 24).toNat)) (s1 := s) (ν1 := (mo_ls (mo_rm (mo_pu ν c) c 4) c (-1))) rfl rfl rfl rfl rfl rfl rfl rfl rfl hs.1 (mo_lose hs hBr (by omega) (by omega)) ?_
  show sw_w E _ 111 (83, [some (2, 0), some (0, c)], [(0, sm_s (mo_lsn (mo_rm (mo_pu ν c) c 4) c (-1)) (mo_rm (mo_pu ν c) c 4 0 24).toNat)]) s (mo_ls (mo_rm (mo_pu ν c) c 4) c (-1)) _
  exact sw_retI rfl rfl rfl ⟨rfl, rfl, rfl⟩
theorem mo_pull_s1 (hs : mo_sh s) (hB : mo_B ν) (hc : 0 ≤ c ∧ c < ν 0 12) (h1 : ν 15 c = 4) : sw_w E (d + 1) 111 (0, [some (2, 0), some (0, c)], []) s ν (sw_is (some (0, 0)) s (mo_cd ν 2)) := by
  have hn := hB.2.2.1
  have hcd := hB.cd c
  refine sw_p 3 (f' := (3, [some (2, 0), some (0, c)], [(0, c), (2, 0), (2, 0)])) rfl ?_
  refine sw_cv1 (pn := 6) (q0 := mj_Mo_pull) (q := mj_Mo_isCard) (p := 0) (as2 := [(0, c)]) (L2 := [some (2, 0), some (0, c)]) (rest := [(2, 0)]) (v := some (0, 1)) (s1 := s) (ν1 := ν) rfl rfl rfl rfl rfl rfl rfl rfl rfl hs.1 (mo_isC1 hs hB (by omega)) ?_
  show sw_w E _ 111 (6, [some (2, 0), some (0, c)], [(0, 1), (2, 0)]) s ν _
  refine sw_ne1 (pt := 13) (pn := 9) rfl rfl rfl (by omega) (fun _ => ?_) (fun h => absurd h (by decide))
  refine sw_p 1 (f' := (14, [some (2, 0), some (0, c)], [(2, 0), (2, 0)])) rfl ?_
  refine sw_hA (pn := 17) (i := 15) (v := 15) rfl rfl rfl rfl rfl hs.1 (mo_s15 hs).1 (by omega) ?_
  refine sw_p 1 (f' := (18, [some (2, 0), some (0, c)], [(0, c), (2, 15), (2, 0)])) rfl ?_
  refine sw_ial (pn := 19) (l := 40) rfl rfl (by omega) (mo_s15 hs).2.1 (mo_s15 hs).2.2 (by omega) (by omega) ?_
  refine sw_p 1 (f' := (20, [some (2, 0), some (0, c)], [(0, 4), (0, ν 15 c), (2, 0)])) rfl ?_
  refine sw_eq2 (pt := 33) (pn := 23) rfl rfl rfl (by omega) (by omega) (fun h2 => ?_) (fun h => absurd h (by omega))
  refine sw_p 2 (f' := (38, [some (2, 0), some (0, c)], [(0, 2), (2, 0)])) rfl ?_
  refine sw_pI (pn := 41) (i := 0) rfl rfl rfl rfl rfl (by omega) hs.1 ?_
  refine sw_p 1 (f' := (42, [some (2, 0), some (0, c)], [(2, 0)])) rfl ?_
  refine sw_gI (pn := 45) (i := 0) rfl rfl rfl rfl rfl (by omega) hs.1 ?_
  rw [show (mm_u ν 0 0 2) 0 0 = 2 from mm_u_at]
  refine sw_le1 (pt := 50) (pn := 48) rfl rfl rfl (by omega) (fun h => absurd h (by decide)) (fun _ => ?_)
  refine sw_p 1 (f' := (49, [some (2, 0), some (0, c)], [(0, 0)])) rfl ?_
  exact sw_retI rfl rfl rfl ⟨rfl, rfl, rfl⟩
theorem mo_pull_s2 (hs : mo_sh s) (hB : mo_B ν) (hc : 0 ≤ c ∧ c < ν 0 12) (h1 : ν 15 c = 5) : sw_w E (d + 1) 111 (0, [some (2, 0), some (0, c)], []) s ν (sw_is (some (0, 0)) s (mo_cd ν 2)) := by
  have hn := hB.2.2.1
  have hcd := hB.cd c
  refine sw_p 3 (f' := (3, [some (2, 0), some (0, c)], [(0, c), (2, 0), (2, 0)])) rfl ?_
  refine sw_cv1 (pn := 6) (q0 := mj_Mo_pull) (q := mj_Mo_isCard) (p := 0) (as2 := [(0, c)]) (L2 := [some (2, 0), some (0, c)]) (rest := [(2, 0)]) (v := some (0, 1)) (s1 := s) (ν1 := ν) rfl rfl rfl rfl rfl rfl rfl rfl rfl hs.1 (mo_isC1 hs hB (by omega)) ?_
  show sw_w E _ 111 (6, [some (2, 0), some (0, c)], [(0, 1), (2, 0)]) s ν _
  refine sw_ne1 (pt := 13) (pn := 9) rfl rfl rfl (by omega) (fun _ => ?_) (fun h => absurd h (by decide))
  refine sw_p 1 (f' := (14, [some (2, 0), some (0, c)], [(2, 0), (2, 0)])) rfl ?_
  refine sw_hA (pn := 17) (i := 15) (v := 15) rfl rfl rfl rfl rfl hs.1 (mo_s15 hs).1 (by omega) ?_
  refine sw_p 1 (f' := (18, [some (2, 0), some (0, c)], [(0, c), (2, 15), (2, 0)])) rfl ?_
  refine sw_ial (pn := 19) (l := 40) rfl rfl (by omega) (mo_s15 hs).2.1 (mo_s15 hs).2.2 (by omega) (by omega) ?_
  refine sw_p 1 (f' := (20, [some (2, 0), some (0, c)], [(0, 4), (0, ν 15 c), (2, 0)])) rfl ?_
  refine sw_eq2 (pt := 33) (pn := 23) rfl rfl rfl (by omega) (by omega) (fun h => absurd h (by omega)) (fun h2 => ?_)
  refine sw_p 1 (f' := (24, [some (2, 0), some (0, c)], [(2, 0), (2, 0)])) rfl ?_
  refine sw_hA (pn := 27) (i := 15) (v := 15) rfl rfl rfl rfl rfl hs.1 (mo_s15 hs).1 (by omega) ?_
  refine sw_p 1 (f' := (28, [some (2, 0), some (0, c)], [(0, c), (2, 15), (2, 0)])) rfl ?_
  refine sw_ial (pn := 29) (l := 40) rfl rfl (by omega) (mo_s15 hs).2.1 (mo_s15 hs).2.2 (by omega) (by omega) ?_
  refine sw_p 1 (f' := (30, [some (2, 0), some (0, c)], [(0, 5), (0, ν 15 c), (2, 0)])) rfl ?_
  refine sw_ne2 (pt := 37) (pn := 33) rfl rfl rfl (by omega) (by omega) (fun h => absurd h (by omega)) (fun h3 => ?_)
  refine sw_p 2 (f' := (38, [some (2, 0), some (0, c)], [(0, 2), (2, 0)])) rfl ?_
  refine sw_pI (pn := 41) (i := 0) rfl rfl rfl rfl rfl (by omega) hs.1 ?_
  refine sw_p 1 (f' := (42, [some (2, 0), some (0, c)], [(2, 0)])) rfl ?_
  refine sw_gI (pn := 45) (i := 0) rfl rfl rfl rfl rfl (by omega) hs.1 ?_
  rw [show (mm_u ν 0 0 2) 0 0 = 2 from mm_u_at]
  refine sw_le1 (pt := 50) (pn := 48) rfl rfl rfl (by omega) (fun h => absurd h (by decide)) (fun _ => ?_)
  refine sw_p 1 (f' := (49, [some (2, 0), some (0, c)], [(0, 0)])) rfl ?_
  exact sw_retI rfl rfl rfl ⟨rfl, rfl, rfl⟩
theorem mo_pull_bad (hs : mo_sh s) (hB : mo_B ν) (hc : -2147483648 ≤ c ∧ c < 2147483648) (h0 : ¬ (0 ≤ c ∧ c < ν 0 12)) : sw_w E (d + 1) 111 (0, [some (2, 0), some (0, c)], []) s ν (sw_is (some (0, 0)) s (mo_cd ν 1)) := by
  have hn := hB.2.2.1
  have hcd := hB.cd c
  refine sw_p 3 (f' := (3, [some (2, 0), some (0, c)], [(0, c), (2, 0), (2, 0)])) rfl ?_
  refine sw_cv1 (pn := 6) (q0 := mj_Mo_pull) (q := mj_Mo_isCard) (p := 0) (as2 := [(0, c)]) (L2 := [some (2, 0), some (0, c)]) (rest := [(2, 0)]) (v := some (0, 0)) (s1 := s) (ν1 := ν) rfl rfl rfl rfl rfl rfl rfl rfl rfl hs.1 (mo_isC0 hs hB (by omega) (by omega)) ?_
  show sw_w E _ 111 (6, [some (2, 0), some (0, c)], [(0, 0), (2, 0)]) s ν _
  refine sw_ne1 (pt := 13) (pn := 9) rfl rfl rfl (by omega) (fun h => absurd h (by decide)) (fun _ => ?_)
  refine sw_p 2 (f' := (38, [some (2, 0), some (0, c)], [(0, 1), (2, 0)])) rfl ?_
  refine sw_pI (pn := 41) (i := 0) rfl rfl rfl rfl rfl (by omega) hs.1 ?_
  refine sw_p 1 (f' := (42, [some (2, 0), some (0, c)], [(2, 0)])) rfl ?_
  refine sw_gI (pn := 45) (i := 0) rfl rfl rfl rfl rfl (by omega) hs.1 ?_
  rw [show (mm_u ν 0 0 1) 0 0 = 1 from mm_u_at]
  refine sw_le1 (pt := 50) (pn := 48) rfl rfl rfl (by omega) (fun h => absurd h (by decide)) (fun _ => ?_)
  refine sw_p 1 (f' := (49, [some (2, 0), some (0, c)], [(0, 0)])) rfl ?_
  exact sw_retI rfl rfl rfl ⟨rfl, rfl, rfl⟩
end MO8
end
section
/-! the reference: work, type, plug -/
section MO9
variable {E : mv_E} {s ν : mm_T} {d : Nat} {b c r x y w p f g k t v lo hi l z : Int}
theorem mo_fi_cd {z : Int} : ∀ (n : Nat) (r : Int), mo_fi (mo_cd ν z) c r n = mo_fi ν c r n
  | 0, r => rfl
  | n + 1, r => by
    rw [mo_fi, mo_fi, mo_pd_cd, mo_fi_cd n]
/-- the first pending ticket of c, or -1 -/
def mo_ft (ν : mm_T) (c : Int) : Int := mo_fi ν c (-1) (ν 0 24).toNat
theorem mo_ft_b (hB : mo_B ν) : -1 ≤ mo_ft ν c ∧ mo_ft ν c < 512 := mo_fi_b ν c _ _ (by omega) (by have := hB.2.2.2.2.2.1; omega)
theorem mo_ft_c (hs : mo_sh s) (hB : mo_B ν) (hc : -2147483648 ≤ c ∧ c < 2147483648) : sw_w E d 115 (0, [some (2, 0), some (0, c), none, none], []) s (mo_cd ν 0) (sw_is (some (0, mo_ft ν c)) s (mo_cd ν 0)) := by
  have h := mo_firstOf (E := E) (d := d) (c := c) hs (mo_B_cd (z := 0) hB) hc
  rw [mo_fi_cd, show mo_cd ν 0 0 24 = ν 0 24 from mm_u_ne (by omega)] at h
  exact h
/-- the last piece of a request done -/
def mo_wf (ν : mm_T) (c t : Int) : mm_T := mm_u (mm_u ν 20 c (31 * ν 20 c + ν 27 t)) 28 t (Int.bmod (31 * ν 20 c + ν 27 t + ν 26 t) 4294967296)
theorem mo_work_n1 (hs : mo_sh s) (hB : mo_B ν) (hc : 0 ≤ c ∧ c < ν 0 12) (h1 : ν 19 c = 0) (h2 : ν 15 c ≠ 1) : sw_w E (d + 1) 118 (0, [some (2, 0), some (0, c), none], []) s ν (sw_is (some (0, 0)) s (mo_cd ν 0)) := by
  have hn := hB.2.2.1
  have hcd := hB.cd c (by omega) (by omega)
  have hft := mo_ft_b (c := c) hB
  have htk := hB.tk (mo_ft ν c)
  refine sw_p 3 (f' := (3, [some (2, 0), some (0, c), none], [(0, c), (2, 0), (2, 0)])) rfl ?_
  refine sw_cv1 (pn := 6) (q0 := mj_Mo_work) (q := mj_Mo_isCard) (p := 0) (as2 := [(0, c)]) (L2 := [some (2, 0), some (0, c)]) (rest := [(2, 0)]) (v := some (0, 1)) (s1 := s) (ν1 := ν) rfl rfl rfl rfl rfl rfl rfl rfl rfl hs.1 (mo_isC1 hs hB (by omega)) ?_
  show sw_w E _ 118 (6, [some (2, 0), some (0, c), none], [(0, 1), (2, 0)]) s ν _
  refine sw_eq1 (pt := 13) (pn := 9) rfl rfl rfl (by omega) (fun h => absurd h (by decide)) (fun _ => ?_)
  refine sw_p 2 (f' := (14, [some (2, 0), some (0, c), none], [(0, 0), (2, 0)])) rfl ?_
  refine sw_pI (pn := 17) (i := 0) rfl rfl rfl rfl rfl (by omega) hs.1 ?_
  refine sw_p 1 (f' := (18, [some (2, 0), some (0, c), none], [(2, 0)])) rfl ?_
  refine sw_gI (pn := 21) (i := 0) rfl rfl rfl rfl rfl (by omega) hs.1 ?_
  rw [show (mm_u ν 0 0 0) 0 0 = 0 from mm_u_at]
  refine sw_le1 (pt := 26) (pn := 24) rfl rfl rfl (by omega) (fun _ => ?_) (fun h => absurd h (by decide))
  refine sw_p 2 (f' := (28, [some (2, 0), some (0, c), none], [(0, c), (2, 0)])) rfl ?_
  refine sw_cv1 (pn := 31) (q0 := mj_Mo_work) (q := mj_Mo_firstOf) (p := 0) (as2 := [(0, c)]) (L2 := [some (2, 0), some (0, c), none, none]) (rest := []) (v := some (0, mo_ft ν c)) (s1 := s) (ν1 := (mm_u ν 0 0 0)) rfl rfl rfl rfl rfl rfl rfl rfl rfl hs.1 (mo_ft_c hs hB (by omega)) ?_
  show sw_w E _ 118 (31, [some (2, 0), some (0, c), none], [(0, mo_ft ν c)]) s (mm_u ν 0 0 0) _
  refine sw_p 2 (f' := (33, [some (2, 0), some (0, c), some (0, mo_ft ν c)], [(2, 0)])) rfl ?_
  refine sw_hA (pn := 36) (i := 19) (v := 19) rfl rfl rfl rfl rfl hs.1 (mo_s19 hs).1 (by omega) ?_
  refine sw_p 1 (f' := (37, [some (2, 0), some (0, c), some (0, mo_ft ν c)], [(0, c), (2, 19)])) rfl ?_
  refine sw_ial (pn := 38) (l := 40) rfl rfl (by omega) (mo_s19 hs).2.1 (mo_s19 hs).2.2 (by omega) (by omega) ?_
  rw [show (mm_u ν 0 0 0) 19 c = ν 19 c from mm_u_ne (by omega)]
  refine sw_ne1 (pt := 74) (pn := 41) rfl rfl rfl (by omega) (fun h => absurd h (by omega)) (fun h3 => ?_)
  refine sw_p 1 (f' := (42, [some (2, 0), some (0, c), some (0, mo_ft ν c)], [(2, 0)])) rfl ?_
  refine sw_hA (pn := 45) (i := 15) (v := 15) rfl rfl rfl rfl rfl hs.1 (mo_s15 hs).1 (by omega) ?_
  refine sw_p 1 (f' := (46, [some (2, 0), some (0, c), some (0, mo_ft ν c)], [(0, c), (2, 15)])) rfl ?_
  refine sw_ial (pn := 47) (l := 40) rfl rfl (by omega) (mo_s15 hs).2.1 (mo_s15 hs).2.2 (by omega) (by omega) ?_
  rw [show (mm_u ν 0 0 0) 15 c = ν 15 c from mm_u_ne (by omega)]
  refine sw_p 1 (f' := (48, [some (2, 0), some (0, c), some (0, mo_ft ν c)], [(0, 1), (0, ν 15 c)])) rfl ?_
  refine sw_ne2 (pt := 55) (pn := 51) rfl rfl rfl (by omega) (by omega) (fun h4 => ?_) (fun h => absurd h (by omega))
  refine sw_p 1 (f' := (56, [some (2, 0), some (0, c), some (0, mo_ft ν c)], [(0, 0)])) rfl ?_
  exact sw_retZ rfl rfl rfl (by omega) ⟨rfl, rfl, rfl⟩
theorem mo_work_n2 (hs : mo_sh s) (hB : mo_B ν) (hc : 0 ≤ c ∧ c < ν 0 12) (h1 : ν 19 c = 0) (h2 : ν 15 c = 1) (h3 : mo_ft ν c < 0) : sw_w E (d + 1) 118 (0, [some (2, 0), some (0, c), none], []) s ν (sw_is (some (0, 0)) s (mo_cd ν 0)) := by
  have hn := hB.2.2.1
  have hcd := hB.cd c (by omega) (by omega)
  have hft := mo_ft_b (c := c) hB
  have htk := hB.tk (mo_ft ν c)
  refine sw_p 3 (f' := (3, [some (2, 0), some (0, c), none], [(0, c), (2, 0), (2, 0)])) rfl ?_
  refine sw_cv1 (pn := 6) (q0 := mj_Mo_work) (q := mj_Mo_isCard) (p := 0) (as2 := [(0, c)]) (L2 := [some (2, 0), some (0, c)]) (rest := [(2, 0)]) (v := some (0, 1)) (s1 := s) (ν1 := ν) rfl rfl rfl rfl rfl rfl rfl rfl rfl hs.1 (mo_isC1 hs hB (by omega)) ?_
  show sw_w E _ 118 (6, [some (2, 0), some (0, c), none], [(0, 1), (2, 0)]) s ν _
  refine sw_eq1 (pt := 13) (pn := 9) rfl rfl rfl (by omega) (fun h => absurd h (by decide)) (fun _ => ?_)
  refine sw_p 2 (f' := (14, [some (2, 0), some (0, c), none], [(0, 0), (2, 0)])) rfl ?_
  refine sw_pI (pn := 17) (i := 0) rfl rfl rfl rfl rfl (by omega) hs.1 ?_
  refine sw_p 1 (f' := (18, [some (2, 0), some (0, c), none], [(2, 0)])) rfl ?_
  refine sw_gI (pn := 21) (i := 0) rfl rfl rfl rfl rfl (by omega) hs.1 ?_
  rw [show (mm_u ν 0 0 0) 0 0 = 0 from mm_u_at]
  refine sw_le1 (pt := 26) (pn := 24) rfl rfl rfl (by omega) (fun _ => ?_) (fun h => absurd h (by decide))
  refine sw_p 2 (f' := (28, [some (2, 0), some (0, c), none], [(0, c), (2, 0)])) rfl ?_
  refine sw_cv1 (pn := 31) (q0 := mj_Mo_work) (q := mj_Mo_firstOf) (p := 0) (as2 := [(0, c)]) (L2 := [some (2, 0), some (0, c), none, none]) (rest := []) (v := some (0, mo_ft ν c)) (s1 := s) (ν1 := (mm_u ν 0 0 0)) rfl rfl rfl rfl rfl rfl rfl rfl rfl hs.1 (mo_ft_c hs hB (by omega)) ?_
  show sw_w E _ 118 (31, [some (2, 0), some (0, c), none], [(0, mo_ft ν c)]) s (mm_u ν 0 0 0) _
  refine sw_p 2 (f' := (33, [some (2, 0), some (0, c), some (0, mo_ft ν c)], [(2, 0)])) rfl ?_
  refine sw_hA (pn := 36) (i := 19) (v := 19) rfl rfl rfl rfl rfl hs.1 (mo_s19 hs).1 (by omega) ?_
  refine sw_p 1 (f' := (37, [some (2, 0), some (0, c), some (0, mo_ft ν c)], [(0, c), (2, 19)])) rfl ?_
  refine sw_ial (pn := 38) (l := 40) rfl rfl (by omega) (mo_s19 hs).2.1 (mo_s19 hs).2.2 (by omega) (by omega) ?_
  rw [show (mm_u ν 0 0 0) 19 c = ν 19 c from mm_u_ne (by omega)]
  refine sw_ne1 (pt := 74) (pn := 41) rfl rfl rfl (by omega) (fun h => absurd h (by omega)) (fun h3 => ?_)
  refine sw_p 1 (f' := (42, [some (2, 0), some (0, c), some (0, mo_ft ν c)], [(2, 0)])) rfl ?_
  refine sw_hA (pn := 45) (i := 15) (v := 15) rfl rfl rfl rfl rfl hs.1 (mo_s15 hs).1 (by omega) ?_
  refine sw_p 1 (f' := (46, [some (2, 0), some (0, c), some (0, mo_ft ν c)], [(0, c), (2, 15)])) rfl ?_
  refine sw_ial (pn := 47) (l := 40) rfl rfl (by omega) (mo_s15 hs).2.1 (mo_s15 hs).2.2 (by omega) (by omega) ?_
  rw [show (mm_u ν 0 0 0) 15 c = ν 15 c from mm_u_ne (by omega)]
  refine sw_p 1 (f' := (48, [some (2, 0), some (0, c), some (0, mo_ft ν c)], [(0, 1), (0, ν 15 c)])) rfl ?_
  refine sw_ne2 (pt := 55) (pn := 51) rfl rfl rfl (by omega) (by omega) (fun h => absurd h (by omega)) (fun h4 => ?_)
  refine sw_p 1 (f' := (52, [some (2, 0), some (0, c), some (0, mo_ft ν c)], [(0, mo_ft ν c)])) rfl ?_
  refine sw_ge1 (pt := 57) (pn := 55) rfl rfl rfl (by omega) (fun h => absurd h (by omega)) (fun h5 => ?_)
  refine sw_p 1 (f' := (56, [some (2, 0), some (0, c), some (0, mo_ft ν c)], [(0, 0)])) rfl ?_
  exact sw_retZ rfl rfl rfl (by omega) ⟨rfl, rfl, rfl⟩
theorem mo_work_a1 (hs : mo_sh s) (hB : mo_B ν) (hc : 0 ≤ c ∧ c < ν 0 12) (h1 : 1 < ν 19 c) : sw_w E (d + 1) 118 (0, [some (2, 0), some (0, c), none], []) s ν (sw_is (some (0, 1)) s (mm_u (mo_cd ν 0) 19 c (ν 19 c - 1))) := by
  have hn := hB.2.2.1
  have hcd := hB.cd c (by omega) (by omega)
  have hft := mo_ft_b (c := c) hB
  have htk := hB.tk (mo_ft ν c)
  refine sw_p 3 (f' := (3, [some (2, 0), some (0, c), none], [(0, c), (2, 0), (2, 0)])) rfl ?_
  refine sw_cv1 (pn := 6) (q0 := mj_Mo_work) (q := mj_Mo_isCard) (p := 0) (as2 := [(0, c)]) (L2 := [some (2, 0), some (0, c)]) (rest := [(2, 0)]) (v := some (0, 1)) (s1 := s) (ν1 := ν) rfl rfl rfl rfl rfl rfl rfl rfl rfl hs.1 (mo_isC1 hs hB (by omega)) ?_
  show sw_w E _ 118 (6, [some (2, 0), some (0, c), none], [(0, 1), (2, 0)]) s ν _
  refine sw_eq1 (pt := 13) (pn := 9) rfl rfl rfl (by omega) (fun h => absurd h (by decide)) (fun _ => ?_)
  refine sw_p 2 (f' := (14, [some (2, 0), some (0, c), none], [(0, 0), (2, 0)])) rfl ?_
  refine sw_pI (pn := 17) (i := 0) rfl rfl rfl rfl rfl (by omega) hs.1 ?_
  refine sw_p 1 (f' := (18, [some (2, 0), some (0, c), none], [(2, 0)])) rfl ?_
  refine sw_gI (pn := 21) (i := 0) rfl rfl rfl rfl rfl (by omega) hs.1 ?_
  rw [show (mm_u ν 0 0 0) 0 0 = 0 from mm_u_at]
  refine sw_le1 (pt := 26) (pn := 24) rfl rfl rfl (by omega) (fun _ => ?_) (fun h => absurd h (by decide))
  refine sw_p 2 (f' := (28, [some (2, 0), some (0, c), none], [(0, c), (2, 0)])) rfl ?_
  refine sw_cv1 (pn := 31) (q0 := mj_Mo_work) (q := mj_Mo_firstOf) (p := 0) (as2 := [(0, c)]) (L2 := [some (2, 0), some (0, c), none, none]) (rest := []) (v := some (0, mo_ft ν c)) (s1 := s) (ν1 := (mm_u ν 0 0 0)) rfl rfl rfl rfl rfl rfl rfl rfl rfl hs.1 (mo_ft_c hs hB (by omega)) ?_
  show sw_w E _ 118 (31, [some (2, 0), some (0, c), none], [(0, mo_ft ν c)]) s (mm_u ν 0 0 0) _
  refine sw_p 2 (f' := (33, [some (2, 0), some (0, c), some (0, mo_ft ν c)], [(2, 0)])) rfl ?_
  refine sw_hA (pn := 36) (i := 19) (v := 19) rfl rfl rfl rfl rfl hs.1 (mo_s19 hs).1 (by omega) ?_
  refine sw_p 1 (f' := (37, [some (2, 0), some (0, c), some (0, mo_ft ν c)], [(0, c), (2, 19)])) rfl ?_
  refine sw_ial (pn := 38) (l := 40) rfl rfl (by omega) (mo_s19 hs).2.1 (mo_s19 hs).2.2 (by omega) (by omega) ?_
  rw [show (mm_u ν 0 0 0) 19 c = ν 19 c from mm_u_ne (by omega)]
  refine sw_ne1 (pt := 74) (pn := 41) rfl rfl rfl (by omega) (fun h3 => ?_) (fun h => absurd h (by omega))
  refine sw_p 1 (f' := (75, [some (2, 0), some (0, c), some (0, mo_ft ν c)], [(2, 0)])) rfl ?_
  refine sw_hA (pn := 78) (i := 19) (v := 19) rfl rfl rfl rfl rfl hs.1 (mo_s19 hs).1 (by omega) ?_
  refine sw_p 2 (f' := (80, [some (2, 0), some (0, c), some (0, mo_ft ν c)], [(0, c), (2, 19), (0, c), (2, 19)])) rfl ?_
  refine sw_ial (pn := 81) (l := 40) rfl rfl (by omega) (mo_s19 hs).2.1 (mo_s19 hs).2.2 (by omega) (by omega) ?_
  rw [show (mm_u ν 0 0 0) 19 c = ν 19 c from mm_u_ne (by omega)]
  refine sw_p 2 (f' := (83, [some (2, 0), some (0, c), some (0, mo_ft ν c)], [(0, (ν 19 c) - 1), (0, c), (2, 19)])) rfl ?_
  refine sw_ias (pn := 84) (l := 40) rfl rfl (by omega) (mo_s19 hs).2.1 (mo_s19 hs).2.2 (by omega) (by omega) ?_
  refine sw_p 1 (f' := (85, [some (2, 0), some (0, c), some (0, mo_ft ν c)], [(2, 0)])) rfl ?_
  refine sw_hA (pn := 88) (i := 19) (v := 19) rfl rfl rfl rfl rfl hs.1 (mo_s19 hs).1 (by omega) ?_
  refine sw_p 1 (f' := (89, [some (2, 0), some (0, c), some (0, mo_ft ν c)], [(0, c), (2, 19)])) rfl ?_
  refine sw_ial (pn := 90) (l := 40) rfl rfl (by omega) (mo_s19 hs).2.1 (mo_s19 hs).2.2 (by omega) (by omega) ?_
  rw [show (mm_u (mm_u ν 0 0 0) 19 c ((ν 19 c) - 1)) 19 c = (ν 19 c) - 1 from mm_u_at]
  refine sw_ne1 (pt := 135) (pn := 93) rfl rfl rfl (by omega) (fun h4 => ?_) (fun h => absurd h (by omega))
  refine sw_p 1 (f' := (136, [some (2, 0), some (0, c), some (0, mo_ft ν c)], [(0, 1)])) rfl ?_
  exact sw_retZ rfl rfl rfl (by omega) ⟨rfl, rfl, rfl⟩
theorem mo_work_a2 (hs : mo_sh s) (hB : mo_B ν) (hc : 0 ≤ c ∧ c < ν 0 12) (h1 : ν 19 c = 1) (h3 : 0 ≤ mo_ft ν c) : sw_w E (d + 1) 118 (0, [some (2, 0), some (0, c), none], []) s ν (sw_is (some (0, 1)) s (mo_wf (mm_u (mo_cd ν 0) 19 c (ν 19 c - 1)) c (mo_ft ν c))) := by
  have hn := hB.2.2.1
  have hcd := hB.cd c (by omega) (by omega)
  have hft := mo_ft_b (c := c) hB
  have htk := hB.tk (mo_ft ν c)
  refine sw_p 3 (f' := (3, [some (2, 0), some (0, c), none], [(0, c), (2, 0), (2, 0)])) rfl ?_
  refine sw_cv1 (pn := 6) (q0 := mj_Mo_work) (q := mj_Mo_isCard) (p := 0) (as2 := [(0, c)]) (L2 := [some (2, 0), some (0, c)]) (rest := [(2, 0)]) (v := some (0, 1)) (s1 := s) (ν1 := ν) rfl rfl rfl rfl rfl rfl rfl rfl rfl hs.1 (mo_isC1 hs hB (by omega)) ?_
  show sw_w E _ 118 (6, [some (2, 0), some (0, c), none], [(0, 1), (2, 0)]) s ν _
  refine sw_eq1 (pt := 13) (pn := 9) rfl rfl rfl (by omega) (fun h => absurd h (by decide)) (fun _ => ?_)
  refine sw_p 2 (f' := (14, [some (2, 0), some (0, c), none], [(0, 0), (2, 0)])) rfl ?_
  refine sw_pI (pn := 17) (i := 0) rfl rfl rfl rfl rfl (by omega) hs.1 ?_
  refine sw_p 1 (f' := (18, [some (2, 0), some (0, c), none], [(2, 0)])) rfl ?_
  refine sw_gI (pn := 21) (i := 0) rfl rfl rfl rfl rfl (by omega) hs.1 ?_
  rw [show (mm_u ν 0 0 0) 0 0 = 0 from mm_u_at]
  refine sw_le1 (pt := 26) (pn := 24) rfl rfl rfl (by omega) (fun _ => ?_) (fun h => absurd h (by decide))
  refine sw_p 2 (f' := (28, [some (2, 0), some (0, c), none], [(0, c), (2, 0)])) rfl ?_
  refine sw_cv1 (pn := 31) (q0 := mj_Mo_work) (q := mj_Mo_firstOf) (p := 0) (as2 := [(0, c)]) (L2 := [some (2, 0), some (0, c), none, none]) (rest := []) (v := some (0, mo_ft ν c)) (s1 := s) (ν1 := (mm_u ν 0 0 0)) rfl rfl rfl rfl rfl rfl rfl rfl rfl hs.1 (mo_ft_c hs hB (by omega)) ?_
  show sw_w E _ 118 (31, [some (2, 0), some (0, c), none], [(0, mo_ft ν c)]) s (mm_u ν 0 0 0) _
  refine sw_p 2 (f' := (33, [some (2, 0), some (0, c), some (0, mo_ft ν c)], [(2, 0)])) rfl ?_
  refine sw_hA (pn := 36) (i := 19) (v := 19) rfl rfl rfl rfl rfl hs.1 (mo_s19 hs).1 (by omega) ?_
  refine sw_p 1 (f' := (37, [some (2, 0), some (0, c), some (0, mo_ft ν c)], [(0, c), (2, 19)])) rfl ?_
  refine sw_ial (pn := 38) (l := 40) rfl rfl (by omega) (mo_s19 hs).2.1 (mo_s19 hs).2.2 (by omega) (by omega) ?_
  rw [show (mm_u ν 0 0 0) 19 c = ν 19 c from mm_u_ne (by omega)]
  refine sw_ne1 (pt := 74) (pn := 41) rfl rfl rfl (by omega) (fun h3 => ?_) (fun h => absurd h (by omega))
  refine sw_p 1 (f' := (75, [some (2, 0), some (0, c), some (0, mo_ft ν c)], [(2, 0)])) rfl ?_
  refine sw_hA (pn := 78) (i := 19) (v := 19) rfl rfl rfl rfl rfl hs.1 (mo_s19 hs).1 (by omega) ?_
  refine sw_p 2 (f' := (80, [some (2, 0), some (0, c), some (0, mo_ft ν c)], [(0, c), (2, 19), (0, c), (2, 19)])) rfl ?_
  refine sw_ial (pn := 81) (l := 40) rfl rfl (by omega) (mo_s19 hs).2.1 (mo_s19 hs).2.2 (by omega) (by omega) ?_
  rw [show (mm_u ν 0 0 0) 19 c = ν 19 c from mm_u_ne (by omega)]
  refine sw_p 2 (f' := (83, [some (2, 0), some (0, c), some (0, mo_ft ν c)], [(0, (ν 19 c) - 1), (0, c), (2, 19)])) rfl ?_
  refine sw_ias (pn := 84) (l := 40) rfl rfl (by omega) (mo_s19 hs).2.1 (mo_s19 hs).2.2 (by omega) (by omega) ?_
  refine sw_p 1 (f' := (85, [some (2, 0), some (0, c), some (0, mo_ft ν c)], [(2, 0)])) rfl ?_
  refine sw_hA (pn := 88) (i := 19) (v := 19) rfl rfl rfl rfl rfl hs.1 (mo_s19 hs).1 (by omega) ?_
  refine sw_p 1 (f' := (89, [some (2, 0), some (0, c), some (0, mo_ft ν c)], [(0, c), (2, 19)])) rfl ?_
  refine sw_ial (pn := 90) (l := 40) rfl rfl (by omega) (mo_s19 hs).2.1 (mo_s19 hs).2.2 (by omega) (by omega) ?_
  rw [show (mm_u (mm_u ν 0 0 0) 19 c ((ν 19 c) - 1)) 19 c = (ν 19 c) - 1 from mm_u_at]
  refine sw_ne1 (pt := 135) (pn := 93) rfl rfl rfl (by omega) (fun h => absurd h (by omega)) (fun h4 => ?_)
  refine sw_p 1 (f' := (94, [some (2, 0), some (0, c), some (0, mo_ft ν c)], [(2, 0)])) rfl ?_
  refine sw_hA (pn := 97) (i := 20) (v := 20) rfl rfl rfl rfl rfl hs.1 (mo_s20 hs).1 (by omega) ?_
  refine sw_p 3 (f' := (101, [some (2, 0), some (0, c), some (0, mo_ft ν c)], [(2, 0), (0, 31), (0, c), (2, 20)])) rfl ?_
  refine sw_hA (pn := 104) (i := 20) (v := 20) rfl rfl rfl rfl rfl hs.1 (mo_s20 hs).1 (by omega) ?_
  refine sw_p 1 (f' := (105, [some (2, 0), some (0, c), some (0, mo_ft ν c)], [(0, c), (2, 20), (0, 31), (0, c), (2, 20)])) rfl ?_
  refine sw_ial (pn := 106) (l := 40) rfl rfl (by omega) (mo_s20 hs).2.1 (mo_s20 hs).2.2 (by omega) (by omega) ?_
  rw [show (mm_u (mm_u ν 0 0 0) 19 c ((ν 19 c) - 1)) 20 c = ν 20 c from (mm_u_ne (by omega)).trans (mm_u_ne (by omega))]
  refine sw_p 2 (f' := (108, [some (2, 0), some (0, c), some (0, mo_ft ν c)], [(2, 0), (0, 31 * (ν 20 c)), (0, c), (2, 20)])) rfl ?_
  refine sw_hA (pn := 111) (i := 27) (v := 27) rfl rfl rfl rfl rfl hs.1 (mo_s27 hs).1 (by omega) ?_
  refine sw_p 1 (f' := (112, [some (2, 0), some (0, c), some (0, mo_ft ν c)], [(0, mo_ft ν c), (2, 27), (0, 31 * (ν 20 c)), (0, c), (2, 20)])) rfl ?_
  refine sw_ial (pn := 113) (l := 512) rfl rfl (by omega) (mo_s27 hs).2.1 (mo_s27 hs).2.2 (by omega) (by omega) ?_
  rw [show (mm_u (mm_u ν 0 0 0) 19 c ((ν 19 c) - 1)) 27 (mo_ft ν c) = ν 27 (mo_ft ν c) from (mm_u_ne (by omega)).trans (mm_u_ne (by omega))]
  refine sw_p 1 (f' := (114, [some (2, 0), some (0, c), some (0, mo_ft ν c)], [(0, (31 * (ν 20 c)) + (ν 27 (mo_ft ν c))), (0, c), (2, 20)])) rfl ?_
  refine sw_ias (pn := 115) (l := 40) rfl rfl (by omega) (mo_s20 hs).2.1 (mo_s20 hs).2.2 (by omega) (by omega) ?_
  refine sw_p 1 (f' := (116, [some (2, 0), some (0, c), some (0, mo_ft ν c)], [(2, 0)])) rfl ?_
  refine sw_hA (pn := 119) (i := 28) (v := 28) rfl rfl rfl rfl rfl hs.1 (mo_s28 hs).1 (by omega) ?_
  refine sw_p 2 (f' := (121, [some (2, 0), some (0, c), some (0, mo_ft ν c)], [(2, 0), (0, mo_ft ν c), (2, 28)])) rfl ?_
  refine sw_hA (pn := 124) (i := 20) (v := 20) rfl rfl rfl rfl rfl hs.1 (mo_s20 hs).1 (by omega) ?_
  refine sw_p 1 (f' := (125, [some (2, 0), some (0, c), some (0, mo_ft ν c)], [(0, c), (2, 20), (0, mo_ft ν c), (2, 28)])) rfl ?_
  refine sw_ial (pn := 126) (l := 40) rfl rfl (by omega) (mo_s20 hs).2.1 (mo_s20 hs).2.2 (by omega) (by omega) ?_
  rw [show (mm_u (mm_u (mm_u ν 0 0 0) 19 c ((ν 19 c) - 1)) 20 c ((31 * (ν 20 c)) + (ν 27 (mo_ft ν c)))) 20 c = (31 * (ν 20 c)) + (ν 27 (mo_ft ν c)) from mm_u_at]
  refine sw_p 1 (f' := (127, [some (2, 0), some (0, c), some (0, mo_ft ν c)], [(2, 0), (0, (31 * (ν 20 c)) + (ν 27 (mo_ft ν c))), (0, mo_ft ν c), (2, 28)])) rfl ?_
  refine sw_hA (pn := 130) (i := 26) (v := 26) rfl rfl rfl rfl rfl hs.1 (mo_s26 hs).1 (by omega) ?_
  refine sw_p 1 (f' := (131, [some (2, 0), some (0, c), some (0, mo_ft ν c)], [(0, mo_ft ν c), (2, 26), (0, (31 * (ν 20 c)) + (ν 27 (mo_ft ν c))), (0, mo_ft ν c), (2, 28)])) rfl ?_
  refine sw_ial (pn := 132) (l := 512) rfl rfl (by omega) (mo_s26 hs).2.1 (mo_s26 hs).2.2 (by omega) (by omega) ?_
  rw [show (mm_u (mm_u (mm_u ν 0 0 0) 19 c ((ν 19 c) - 1)) 20 c ((31 * (ν 20 c)) + (ν 27 (mo_ft ν c)))) 26 (mo_ft ν c) = ν 26 (mo_ft ν c) from (mm_u_ne (by omega)).trans ((mm_u_ne (by omega)).trans (mm_u_ne (by omega)))]
  refine sw_p 1 (f' := (133, [some (2, 0), some (0, c), some (0, mo_ft ν c)], [(0, ((31 * (ν 20 c)) + (ν 27 (mo_ft ν c))) + (ν 26 (mo_ft ν c))), (0, mo_ft ν c), (2, 28)])) rfl ?_
  refine sw_i2lw (pn := 134) rfl rfl ?_
  refine sw_las (pn := 135) (l := 512) rfl rfl (by omega) (mo_s28 hs).2.1 (mo_s28 hs).2.2 (by omega) (by omega) ?_
  refine sw_p 1 (f' := (136, [some (2, 0), some (0, c), some (0, mo_ft ν c)], [(0, 1)])) rfl ?_
  exact sw_retZ rfl rfl rfl (by omega) ⟨rfl, rfl, by unfold mo_wf; rw [show mm_u (mo_cd ν 0) 19 c (ν 19 c - 1) 20 c = ν 20 c from (mm_u_ne (by omega)).trans (mm_u_ne (by omega)), show mm_u (mo_cd ν 0) 19 c (ν 19 c - 1) 27 (mo_ft ν c) = ν 27 (mo_ft ν c) from (mm_u_ne (by omega)).trans (mm_u_ne (by omega)), show mm_u (mo_cd ν 0) 19 c (ν 19 c - 1) 26 (mo_ft ν c) = ν 26 (mo_ft ν c) from (mm_u_ne (by omega)).trans (mm_u_ne (by omega))]⟩
theorem mo_work_b1 (hs : mo_sh s) (hB : mo_B ν) (hc : 0 ≤ c ∧ c < ν 0 12) (h1 : ν 19 c = 0) (h2 : ν 15 c = 1) (h3 : 0 ≤ mo_ft ν c) (h4 : ν 26 (mo_ft ν c) % 8 ≠ 0) : sw_w E (d + 1) 118 (0, [some (2, 0), some (0, c), none], []) s ν (sw_is (some (0, 1)) s (mm_u (mm_u (mo_cd ν 0) 19 c (ν 26 (mo_ft ν c) % 8 + 1)) 19 c (ν 26 (mo_ft ν c) % 8 + 1 - 1))) := by
  have hn := hB.2.2.1
  have hcd := hB.cd c (by omega) (by omega)
  have hft := mo_ft_b (c := c) hB
  have htk := hB.tk (mo_ft ν c)
  refine sw_p 3 (f' := (3, [some (2, 0), some (0, c), none], [(0, c), (2, 0), (2, 0)])) rfl ?_
  refine sw_cv1 (pn := 6) (q0 := mj_Mo_work) (q := mj_Mo_isCard) (p := 0) (as2 := [(0, c)]) (L2 := [some (2, 0), some (0, c)]) (rest := [(2, 0)]) (v := some (0, 1)) (s1 := s) (ν1 := ν) rfl rfl rfl rfl rfl rfl rfl rfl rfl hs.1 (mo_isC1 hs hB (by omega)) ?_
  show sw_w E _ 118 (6, [some (2, 0), some (0, c), none], [(0, 1), (2, 0)]) s ν _
  refine sw_eq1 (pt := 13) (pn := 9) rfl rfl rfl (by omega) (fun h => absurd h (by decide)) (fun _ => ?_)
  refine sw_p 2 (f' := (14, [some (2, 0), some (0, c), none], [(0, 0), (2, 0)])) rfl ?_
  refine sw_pI (pn := 17) (i := 0) rfl rfl rfl rfl rfl (by omega) hs.1 ?_
  refine sw_p 1 (f' := (18, [some (2, 0), some (0, c), none], [(2, 0)])) rfl ?_
  refine sw_gI (pn := 21) (i := 0) rfl rfl rfl rfl rfl (by omega) hs.1 ?_
  rw [show (mm_u ν 0 0 0) 0 0 = 0 from mm_u_at]
  refine sw_le1 (pt := 26) (pn := 24) rfl rfl rfl (by omega) (fun _ => ?_) (fun h => absurd h (by decide))
  refine sw_p 2 (f' := (28, [some (2, 0), some (0, c), none], [(0, c), (2, 0)])) rfl ?_
  refine sw_cv1 (pn := 31) (q0 := mj_Mo_work) (q := mj_Mo_firstOf) (p := 0) (as2 := [(0, c)]) (L2 := [some (2, 0), some (0, c), none, none]) (rest := []) (v := some (0, mo_ft ν c)) (s1 := s) (ν1 := (mm_u ν 0 0 0)) rfl rfl rfl rfl rfl rfl rfl rfl rfl hs.1 (mo_ft_c hs hB (by omega)) ?_
  show sw_w E _ 118 (31, [some (2, 0), some (0, c), none], [(0, mo_ft ν c)]) s (mm_u ν 0 0 0) _
  refine sw_p 2 (f' := (33, [some (2, 0), some (0, c), some (0, mo_ft ν c)], [(2, 0)])) rfl ?_
  refine sw_hA (pn := 36) (i := 19) (v := 19) rfl rfl rfl rfl rfl hs.1 (mo_s19 hs).1 (by omega) ?_
  refine sw_p 1 (f' := (37, [some (2, 0), some (0, c), some (0, mo_ft ν c)], [(0, c), (2, 19)])) rfl ?_
  refine sw_ial (pn := 38) (l := 40) rfl rfl (by omega) (mo_s19 hs).2.1 (mo_s19 hs).2.2 (by omega) (by omega) ?_
  rw [show (mm_u ν 0 0 0) 19 c = ν 19 c from mm_u_ne (by omega)]
  refine sw_ne1 (pt := 74) (pn := 41) rfl rfl rfl (by omega) (fun h => absurd h (by omega)) (fun h3 => ?_)
  refine sw_p 1 (f' := (42, [some (2, 0), some (0, c), some (0, mo_ft ν c)], [(2, 0)])) rfl ?_
  refine sw_hA (pn := 45) (i := 15) (v := 15) rfl rfl rfl rfl rfl hs.1 (mo_s15 hs).1 (by omega) ?_
  refine sw_p 1 (f' := (46, [some (2, 0), some (0, c), some (0, mo_ft ν c)], [(0, c), (2, 15)])) rfl ?_
  refine sw_ial (pn := 47) (l := 40) rfl rfl (by omega) (mo_s15 hs).2.1 (mo_s15 hs).2.2 (by omega) (by omega) ?_
  rw [show (mm_u ν 0 0 0) 15 c = ν 15 c from mm_u_ne (by omega)]
  refine sw_p 1 (f' := (48, [some (2, 0), some (0, c), some (0, mo_ft ν c)], [(0, 1), (0, ν 15 c)])) rfl ?_
  refine sw_ne2 (pt := 55) (pn := 51) rfl rfl rfl (by omega) (by omega) (fun h => absurd h (by omega)) (fun h4 => ?_)
  refine sw_p 1 (f' := (52, [some (2, 0), some (0, c), some (0, mo_ft ν c)], [(0, mo_ft ν c)])) rfl ?_
  refine sw_ge1 (pt := 57) (pn := 55) rfl rfl rfl (by omega) (fun h5 => ?_) (fun h => absurd h (by omega))
  refine sw_p 1 (f' := (58, [some (2, 0), some (0, c), some (0, mo_ft ν c)], [(2, 0)])) rfl ?_
  refine sw_hA (pn := 61) (i := 19) (v := 19) rfl rfl rfl rfl rfl hs.1 (mo_s19 hs).1 (by omega) ?_
  refine sw_p 2 (f' := (63, [some (2, 0), some (0, c), some (0, mo_ft ν c)], [(2, 0), (0, c), (2, 19)])) rfl ?_
  refine sw_hA (pn := 66) (i := 26) (v := 26) rfl rfl rfl rfl rfl hs.1 (mo_s26 hs).1 (by omega) ?_
  refine sw_p 1 (f' := (67, [some (2, 0), some (0, c), some (0, mo_ft ν c)], [(0, mo_ft ν c), (2, 26), (0, c), (2, 19)])) rfl ?_
  refine sw_ial (pn := 68) (l := 512) rfl rfl (by omega) (mo_s26 hs).2.1 (mo_s26 hs).2.2 (by omega) (by omega) ?_
  rw [show (mm_u ν 0 0 0) 26 (mo_ft ν c) = ν 26 (mo_ft ν c) from mm_u_ne (by omega)]
  refine sw_p 1 (f' := (70, [some (2, 0), some (0, c), some (0, mo_ft ν c)], [(0, 8), (0, ν 26 (mo_ft ν c)), (0, c), (2, 19)])) rfl ?_
  refine sw_irem (pn := 71) rfl rfl (by omega) (by omega) ?_
  refine sw_p 2 (f' := (73, [some (2, 0), some (0, c), some (0, mo_ft ν c)], [(0, ((ν 26 (mo_ft ν c)) % 8) + 1), (0, c), (2, 19)])) rfl ?_
  refine sw_ias (pn := 74) (l := 40) rfl rfl (by omega) (mo_s19 hs).2.1 (mo_s19 hs).2.2 (by omega) (by omega) ?_
  refine sw_p 1 (f' := (75, [some (2, 0), some (0, c), some (0, mo_ft ν c)], [(2, 0)])) rfl ?_
  refine sw_hA (pn := 78) (i := 19) (v := 19) rfl rfl rfl rfl rfl hs.1 (mo_s19 hs).1 (by omega) ?_
  refine sw_p 2 (f' := (80, [some (2, 0), some (0, c), some (0, mo_ft ν c)], [(0, c), (2, 19), (0, c), (2, 19)])) rfl ?_
  refine sw_ial (pn := 81) (l := 40) rfl rfl (by omega) (mo_s19 hs).2.1 (mo_s19 hs).2.2 (by omega) (by omega) ?_
  rw [show (mm_u (mm_u ν 0 0 0) 19 c (((ν 26 (mo_ft ν c)) % 8) + 1)) 19 c = ((ν 26 (mo_ft ν c)) % 8) + 1 from mm_u_at]
  refine sw_p 2 (f' := (83, [some (2, 0), some (0, c), some (0, mo_ft ν c)], [(0, (((ν 26 (mo_ft ν c)) % 8) + 1) - 1), (0, c), (2, 19)])) rfl ?_
  refine sw_ias (pn := 84) (l := 40) rfl rfl (by omega) (mo_s19 hs).2.1 (mo_s19 hs).2.2 (by omega) (by omega) ?_
  refine sw_p 1 (f' := (85, [some (2, 0), some (0, c), some (0, mo_ft ν c)], [(2, 0)])) rfl ?_
  refine sw_hA (pn := 88) (i := 19) (v := 19) rfl rfl rfl rfl rfl hs.1 (mo_s19 hs).1 (by omega) ?_
  refine sw_p 1 (f' := (89, [some (2, 0), some (0, c), some (0, mo_ft ν c)], [(0, c), (2, 19)])) rfl ?_
  refine sw_ial (pn := 90) (l := 40) rfl rfl (by omega) (mo_s19 hs).2.1 (mo_s19 hs).2.2 (by omega) (by omega) ?_
  rw [show (mm_u (mm_u (mm_u ν 0 0 0) 19 c (((ν 26 (mo_ft ν c)) % 8) + 1)) 19 c ((((ν 26 (mo_ft ν c)) % 8) + 1) - 1)) 19 c = (((ν 26 (mo_ft ν c)) % 8) + 1) - 1 from mm_u_at]
  refine sw_ne1 (pt := 135) (pn := 93) rfl rfl rfl (by omega) (fun h6 => ?_) (fun h => absurd h (by omega))
  refine sw_p 1 (f' := (136, [some (2, 0), some (0, c), some (0, mo_ft ν c)], [(0, 1)])) rfl ?_
  exact sw_retZ rfl rfl rfl (by omega) ⟨rfl, rfl, rfl⟩
theorem mo_work_b2 (hs : mo_sh s) (hB : mo_B ν) (hc : 0 ≤ c ∧ c < ν 0 12) (h1 : ν 19 c = 0) (h2 : ν 15 c = 1) (h3 : 0 ≤ mo_ft ν c) (h4 : ν 26 (mo_ft ν c) % 8 = 0) : sw_w E (d + 1) 118 (0, [some (2, 0), some (0, c), none], []) s ν (sw_is (some (0, 1)) s (mo_wf (mm_u (mm_u (mo_cd ν 0) 19 c (ν 26 (mo_ft ν c) % 8 + 1)) 19 c (ν 26 (mo_ft ν c) % 8 + 1 - 1)) c (mo_ft ν c))) := by
  have hn := hB.2.2.1
  have hcd := hB.cd c (by omega) (by omega)
  have hft := mo_ft_b (c := c) hB
  have htk := hB.tk (mo_ft ν c)
  refine sw_p 3 (f' := (3, [some (2, 0), some (0, c), none], [(0, c), (2, 0), (2, 0)])) rfl ?_
  refine sw_cv1 (pn := 6) (q0 := mj_Mo_work) (q := mj_Mo_isCard) (p := 0) (as2 := [(0, c)]) (L2 := [some (2, 0), some (0, c)]) (rest := [(2, 0)]) (v := some (0, 1)) (s1 := s) (ν1 := ν) rfl rfl rfl rfl rfl rfl rfl rfl rfl hs.1 (mo_isC1 hs hB (by omega)) ?_
  show sw_w E _ 118 (6, [some (2, 0), some (0, c), none], [(0, 1), (2, 0)]) s ν _
  refine sw_eq1 (pt := 13) (pn := 9) rfl rfl rfl (by omega) (fun h => absurd h (by decide)) (fun _ => ?_)
  refine sw_p 2 (f' := (14, [some (2, 0), some (0, c), none], [(0, 0), (2, 0)])) rfl ?_
  refine sw_pI (pn := 17) (i := 0) rfl rfl rfl rfl rfl (by omega) hs.1 ?_
  refine sw_p 1 (f' := (18, [some (2, 0), some (0, c), none], [(2, 0)])) rfl ?_
  refine sw_gI (pn := 21) (i := 0) rfl rfl rfl rfl rfl (by omega) hs.1 ?_
  rw [show (mm_u ν 0 0 0) 0 0 = 0 from mm_u_at]
  refine sw_le1 (pt := 26) (pn := 24) rfl rfl rfl (by omega) (fun _ => ?_) (fun h => absurd h (by decide))
  refine sw_p 2 (f' := (28, [some (2, 0), some (0, c), none], [(0, c), (2, 0)])) rfl ?_
  refine sw_cv1 (pn := 31) (q0 := mj_Mo_work) (q := mj_Mo_firstOf) (p := 0) (as2 := [(0, c)]) (L2 := [some (2, 0), some (0, c), none, none]) (rest := []) (v := some (0, mo_ft ν c)) (s1 := s) (ν1 := (mm_u ν 0 0 0)) rfl rfl rfl rfl rfl rfl rfl rfl rfl hs.1 (mo_ft_c hs hB (by omega)) ?_
  show sw_w E _ 118 (31, [some (2, 0), some (0, c), none], [(0, mo_ft ν c)]) s (mm_u ν 0 0 0) _
  refine sw_p 2 (f' := (33, [some (2, 0), some (0, c), some (0, mo_ft ν c)], [(2, 0)])) rfl ?_
  refine sw_hA (pn := 36) (i := 19) (v := 19) rfl rfl rfl rfl rfl hs.1 (mo_s19 hs).1 (by omega) ?_
  refine sw_p 1 (f' := (37, [some (2, 0), some (0, c), some (0, mo_ft ν c)], [(0, c), (2, 19)])) rfl ?_
  refine sw_ial (pn := 38) (l := 40) rfl rfl (by omega) (mo_s19 hs).2.1 (mo_s19 hs).2.2 (by omega) (by omega) ?_
  rw [show (mm_u ν 0 0 0) 19 c = ν 19 c from mm_u_ne (by omega)]
  refine sw_ne1 (pt := 74) (pn := 41) rfl rfl rfl (by omega) (fun h => absurd h (by omega)) (fun h3 => ?_)
  refine sw_p 1 (f' := (42, [some (2, 0), some (0, c), some (0, mo_ft ν c)], [(2, 0)])) rfl ?_
  refine sw_hA (pn := 45) (i := 15) (v := 15) rfl rfl rfl rfl rfl hs.1 (mo_s15 hs).1 (by omega) ?_
  refine sw_p 1 (f' := (46, [some (2, 0), some (0, c), some (0, mo_ft ν c)], [(0, c), (2, 15)])) rfl ?_
  refine sw_ial (pn := 47) (l := 40) rfl rfl (by omega) (mo_s15 hs).2.1 (mo_s15 hs).2.2 (by omega) (by omega) ?_
  rw [show (mm_u ν 0 0 0) 15 c = ν 15 c from mm_u_ne (by omega)]
  refine sw_p 1 (f' := (48, [some (2, 0), some (0, c), some (0, mo_ft ν c)], [(0, 1), (0, ν 15 c)])) rfl ?_
  refine sw_ne2 (pt := 55) (pn := 51) rfl rfl rfl (by omega) (by omega) (fun h => absurd h (by omega)) (fun h4 => ?_)
  refine sw_p 1 (f' := (52, [some (2, 0), some (0, c), some (0, mo_ft ν c)], [(0, mo_ft ν c)])) rfl ?_
  refine sw_ge1 (pt := 57) (pn := 55) rfl rfl rfl (by omega) (fun h5 => ?_) (fun h => absurd h (by omega))
  refine sw_p 1 (f' := (58, [some (2, 0), some (0, c), some (0, mo_ft ν c)], [(2, 0)])) rfl ?_
  refine sw_hA (pn := 61) (i := 19) (v := 19) rfl rfl rfl rfl rfl hs.1 (mo_s19 hs).1 (by omega) ?_
  refine sw_p 2 (f' := (63, [some (2, 0), some (0, c), some (0, mo_ft ν c)], [(2, 0), (0, c), (2, 19)])) rfl ?_
  refine sw_hA (pn := 66) (i := 26) (v := 26) rfl rfl rfl rfl rfl hs.1 (mo_s26 hs).1 (by omega) ?_
  refine sw_p 1 (f' := (67, [some (2, 0), some (0, c), some (0, mo_ft ν c)], [(0, mo_ft ν c), (2, 26), (0, c), (2, 19)])) rfl ?_
  refine sw_ial (pn := 68) (l := 512) rfl rfl (by omega) (mo_s26 hs).2.1 (mo_s26 hs).2.2 (by omega) (by omega) ?_
  rw [show (mm_u ν 0 0 0) 26 (mo_ft ν c) = ν 26 (mo_ft ν c) from mm_u_ne (by omega)]
  refine sw_p 1 (f' := (70, [some (2, 0), some (0, c), some (0, mo_ft ν c)], [(0, 8), (0, ν 26 (mo_ft ν c)), (0, c), (2, 19)])) rfl ?_
  refine sw_irem (pn := 71) rfl rfl (by omega) (by omega) ?_
  refine sw_p 2 (f' := (73, [some (2, 0), some (0, c), some (0, mo_ft ν c)], [(0, ((ν 26 (mo_ft ν c)) % 8) + 1), (0, c), (2, 19)])) rfl ?_
  refine sw_ias (pn := 74) (l := 40) rfl rfl (by omega) (mo_s19 hs).2.1 (mo_s19 hs).2.2 (by omega) (by omega) ?_
  refine sw_p 1 (f' := (75, [some (2, 0), some (0, c), some (0, mo_ft ν c)], [(2, 0)])) rfl ?_
  refine sw_hA (pn := 78) (i := 19) (v := 19) rfl rfl rfl rfl rfl hs.1 (mo_s19 hs).1 (by omega) ?_
  refine sw_p 2 (f' := (80, [some (2, 0), some (0, c), some (0, mo_ft ν c)], [(0, c), (2, 19), (0, c), (2, 19)])) rfl ?_
  refine sw_ial (pn := 81) (l := 40) rfl rfl (by omega) (mo_s19 hs).2.1 (mo_s19 hs).2.2 (by omega) (by omega) ?_
  rw [show (mm_u (mm_u ν 0 0 0) 19 c (((ν 26 (mo_ft ν c)) % 8) + 1)) 19 c = ((ν 26 (mo_ft ν c)) % 8) + 1 from mm_u_at]
  refine sw_p 2 (f' := (83, [some (2, 0), some (0, c), some (0, mo_ft ν c)], [(0, (((ν 26 (mo_ft ν c)) % 8) + 1) - 1), (0, c), (2, 19)])) rfl ?_
  refine sw_ias (pn := 84) (l := 40) rfl rfl (by omega) (mo_s19 hs).2.1 (mo_s19 hs).2.2 (by omega) (by omega) ?_
  refine sw_p 1 (f' := (85, [some (2, 0), some (0, c), some (0, mo_ft ν c)], [(2, 0)])) rfl ?_
  refine sw_hA (pn := 88) (i := 19) (v := 19) rfl rfl rfl rfl rfl hs.1 (mo_s19 hs).1 (by omega) ?_
  refine sw_p 1 (f' := (89, [some (2, 0), some (0, c), some (0, mo_ft ν c)], [(0, c), (2, 19)])) rfl ?_
  refine sw_ial (pn := 90) (l := 40) rfl rfl (by omega) (mo_s19 hs).2.1 (mo_s19 hs).2.2 (by omega) (by omega) ?_
  rw [show (mm_u (mm_u (mm_u ν 0 0 0) 19 c (((ν 26 (mo_ft ν c)) % 8) + 1)) 19 c ((((ν 26 (mo_ft ν c)) % 8) + 1) - 1)) 19 c = (((ν 26 (mo_ft ν c)) % 8) + 1) - 1 from mm_u_at]
  refine sw_ne1 (pt := 135) (pn := 93) rfl rfl rfl (by omega) (fun h => absurd h (by omega)) (fun h6 => ?_)
  refine sw_p 1 (f' := (94, [some (2, 0), some (0, c), some (0, mo_ft ν c)], [(2, 0)])) rfl ?_
  refine sw_hA (pn := 97) (i := 20) (v := 20) rfl rfl rfl rfl rfl hs.1 (mo_s20 hs).1 (by omega) ?_
  refine sw_p 3 (f' := (101, [some (2, 0), some (0, c), some (0, mo_ft ν c)], [(2, 0), (0, 31), (0, c), (2, 20)])) rfl ?_
  refine sw_hA (pn := 104) (i := 20) (v := 20) rfl rfl rfl rfl rfl hs.1 (mo_s20 hs).1 (by omega) ?_
  refine sw_p 1 (f' := (105, [some (2, 0), some (0, c), some (0, mo_ft ν c)], [(0, c), (2, 20), (0, 31), (0, c), (2, 20)])) rfl ?_
  refine sw_ial (pn := 106) (l := 40) rfl rfl (by omega) (mo_s20 hs).2.1 (mo_s20 hs).2.2 (by omega) (by omega) ?_
  rw [show (mm_u (mm_u (mm_u ν 0 0 0) 19 c (((ν 26 (mo_ft ν c)) % 8) + 1)) 19 c ((((ν 26 (mo_ft ν c)) % 8) + 1) - 1)) 20 c = ν 20 c from (mm_u_ne (by omega)).trans ((mm_u_ne (by omega)).trans (mm_u_ne (by omega)))]
  refine sw_p 2 (f' := (108, [some (2, 0), some (0, c), some (0, mo_ft ν c)], [(2, 0), (0, 31 * (ν 20 c)), (0, c), (2, 20)])) rfl ?_
  refine sw_hA (pn := 111) (i := 27) (v := 27) rfl rfl rfl rfl rfl hs.1 (mo_s27 hs).1 (by omega) ?_
  refine sw_p 1 (f' := (112, [some (2, 0), some (0, c), some (0, mo_ft ν c)], [(0, mo_ft ν c), (2, 27), (0, 31 * (ν 20 c)), (0, c), (2, 20)])) rfl ?_
  refine sw_ial (pn := 113) (l := 512) rfl rfl (by omega) (mo_s27 hs).2.1 (mo_s27 hs).2.2 (by omega) (by omega) ?_
  rw [show (mm_u (mm_u (mm_u ν 0 0 0) 19 c (((ν 26 (mo_ft ν c)) % 8) + 1)) 19 c ((((ν 26 (mo_ft ν c)) % 8) + 1) - 1)) 27 (mo_ft ν c) = ν 27 (mo_ft ν c) from (mm_u_ne (by omega)).trans ((mm_u_ne (by omega)).trans (mm_u_ne (by omega)))]
  refine sw_p 1 (f' := (114, [some (2, 0), some (0, c), some (0, mo_ft ν c)], [(0, (31 * (ν 20 c)) + (ν 27 (mo_ft ν c))), (0, c), (2, 20)])) rfl ?_
  refine sw_ias (pn := 115) (l := 40) rfl rfl (by omega) (mo_s20 hs).2.1 (mo_s20 hs).2.2 (by omega) (by omega) ?_
  refine sw_p 1 (f' := (116, [some (2, 0), some (0, c), some (0, mo_ft ν c)], [(2, 0)])) rfl ?_
  refine sw_hA (pn := 119) (i := 28) (v := 28) rfl rfl rfl rfl rfl hs.1 (mo_s28 hs).1 (by omega) ?_
  refine sw_p 2 (f' := (121, [some (2, 0), some (0, c), some (0, mo_ft ν c)], [(2, 0), (0, mo_ft ν c), (2, 28)])) rfl ?_
  refine sw_hA (pn := 124) (i := 20) (v := 20) rfl rfl rfl rfl rfl hs.1 (mo_s20 hs).1 (by omega) ?_
  refine sw_p 1 (f' := (125, [some (2, 0), some (0, c), some (0, mo_ft ν c)], [(0, c), (2, 20), (0, mo_ft ν c), (2, 28)])) rfl ?_
  refine sw_ial (pn := 126) (l := 40) rfl rfl (by omega) (mo_s20 hs).2.1 (mo_s20 hs).2.2 (by omega) (by omega) ?_
  rw [show (mm_u (mm_u (mm_u (mm_u ν 0 0 0) 19 c (((ν 26 (mo_ft ν c)) % 8) + 1)) 19 c ((((ν 26 (mo_ft ν c)) % 8) + 1) - 1)) 20 c ((31 * (ν 20 c)) + (ν 27 (mo_ft ν c)))) 20 c = (31 * (ν 20 c)) + (ν 27 (mo_ft ν c)) from mm_u_at]
  refine sw_p 1 (f' := (127, [some (2, 0), some (0, c), some (0, mo_ft ν c)], [(2, 0), (0, (31 * (ν 20 c)) + (ν 27 (mo_ft ν c))), (0, mo_ft ν c), (2, 28)])) rfl ?_
  refine sw_hA (pn := 130) (i := 26) (v := 26) rfl rfl rfl rfl rfl hs.1 (mo_s26 hs).1 (by omega) ?_
  refine sw_p 1 (f' := (131, [some (2, 0), some (0, c), some (0, mo_ft ν c)], [(0, mo_ft ν c), (2, 26), (0, (31 * (ν 20 c)) + (ν 27 (mo_ft ν c))), (0, mo_ft ν c), (2, 28)])) rfl ?_
  refine sw_ial (pn := 132) (l := 512) rfl rfl (by omega) (mo_s26 hs).2.1 (mo_s26 hs).2.2 (by omega) (by omega) ?_
  rw [show (mm_u (mm_u (mm_u (mm_u ν 0 0 0) 19 c (((ν 26 (mo_ft ν c)) % 8) + 1)) 19 c ((((ν 26 (mo_ft ν c)) % 8) + 1) - 1)) 20 c ((31 * (ν 20 c)) + (ν 27 (mo_ft ν c)))) 26 (mo_ft ν c) = ν 26 (mo_ft ν c) from (mm_u_ne (by omega)).trans ((mm_u_ne (by omega)).trans ((mm_u_ne (by omega)).trans (mm_u_ne (by omega))))]
  refine sw_p 1 (f' := (133, [some (2, 0), some (0, c), some (0, mo_ft ν c)], [(0, ((31 * (ν 20 c)) + (ν 27 (mo_ft ν c))) + (ν 26 (mo_ft ν c))), (0, mo_ft ν c), (2, 28)])) rfl ?_
  refine sw_i2lw (pn := 134) rfl rfl ?_
  refine sw_las (pn := 135) (l := 512) rfl rfl (by omega) (mo_s28 hs).2.1 (mo_s28 hs).2.2 (by omega) (by omega) ?_
  refine sw_p 1 (f' := (136, [some (2, 0), some (0, c), some (0, mo_ft ν c)], [(0, 1)])) rfl ?_
  exact sw_retZ rfl rfl rfl (by omega) ⟨rfl, rfl, by unfold mo_wf; rw [show mm_u (mm_u (mo_cd ν 0) 19 c (ν 26 (mo_ft ν c) % 8 + 1)) 19 c (ν 26 (mo_ft ν c) % 8 + 1 - 1) 20 c = ν 20 c from (mm_u_ne (by omega)).trans ((mm_u_ne (by omega)).trans (mm_u_ne (by omega))), show mm_u (mm_u (mo_cd ν 0) 19 c (ν 26 (mo_ft ν c) % 8 + 1)) 19 c (ν 26 (mo_ft ν c) % 8 + 1 - 1) 27 (mo_ft ν c) = ν 27 (mo_ft ν c) from (mm_u_ne (by omega)).trans ((mm_u_ne (by omega)).trans (mm_u_ne (by omega))), show mm_u (mm_u (mo_cd ν 0) 19 c (ν 26 (mo_ft ν c) % 8 + 1)) 19 c (ν 26 (mo_ft ν c) % 8 + 1 - 1) 26 (mo_ft ν c) = ν 26 (mo_ft ν c) from (mm_u_ne (by omega)).trans ((mm_u_ne (by omega)).trans (mm_u_ne (by omega)))]⟩
theorem mo_work_bad (hs : mo_sh s) (hB : mo_B ν) (hc : -2147483648 ≤ c ∧ c < 2147483648) (h0 : ¬ (0 ≤ c ∧ c < ν 0 12)) : sw_w E (d + 1) 118 (0, [some (2, 0), some (0, c), none], []) s ν (sw_is (some (0, 0)) s (mo_cd ν 1)) := by
  have hn := hB.2.2.1
  refine sw_p 3 (f' := (3, [some (2, 0), some (0, c), none], [(0, c), (2, 0), (2, 0)])) rfl ?_
  refine sw_cv1 (pn := 6) (q0 := mj_Mo_work) (q := mj_Mo_isCard) (p := 0) (as2 := [(0, c)]) (L2 := [some (2, 0), some (0, c)]) (rest := [(2, 0)]) (v := some (0, 0)) (s1 := s) (ν1 := ν) rfl rfl rfl rfl rfl rfl rfl rfl rfl hs.1 (mo_isC0 hs hB (by omega) (by omega)) ?_
  show sw_w E _ 118 (6, [some (2, 0), some (0, c), none], [(0, 0), (2, 0)]) s ν _
  refine sw_eq1 (pt := 13) (pn := 9) rfl rfl rfl (by omega) (fun _ => ?_) (fun h => absurd h (by decide))
  refine sw_p 1 (f' := (14, [some (2, 0), some (0, c), none], [(0, 1), (2, 0)])) rfl ?_
  refine sw_pI (pn := 17) (i := 0) rfl rfl rfl rfl rfl (by omega) hs.1 ?_
  refine sw_p 1 (f' := (18, [some (2, 0), some (0, c), none], [(2, 0)])) rfl ?_
  refine sw_gI (pn := 21) (i := 0) rfl rfl rfl rfl rfl (by omega) hs.1 ?_
  rw [show (mm_u ν 0 0 1) 0 0 = 1 from mm_u_at]
  refine sw_le1 (pt := 26) (pn := 24) rfl rfl rfl (by omega) (fun h => absurd h (by decide)) (fun _ => ?_)
  refine sw_p 1 (f' := (25, [some (2, 0), some (0, c), none], [(0, 0)])) rfl ?_
  exact sw_retZ rfl rfl rfl (by omega) ⟨rfl, rfl, rfl⟩
end MO9
end
