section
-- ===== PART A: goes FIRST, ahead of the names: the tables' words, and 'selects' of the private methods out of them =====
/-- a private method of a class that the tables say can be made, by its rows of tables_1 -/
def lw_okq (q : MethodName × Nat) : Prop := (q.1.cls ≠ "java/lang/invoke/MethodHandle" ∧ q.1.cls ≠ "java/lang/invoke/VarHandle") ∧ Cond.instantiable q.1.cls q.2 ∈ tables_1 ∧ Cond.privateMethod q.1 ∈ tables_1 ∧ Cond.instanceMethod q.1 ∈ tables_1
theorem lw_p0 : lw_okq (⟨"CubeHops", "found", "(I)I"⟩, 15) := ⟨⟨by decide +kernel, by decide +kernel⟩, List.mem_of_getElem? (i := 12) (by decide +kernel), List.mem_of_getElem? (i := 163) (by decide +kernel), List.mem_of_getElem? (i := 164) (by decide +kernel)⟩
theorem lw_p1 : lw_okq (⟨"CubeHops", "refusePlace", "(LCubeHops$Strip;I)I"⟩, 15) := ⟨⟨by decide +kernel, by decide +kernel⟩, List.mem_of_getElem? (i := 12) (by decide +kernel), List.mem_of_getElem? (i := 171) (by decide +kernel), List.mem_of_getElem? (i := 172) (by decide +kernel)⟩
theorem lw_p2 : lw_okq (⟨"CubeHops", "tell", "(II)I"⟩, 15) := ⟨⟨by decide +kernel, by decide +kernel⟩, List.mem_of_getElem? (i := 12) (by decide +kernel), List.mem_of_getElem? (i := 192) (by decide +kernel), List.mem_of_getElem? (i := 193) (by decide +kernel)⟩
theorem lw_p3 : lw_okq (⟨"CubeHops", "replay", "()V"⟩, 15) := ⟨⟨by decide +kernel, by decide +kernel⟩, List.mem_of_getElem? (i := 12) (by decide +kernel), List.mem_of_getElem? (i := 271) (by decide +kernel), List.mem_of_getElem? (i := 272) (by decide +kernel)⟩
theorem lw_p4 : lw_okq (⟨"CubeHops$Cube", "dodgingWay", "(I)I"⟩, 10) := ⟨⟨by decide +kernel, by decide +kernel⟩, List.mem_of_getElem? (i := 39) (by decide +kernel), List.mem_of_getElem? (i := 317) (by decide +kernel), List.mem_of_getElem? (i := 318) (by decide +kernel)⟩
theorem lw_p5 : lw_okq (⟨"CubeHops", "lazyWishes", "(I)I"⟩, 15) := ⟨⟨by decide +kernel, by decide +kernel⟩, List.mem_of_getElem? (i := 12) (by decide +kernel), List.mem_of_getElem? (i := 357) (by decide +kernel), List.mem_of_getElem? (i := 358) (by decide +kernel)⟩
theorem lw_p6 : lw_okq (⟨"CubeHops", "perform", "(I)V"⟩, 15) := ⟨⟨by decide +kernel, by decide +kernel⟩, List.mem_of_getElem? (i := 12) (by decide +kernel), List.mem_of_getElem? (i := 380) (by decide +kernel), List.mem_of_getElem? (i := 381) (by decide +kernel)⟩
theorem lw_p7 : lw_okq (⟨"CubeHops", "turnOver", "(I)I"⟩, 15) := ⟨⟨by decide +kernel, by decide +kernel⟩, List.mem_of_getElem? (i := 12) (by decide +kernel), List.mem_of_getElem? (i := 392) (by decide +kernel), List.mem_of_getElem? (i := 393) (by decide +kernel)⟩
theorem lw_p8 : lw_okq (⟨"CubeHops", "countUses", "(I)V"⟩, 15) := ⟨⟨by decide +kernel, by decide +kernel⟩, List.mem_of_getElem? (i := 12) (by decide +kernel), List.mem_of_getElem? (i := 474) (by decide +kernel), List.mem_of_getElem? (i := 475) (by decide +kernel)⟩
theorem lw_p9 : lw_okq (⟨"CubeHops$Parting", "findsWay", "(JII)Z"⟩, 3) := ⟨⟨by decide +kernel, by decide +kernel⟩, List.mem_of_getElem? (i := 85) (by decide +kernel), List.mem_of_getElem? (i := 507) (by decide +kernel), List.mem_of_getElem? (i := 508) (by decide +kernel)⟩
theorem lw_p10 : lw_okq (⟨"CubeHops$Parting", "useWay", "(II)V"⟩, 3) := ⟨⟨by decide +kernel, by decide +kernel⟩, List.mem_of_getElem? (i := 85) (by decide +kernel), List.mem_of_getElem? (i := 512) (by decide +kernel), List.mem_of_getElem? (i := 513) (by decide +kernel)⟩
theorem lw_p11 : lw_okq (⟨"CubeHops$Parting", "use", "(III)V"⟩, 3) := ⟨⟨by decide +kernel, by decide +kernel⟩, List.mem_of_getElem? (i := 85) (by decide +kernel), List.mem_of_getElem? (i := 516) (by decide +kernel), List.mem_of_getElem? (i := 517) (by decide +kernel)⟩
theorem lw_p12 : lw_okq (⟨"CubeHops", "refuseSights", "(II)I"⟩, 15) := ⟨⟨by decide +kernel, by decide +kernel⟩, List.mem_of_getElem? (i := 12) (by decide +kernel), List.mem_of_getElem? (i := 531) (by decide +kernel), List.mem_of_getElem? (i := 532) (by decide +kernel)⟩
theorem lw_p13 : lw_okq (⟨"CubeHops", "asideFits", "(ILCubeHops$Strip;)Z"⟩, 15) := ⟨⟨by decide +kernel, by decide +kernel⟩, List.mem_of_getElem? (i := 12) (by decide +kernel), List.mem_of_getElem? (i := 536) (by decide +kernel), List.mem_of_getElem? (i := 537) (by decide +kernel)⟩
theorem lw_p14 : lw_okq (⟨"CubeHops", "fittingKinds", "(ILCubeHops$Strip;)I"⟩, 15) := ⟨⟨by decide +kernel, by decide +kernel⟩, List.mem_of_getElem? (i := 12) (by decide +kernel), List.mem_of_getElem? (i := 544) (by decide +kernel), List.mem_of_getElem? (i := 545) (by decide +kernel)⟩
theorem lw_p15 : lw_okq (⟨"CubeHops", "lookAhead", "(II)V"⟩, 15) := ⟨⟨by decide +kernel, by decide +kernel⟩, List.mem_of_getElem? (i := 12) (by decide +kernel), List.mem_of_getElem? (i := 552) (by decide +kernel), List.mem_of_getElem? (i := 553) (by decide +kernel)⟩
def lw_privs_1 : List (MethodName × Nat) := [(⟨"CubeHops", "found", "(I)I"⟩, 15), (⟨"CubeHops", "refusePlace", "(LCubeHops$Strip;I)I"⟩, 15), (⟨"CubeHops", "tell", "(II)I"⟩, 15), (⟨"CubeHops", "replay", "()V"⟩, 15), (⟨"CubeHops$Cube", "dodgingWay", "(I)I"⟩, 10), (⟨"CubeHops", "lazyWishes", "(I)I"⟩, 15), (⟨"CubeHops", "perform", "(I)V"⟩, 15), (⟨"CubeHops", "turnOver", "(I)I"⟩, 15), (⟨"CubeHops", "countUses", "(I)V"⟩, 15), (⟨"CubeHops$Parting", "findsWay", "(JII)Z"⟩, 3), (⟨"CubeHops$Parting", "useWay", "(II)V"⟩, 3), (⟨"CubeHops$Parting", "use", "(III)V"⟩, 3), (⟨"CubeHops", "refuseSights", "(II)I"⟩, 15), (⟨"CubeHops", "asideFits", "(ILCubeHops$Strip;)Z"⟩, 15), (⟨"CubeHops", "fittingKinds", "(ILCubeHops$Strip;)I"⟩, 15), (⟨"CubeHops", "lookAhead", "(II)V"⟩, 15)]
theorem lw_r1 : ∀ q ∈ lw_privs_1, lw_okq q := List.forall_mem_cons.mpr ⟨lw_p0, List.forall_mem_cons.mpr ⟨lw_p1, List.forall_mem_cons.mpr ⟨lw_p2, List.forall_mem_cons.mpr ⟨lw_p3, List.forall_mem_cons.mpr ⟨lw_p4, List.forall_mem_cons.mpr ⟨lw_p5, List.forall_mem_cons.mpr ⟨lw_p6, List.forall_mem_cons.mpr ⟨lw_p7, List.forall_mem_cons.mpr ⟨lw_p8, List.forall_mem_cons.mpr ⟨lw_p9, List.forall_mem_cons.mpr ⟨lw_p10, List.forall_mem_cons.mpr ⟨lw_p11, List.forall_mem_cons.mpr ⟨lw_p12, List.forall_mem_cons.mpr ⟨lw_p13, List.forall_mem_cons.mpr ⟨lw_p14, List.forall_mem_cons.mpr ⟨lw_p15, fun _ h => absurd h List.not_mem_nil⟩⟩⟩⟩⟩⟩⟩⟩⟩⟩⟩⟩⟩⟩⟩⟩
theorem lw_p16 : lw_okq (⟨"CubeHops", "greatestPart", "(II)I"⟩, 15) := ⟨⟨by decide +kernel, by decide +kernel⟩, List.mem_of_getElem? (i := 12) (by decide +kernel), List.mem_of_getElem? (i := 556) (by decide +kernel), List.mem_of_getElem? (i := 557) (by decide +kernel)⟩
theorem lw_p17 : lw_okq (⟨"CubeHops", "wholeOnLowWay", "(II)I"⟩, 15) := ⟨⟨by decide +kernel, by decide +kernel⟩, List.mem_of_getElem? (i := 12) (by decide +kernel), List.mem_of_getElem? (i := 581) (by decide +kernel), List.mem_of_getElem? (i := 582) (by decide +kernel)⟩
theorem lw_p18 : lw_okq (⟨"CubeHops", "tellFraction", "(JJ)I"⟩, 15) := ⟨⟨by decide +kernel, by decide +kernel⟩, List.mem_of_getElem? (i := 12) (by decide +kernel), List.mem_of_getElem? (i := 586) (by decide +kernel), List.mem_of_getElem? (i := 587) (by decide +kernel)⟩
theorem lw_p19 : lw_okq (⟨"CubeHops", "lotDeed", "(I)I"⟩, 15) := ⟨⟨by decide +kernel, by decide +kernel⟩, List.mem_of_getElem? (i := 12) (by decide +kernel), List.mem_of_getElem? (i := 605) (by decide +kernel), List.mem_of_getElem? (i := 606) (by decide +kernel)⟩
theorem lw_p20 : lw_okq (⟨"CubeHops", "tally", "(I)I"⟩, 15) := ⟨⟨by decide +kernel, by decide +kernel⟩, List.mem_of_getElem? (i := 12) (by decide +kernel), List.mem_of_getElem? (i := 625) (by decide +kernel), List.mem_of_getElem? (i := 626) (by decide +kernel)⟩
theorem lw_p21 : lw_okq (⟨"CubeHops", "howManyAre", "(I)I"⟩, 15) := ⟨⟨by decide +kernel, by decide +kernel⟩, List.mem_of_getElem? (i := 12) (by decide +kernel), List.mem_of_getElem? (i := 633) (by decide +kernel), List.mem_of_getElem? (i := 634) (by decide +kernel)⟩
theorem lw_p22 : lw_okq (⟨"CubeHopsModel", "finds", "(I)I"⟩, 31) := ⟨⟨by decide +kernel, by decide +kernel⟩, List.mem_of_getElem? (i := 656) (by decide +kernel), List.mem_of_getElem? (i := 763) (by decide +kernel), List.mem_of_getElem? (i := 764) (by decide +kernel)⟩
theorem lw_p23 : lw_okq (⟨"CubeHopsModel", "wrongAt", "(II)I"⟩, 31) := ⟨⟨by decide +kernel, by decide +kernel⟩, List.mem_of_getElem? (i := 656) (by decide +kernel), List.mem_of_getElem? (i := 771) (by decide +kernel), List.mem_of_getElem? (i := 772) (by decide +kernel)⟩
theorem lw_p24 : lw_okq (⟨"CubeHopsModel", "tells", "(I)I"⟩, 31) := ⟨⟨by decide +kernel, by decide +kernel⟩, List.mem_of_getElem? (i := 656) (by decide +kernel), List.mem_of_getElem? (i := 775) (by decide +kernel), List.mem_of_getElem? (i := 776) (by decide +kernel)⟩
theorem lw_p25 : lw_okq (⟨"CubeHopsModel", "read", "(I)I"⟩, 31) := ⟨⟨by decide +kernel, by decide +kernel⟩, List.mem_of_getElem? (i := 656) (by decide +kernel), List.mem_of_getElem? (i := 810) (by decide +kernel), List.mem_of_getElem? (i := 811) (by decide +kernel)⟩
theorem lw_p26 : lw_okq (⟨"CubeHopsModel", "skip", "()V"⟩, 31) := ⟨⟨by decide +kernel, by decide +kernel⟩, List.mem_of_getElem? (i := 656) (by decide +kernel), List.mem_of_getElem? (i := 814) (by decide +kernel), List.mem_of_getElem? (i := 815) (by decide +kernel)⟩
theorem lw_p27 : lw_okq (⟨"CubeHopsModel", "letterAt", "(I)I"⟩, 31) := ⟨⟨by decide +kernel, by decide +kernel⟩, List.mem_of_getElem? (i := 656) (by decide +kernel), List.mem_of_getElem? (i := 818) (by decide +kernel), List.mem_of_getElem? (i := 819) (by decide +kernel)⟩
theorem lw_p28 : lw_okq (⟨"CubeHopsModel", "isMessageItem", "()Z"⟩, 31) := ⟨⟨by decide +kernel, by decide +kernel⟩, List.mem_of_getElem? (i := 656) (by decide +kernel), List.mem_of_getElem? (i := 822) (by decide +kernel), List.mem_of_getElem? (i := 823) (by decide +kernel)⟩
theorem lw_p29 : lw_okq (⟨"CubeHopsModel", "cornerThere", "()I"⟩, 31) := ⟨⟨by decide +kernel, by decide +kernel⟩, List.mem_of_getElem? (i := 656) (by decide +kernel), List.mem_of_getElem? (i := 829) (by decide +kernel), List.mem_of_getElem? (i := 830) (by decide +kernel)⟩
theorem lw_p30 : lw_okq (⟨"CubeHopsModel", "isOne", "(I)Z"⟩, 31) := ⟨⟨by decide +kernel, by decide +kernel⟩, List.mem_of_getElem? (i := 656) (by decide +kernel), List.mem_of_getElem? (i := 841) (by decide +kernel), List.mem_of_getElem? (i := 842) (by decide +kernel)⟩
theorem lw_p31 : lw_okq (⟨"CubeHopsModel", "messageTells", "(II)I"⟩, 31) := ⟨⟨by decide +kernel, by decide +kernel⟩, List.mem_of_getElem? (i := 656) (by decide +kernel), List.mem_of_getElem? (i := 845) (by decide +kernel), List.mem_of_getElem? (i := 846) (by decide +kernel)⟩
def lw_privs_2 : List (MethodName × Nat) := [(⟨"CubeHops", "greatestPart", "(II)I"⟩, 15), (⟨"CubeHops", "wholeOnLowWay", "(II)I"⟩, 15), (⟨"CubeHops", "tellFraction", "(JJ)I"⟩, 15), (⟨"CubeHops", "lotDeed", "(I)I"⟩, 15), (⟨"CubeHops", "tally", "(I)I"⟩, 15), (⟨"CubeHops", "howManyAre", "(I)I"⟩, 15), (⟨"CubeHopsModel", "finds", "(I)I"⟩, 31), (⟨"CubeHopsModel", "wrongAt", "(II)I"⟩, 31), (⟨"CubeHopsModel", "tells", "(I)I"⟩, 31), (⟨"CubeHopsModel", "read", "(I)I"⟩, 31), (⟨"CubeHopsModel", "skip", "()V"⟩, 31), (⟨"CubeHopsModel", "letterAt", "(I)I"⟩, 31), (⟨"CubeHopsModel", "isMessageItem", "()Z"⟩, 31), (⟨"CubeHopsModel", "cornerThere", "()I"⟩, 31), (⟨"CubeHopsModel", "isOne", "(I)Z"⟩, 31), (⟨"CubeHopsModel", "messageTells", "(II)I"⟩, 31)]
theorem lw_r2 : ∀ q ∈ lw_privs_2, lw_okq q := List.forall_mem_cons.mpr ⟨lw_p16, List.forall_mem_cons.mpr ⟨lw_p17, List.forall_mem_cons.mpr ⟨lw_p18, List.forall_mem_cons.mpr ⟨lw_p19, List.forall_mem_cons.mpr ⟨lw_p20, List.forall_mem_cons.mpr ⟨lw_p21, List.forall_mem_cons.mpr ⟨lw_p22, List.forall_mem_cons.mpr ⟨lw_p23, List.forall_mem_cons.mpr ⟨lw_p24, List.forall_mem_cons.mpr ⟨lw_p25, List.forall_mem_cons.mpr ⟨lw_p26, List.forall_mem_cons.mpr ⟨lw_p27, List.forall_mem_cons.mpr ⟨lw_p28, List.forall_mem_cons.mpr ⟨lw_p29, List.forall_mem_cons.mpr ⟨lw_p30, List.forall_mem_cons.mpr ⟨lw_p31, fun _ h => absurd h List.not_mem_nil⟩⟩⟩⟩⟩⟩⟩⟩⟩⟩⟩⟩⟩⟩⟩⟩
theorem lw_p32 : lw_okq (⟨"CubeHopsModel", "note", "()V"⟩, 31) := ⟨⟨by decide +kernel, by decide +kernel⟩, List.mem_of_getElem? (i := 656) (by decide +kernel), List.mem_of_getElem? (i := 894) (by decide +kernel), List.mem_of_getElem? (i := 895) (by decide +kernel)⟩
theorem lw_p33 : lw_okq (⟨"CubeHopsModel", "steps", "([I)I"⟩, 31) := ⟨⟨by decide +kernel, by decide +kernel⟩, List.mem_of_getElem? (i := 656) (by decide +kernel), List.mem_of_getElem? (i := 901) (by decide +kernel), List.mem_of_getElem? (i := 902) (by decide +kernel)⟩
theorem lw_p34 : lw_okq (⟨"CubeHopsModel", "begin", "()V"⟩, 31) := ⟨⟨by decide +kernel, by decide +kernel⟩, List.mem_of_getElem? (i := 656) (by decide +kernel), List.mem_of_getElem? (i := 933) (by decide +kernel), List.mem_of_getElem? (i := 934) (by decide +kernel)⟩
theorem lw_p35 : lw_okq (⟨"CubeHopsModel", "allOf", "()I"⟩, 31) := ⟨⟨by decide +kernel, by decide +kernel⟩, List.mem_of_getElem? (i := 656) (by decide +kernel), List.mem_of_getElem? (i := 948) (by decide +kernel), List.mem_of_getElem? (i := 949) (by decide +kernel)⟩
theorem lw_p36 : lw_okq (⟨"CubeHopsModel", "offOnes", "()I"⟩, 31) := ⟨⟨by decide +kernel, by decide +kernel⟩, List.mem_of_getElem? (i := 656) (by decide +kernel), List.mem_of_getElem? (i := 952) (by decide +kernel), List.mem_of_getElem? (i := 953) (by decide +kernel)⟩
theorem lw_p37 : lw_okq (⟨"CubeHopsModel", "layAway", "(II)V"⟩, 31) := ⟨⟨by decide +kernel, by decide +kernel⟩, List.mem_of_getElem? (i := 656) (by decide +kernel), List.mem_of_getElem? (i := 964) (by decide +kernel), List.mem_of_getElem? (i := 965) (by decide +kernel)⟩
theorem lw_p38 : lw_okq (⟨"CubeHopsModel", "isMore", "(II)Z"⟩, 31) := ⟨⟨by decide +kernel, by decide +kernel⟩, List.mem_of_getElem? (i := 656) (by decide +kernel), List.mem_of_getElem? (i := 976) (by decide +kernel), List.mem_of_getElem? (i := 977) (by decide +kernel)⟩
theorem lw_p39 : lw_okq (⟨"CubeHopsModel", "wrongRow", "(II)I"⟩, 31) := ⟨⟨by decide +kernel, by decide +kernel⟩, List.mem_of_getElem? (i := 656) (by decide +kernel), List.mem_of_getElem? (i := 988) (by decide +kernel), List.mem_of_getElem? (i := 989) (by decide +kernel)⟩
theorem lw_p40 : lw_okq (⟨"CubeHopsModel", "isSeen", "(II)Z"⟩, 31) := ⟨⟨by decide +kernel, by decide +kernel⟩, List.mem_of_getElem? (i := 656) (by decide +kernel), List.mem_of_getElem? (i := 992) (by decide +kernel), List.mem_of_getElem? (i := 993) (by decide +kernel)⟩
theorem lw_p41 : lw_okq (⟨"CubeHopsModel", "kindsBy", "(II)I"⟩, 31) := ⟨⟨by decide +kernel, by decide +kernel⟩, List.mem_of_getElem? (i := 656) (by decide +kernel), List.mem_of_getElem? (i := 1000) (by decide +kernel), List.mem_of_getElem? (i := 1001) (by decide +kernel)⟩
theorem lw_p42 : lw_okq (⟨"CubeHopsModel", "laySeen", "(I)V"⟩, 31) := ⟨⟨by decide +kernel, by decide +kernel⟩, List.mem_of_getElem? (i := 656) (by decide +kernel), List.mem_of_getElem? (i := 1008) (by decide +kernel), List.mem_of_getElem? (i := 1009) (by decide +kernel)⟩
theorem lw_p43 : lw_okq (⟨"CubeHopsModel", "farBy", "(III)I"⟩, 31) := ⟨⟨by decide +kernel, by decide +kernel⟩, List.mem_of_getElem? (i := 656) (by decide +kernel), List.mem_of_getElem? (i := 1016) (by decide +kernel), List.mem_of_getElem? (i := 1017) (by decide +kernel)⟩
theorem lw_p44 : lw_okq (⟨"CubeHopsModel", "farthest", "(III)I"⟩, 31) := ⟨⟨by decide +kernel, by decide +kernel⟩, List.mem_of_getElem? (i := 656) (by decide +kernel), List.mem_of_getElem? (i := 1020) (by decide +kernel), List.mem_of_getElem? (i := 1021) (by decide +kernel)⟩
theorem lw_p45 : lw_okq (⟨"CubeHopsModel", "nearest", "(IIII)I"⟩, 31) := ⟨⟨by decide +kernel, by decide +kernel⟩, List.mem_of_getElem? (i := 656) (by decide +kernel), List.mem_of_getElem? (i := 1024) (by decide +kernel), List.mem_of_getElem? (i := 1025) (by decide +kernel)⟩
theorem lw_p46 : lw_okq (⟨"CubeHopsModel", "told", "(JJ)I"⟩, 31) := ⟨⟨by decide +kernel, by decide +kernel⟩, List.mem_of_getElem? (i := 656) (by decide +kernel), List.mem_of_getElem? (i := 1033) (by decide +kernel), List.mem_of_getElem? (i := 1034) (by decide +kernel)⟩
theorem lw_p47 : lw_okq (⟨"CubeHopsModel", "lot", "(I)V"⟩, 31) := ⟨⟨by decide +kernel, by decide +kernel⟩, List.mem_of_getElem? (i := 656) (by decide +kernel), List.mem_of_getElem? (i := 1048) (by decide +kernel), List.mem_of_getElem? (i := 1049) (by decide +kernel)⟩
def lw_privs_3 : List (MethodName × Nat) := [(⟨"CubeHopsModel", "note", "()V"⟩, 31), (⟨"CubeHopsModel", "steps", "([I)I"⟩, 31), (⟨"CubeHopsModel", "begin", "()V"⟩, 31), (⟨"CubeHopsModel", "allOf", "()I"⟩, 31), (⟨"CubeHopsModel", "offOnes", "()I"⟩, 31), (⟨"CubeHopsModel", "layAway", "(II)V"⟩, 31), (⟨"CubeHopsModel", "isMore", "(II)Z"⟩, 31), (⟨"CubeHopsModel", "wrongRow", "(II)I"⟩, 31), (⟨"CubeHopsModel", "isSeen", "(II)Z"⟩, 31), (⟨"CubeHopsModel", "kindsBy", "(II)I"⟩, 31), (⟨"CubeHopsModel", "laySeen", "(I)V"⟩, 31), (⟨"CubeHopsModel", "farBy", "(III)I"⟩, 31), (⟨"CubeHopsModel", "farthest", "(III)I"⟩, 31), (⟨"CubeHopsModel", "nearest", "(IIII)I"⟩, 31), (⟨"CubeHopsModel", "told", "(JJ)I"⟩, 31), (⟨"CubeHopsModel", "lot", "(I)V"⟩, 31)]
theorem lw_r3 : ∀ q ∈ lw_privs_3, lw_okq q := List.forall_mem_cons.mpr ⟨lw_p32, List.forall_mem_cons.mpr ⟨lw_p33, List.forall_mem_cons.mpr ⟨lw_p34, List.forall_mem_cons.mpr ⟨lw_p35, List.forall_mem_cons.mpr ⟨lw_p36, List.forall_mem_cons.mpr ⟨lw_p37, List.forall_mem_cons.mpr ⟨lw_p38, List.forall_mem_cons.mpr ⟨lw_p39, List.forall_mem_cons.mpr ⟨lw_p40, List.forall_mem_cons.mpr ⟨lw_p41, List.forall_mem_cons.mpr ⟨lw_p42, List.forall_mem_cons.mpr ⟨lw_p43, List.forall_mem_cons.mpr ⟨lw_p44, List.forall_mem_cons.mpr ⟨lw_p45, List.forall_mem_cons.mpr ⟨lw_p46, List.forall_mem_cons.mpr ⟨lw_p47, fun _ h => absurd h List.not_mem_nil⟩⟩⟩⟩⟩⟩⟩⟩⟩⟩⟩⟩⟩⟩⟩⟩
theorem lw_p48 : lw_okq (⟨"CubeHopsModel", "thereOnes", "()I"⟩, 31) := ⟨⟨by decide +kernel, by decide +kernel⟩, List.mem_of_getElem? (i := 656) (by decide +kernel), List.mem_of_getElem? (i := 1068) (by decide +kernel), List.mem_of_getElem? (i := 1069) (by decide +kernel)⟩
theorem lw_p49 : lw_okq (⟨"CubeHopsModel", "kindMany", "(I)I"⟩, 31) := ⟨⟨by decide +kernel, by decide +kernel⟩, List.mem_of_getElem? (i := 656) (by decide +kernel), List.mem_of_getElem? (i := 1075) (by decide +kernel), List.mem_of_getElem? (i := 1076) (by decide +kernel)⟩
def lw_privs_4 : List (MethodName × Nat) := [(⟨"CubeHopsModel", "thereOnes", "()I"⟩, 31), (⟨"CubeHopsModel", "kindMany", "(I)I"⟩, 31)]
theorem lw_r4 : ∀ q ∈ lw_privs_4, lw_okq q := List.forall_mem_cons.mpr ⟨lw_p48, List.forall_mem_cons.mpr ⟨lw_p49, fun _ h => absurd h List.not_mem_nil⟩⟩
def lw_privs : List (MethodName × Nat) := lw_privs_1 ++ (lw_privs_2 ++ (lw_privs_3 ++ (lw_privs_4)))
def lw_tbl : List Cond := k2_sels lw_privs ++ tables_1
theorem lw_privs_ok : ∀ q ∈ lw_privs, lw_okq q := by
  show ∀ q ∈ lw_privs_1 ++ (lw_privs_2 ++ (lw_privs_3 ++ (lw_privs_4))), lw_okq q
  exact List.forall_mem_append.mpr ⟨lw_r1, List.forall_mem_append.mpr ⟨lw_r2, List.forall_mem_append.mpr ⟨lw_r3, lw_r4⟩⟩⟩
end
section
def RX0 : String := "CubeHops$Cube"
def TX0 : u_T := fun k => match k with
  | 0 => ("CubeHops$Cube", "kind", "[I", true)
  | 1 => ("CubeHops$Cube", "corner", "[I", true)
  | 2 => ("CubeHops$Cube", "goal", "[I", true)
  | 3 => ("CubeHops$Cube", "lastWay", "[I", true)
  | 4 => ("CubeHops$Cube", "size", "I", false)
  | 5 => ("CubeHops$Cube", "broken", "J", false)
  | 6 => ("CubeHops$Cube", "number", "I", false)
  | 7 => ("CubeHops$Cube", "hops", "I", false)
  | 8 => ("CubeHops$Cube", "lastAway", "I", false)
  | _ => ("CubeHops$Cube", "gone", "I", false)
def tyX0 : Nat → FieldType := fun k => match k with
  | 0 => .array .int
  | 1 => .array .int
  | 2 => .array .int
  | 3 => .array .int
  | 4 => .int
  | 5 => .long
  | 6 => .int
  | 7 => .int
  | 8 => .int
  | _ => .int
abbrev wsX00 : List Cond := u_ws RX0 TX0 10
theorem nmX0 : ∀ a, a < 10 → ∀ b, b < 10 → a ≠ b → (TX0 a).2.1 ≠ (TX0 b).2.1 := by decide +kernel
theorem tyX0_ok : ∀ k, k < 10 → parseFieldDescriptor (TX0 k).2.2.1 = some (tyX0 k) := by decide +kernel
def RX1 : String := "CubeHops$Parting"
def TX1 : u_T := fun k => match k with
  | 0 => ("CubeHops$Parting", "met", "[I", true)
  | 1 => ("CubeHops$Parting", "cameBy", "[I", true)
  | _ => ("CubeHops$Parting", "used", "J", false)
def tyX1 : Nat → FieldType := fun k => match k with
  | 0 => .array .int
  | 1 => .array .int
  | _ => .long
abbrev wsX10 : List Cond := u_ws RX1 TX1 3
theorem nmX1 : ∀ a, a < 3 → ∀ b, b < 3 → a ≠ b → (TX1 a).2.1 ≠ (TX1 b).2.1 := by decide +kernel
theorem tyX1_ok : ∀ k, k < 3 → parseFieldDescriptor (TX1 k).2.2.1 = some (tyX1 k) := by decide +kernel
def RX2 : String := "CubeHops$Strip"
def TX2 : u_T := fun k => match k with
  | 0 => ("CubeHops$Strip", "places", "[I", true)
  | _ => ("CubeHops$Strip", "size", "I", false)
def tyX2 : Nat → FieldType := fun k => match k with
  | 0 => .array .int
  | _ => .int
abbrev wsX20 : List Cond := u_ws RX2 TX2 2
theorem nmX2 : ∀ a, a < 2 → ∀ b, b < 2 → a ≠ b → (TX2 a).2.1 ≠ (TX2 b).2.1 := by decide +kernel
theorem tyX2_ok : ∀ k, k < 2 → parseFieldDescriptor (TX2 k).2.2.1 = some (tyX2 k) := by decide +kernel
def RX3 : String := "CubeHops$Web"
def TX3 : u_T := fun k => match k with
  | _ => ("", "", "", false)
def tyX3 : Nat → FieldType := fun k => match k with
  | _ => .int
abbrev wsX30 : List Cond := u_ws RX3 TX3 0
theorem nmX3 : ∀ a, a < 0 → ∀ b, b < 0 → a ≠ b → (TX3 a).2.1 ≠ (TX3 b).2.1 := by decide +kernel
theorem tyX3_ok : ∀ k, k < 0 → parseFieldDescriptor (TX3 k).2.2.1 = some (tyX3 k) := by decide +kernel
def RX4 : String := "CubeHops"
def TX4 : u_T := fun k => match k with
  | 0 => ("CubeHops", "rows", "[LCubeHops$Strip;", true)
  | 1 => ("CubeHops", "texts", "[LCubeHops$Strip;", true)
  | 2 => ("CubeHops", "deeds", "LCubeHops$Strip;", true)
  | 3 => ("CubeHops", "kept", "[LCubeHops$Strip;", true)
  | 4 => ("CubeHops", "start", "LCubeHops$Cube;", true)
  | 5 => ("CubeHops", "now", "LCubeHops$Cube;", true)
  | 6 => ("CubeHops", "aside", "LCubeHops$Cube;", true)
  | 7 => ("CubeHops", "parting", "LCubeHops$Parting;", true)
  | 8 => ("CubeHops", "uses", "[I", true)
  | 9 => ("CubeHops", "looks", "[[I", true)
  | 10 => ("CubeHops", "findingCounts", "[I", true)
  | 11 => ("CubeHops", "latestFinding", "I", false)
  | 12 => ("CubeHops", "told", "I", false)
  | 13 => ("CubeHops", "upperTold", "J", false)
  | _ => ("CubeHops", "lowerTold", "J", false)
def tyX4 : Nat → FieldType := fun k => match k with
  | 0 => .array (.object "CubeHops$Strip")
  | 1 => .array (.object "CubeHops$Strip")
  | 2 => .object "CubeHops$Strip"
  | 3 => .array (.object "CubeHops$Strip")
  | 4 => .object "CubeHops$Cube"
  | 5 => .object "CubeHops$Cube"
  | 6 => .object "CubeHops$Cube"
  | 7 => .object "CubeHops$Parting"
  | 8 => .array .int
  | 9 => .array (.array .int)
  | 10 => .array .int
  | 11 => .int
  | 12 => .int
  | 13 => .long
  | _ => .long
abbrev wsX40 : List Cond := u_ws RX4 TX4 15
theorem nmX4 : ∀ a, a < 15 → ∀ b, b < 15 → a ≠ b → (TX4 a).2.1 ≠ (TX4 b).2.1 := by decide +kernel
theorem tyX4_ok : ∀ k, k < 15 → parseFieldDescriptor (TX4 k).2.2.1 = some (tyX4 k) := by decide +kernel
def RX5 : String := "CubeHopsModel"
def TX5 : u_T := fun k => match k with
  | 0 => ("CubeHopsModel", "rowSize", "[I", true)
  | 1 => ("CubeHopsModel", "rowItem", "[I", true)
  | 2 => ("CubeHopsModel", "textSize", "[I", true)
  | 3 => ("CubeHopsModel", "textItem", "[I", true)
  | 4 => ("CubeHopsModel", "findingNow", "I", false)
  | 5 => ("CubeHopsModel", "findingMany", "[I", true)
  | 6 => ("CubeHopsModel", "askedNow", "I", false)
  | 7 => ("CubeHopsModel", "upperNow", "J", false)
  | 8 => ("CubeHopsModel", "lowerNow", "J", false)
  | 9 => ("CubeHopsModel", "position", "I", false)
  | 10 => ("CubeHopsModel", "from", "I", false)
  | 11 => ("CubeHopsModel", "all", "I", false)
  | 12 => ("CubeHopsModel", "readMany", "I", false)
  | 13 => ("CubeHopsModel", "readMessage", "[I", true)
  | 14 => ("CubeHopsModel", "many", "I", false)
  | 15 => ("CubeHopsModel", "sort", "[I", true)
  | 16 => ("CubeHopsModel", "now", "[I", true)
  | 17 => ("CubeHopsModel", "deed", "[I", true)
  | 18 => ("CubeHopsModel", "deeds", "I", false)
  | 19 => ("CubeHopsModel", "keptNow", "[I", true)
  | 20 => ("CubeHopsModel", "keptDeed", "[I", true)
  | 21 => ("CubeHopsModel", "keptMany", "[I", true)
  | 22 => ("CubeHopsModel", "tried", "[I", true)
  | 23 => ("CubeHopsModel", "wish", "[I", true)
  | 24 => ("CubeHopsModel", "used", "[I", true)
  | 25 => ("CubeHopsModel", "away", "[I", true)
  | 26 => ("CubeHopsModel", "queue", "[I", true)
  | 27 => ("CubeHopsModel", "flow", "[I", true)
  | 28 => ("CubeHopsModel", "came", "[I", true)
  | 29 => ("CubeHopsModel", "seenAt", "[I", true)
  | _ => ("CubeHopsModel", "whoOff", "I", false)
def tyX5 : Nat → FieldType := fun k => match k with
  | 0 => .array .int
  | 1 => .array .int
  | 2 => .array .int
  | 3 => .array .int
  | 4 => .int
  | 5 => .array .int
  | 6 => .int
  | 7 => .long
  | 8 => .long
  | 9 => .int
  | 10 => .int
  | 11 => .int
  | 12 => .int
  | 13 => .array .int
  | 14 => .int
  | 15 => .array .int
  | 16 => .array .int
  | 17 => .array .int
  | 18 => .int
  | 19 => .array .int
  | 20 => .array .int
  | 21 => .array .int
  | 22 => .array .int
  | 23 => .array .int
  | 24 => .array .int
  | 25 => .array .int
  | 26 => .array .int
  | 27 => .array .int
  | 28 => .array .int
  | 29 => .array .int
  | _ => .int
abbrev wsX50 : List Cond := u_ws RX5 TX5 31
theorem nmX5 : ∀ a, a < 31 → ∀ b, b < 31 → a ≠ b → (TX5 a).2.1 ≠ (TX5 b).2.1 := by decide +kernel
theorem tyX5_ok : ∀ k, k < 31 → parseFieldDescriptor (TX5 k).2.2.1 = some (tyX5 k) := by decide +kernel
def RL : String := "CubeHopsLaw"
abbrev vwCl : List vw_C := [(RX0, TX0, 10), (RX1, TX1, 3), (RX2, TX2, 2), (RX4, TX4, 15), (RX5, TX5, 31)]
abbrev zM : Type := MethodName × ByteArray × Nat × Option FieldType × Nat × Nat × Nat
def zProg_0 : List zM := [(⟨"CubeHops", "<init>", "()V"⟩, prog_1_method_1_code, 2, none, 3, 65, 0),
  (⟨"CubeHops$Strip", "<init>", "(I)V"⟩, prog_4_method_1_code, 2, none, 2, 74, 1),
  (⟨"CubeHops$Cube", "<init>", "()V"⟩, prog_2_method_1_code, 1, none, 0, 92, 0),
  (⟨"CubeHops$Parting", "<init>", "()V"⟩, prog_3_method_1_code, 1, none, 1, 138, 0),
  (⟨"CubeHops$Strip", "renew", "(II)V"⟩, prog_4_method_4_code, 4, none, 2, 155, 2),
  (⟨"CubeHops", "row", "(II)I"⟩, prog_1_method_2_code, 3, (some .int), 3, 208, 2),
  (⟨"CubeHops", "isRow", "(I)Z"⟩, prog_1_method_49_code, 1, (some .boolean), 3, 211, 1),
  (⟨"CubeHops", "found", "(I)I"⟩, prog_1_method_44_code, 2, (some .int), 3, 215, 1),
  (⟨"CubeHops", "lay", "(III)I"⟩, prog_1_method_3_code, 5, (some .int), 3, 219, 3),
  (⟨"CubeHops", "refusePlace", "(LCubeHops$Strip;I)I"⟩, prog_1_method_45_code, 3, (some .int), 3, 223, 2),
  (⟨"CubeHops$Strip", "isMissing", "()Z"⟩, prog_4_method_2_code, 1, (some .boolean), 2, 227, 0),
  (⟨"CubeHops$Strip", "has", "(I)Z"⟩, prog_4_method_5_code, 2, (some .boolean), 2, 231, 1),
  (⟨"CubeHops$Strip", "set", "(II)I"⟩, prog_4_method_8_code, 4, (some .int), 2, 235, 2),
  (⟨"CubeHops$Strip", "get", "(I)I"⟩, prog_4_method_7_code, 2, (some .int), 2, 239, 1),
  (⟨"CubeHops", "tell", "(II)I"⟩, prog_1_method_46_code, 3, (some .int), 3, 244, 2),
  (⟨"CubeHops", "at", "(II)I"⟩, prog_1_method_4_code, 4, (some .int), 3, 248, 2),
  (⟨"CubeHops", "tear", "(I)I"⟩, prog_1_method_5_code, 2, (some .int), 3, 253, 1),
  (⟨"CubeHops$Strip", "drop", "()V"⟩, prog_4_method_3_code, 1, none, 2, 257, 0),
  (⟨"CubeHops", "copy", "(IIIII)I"⟩, prog_1_method_6_code, 6, (some .int), 3, 261, 5),
  (⟨"CubeHops$Strip", "hasMany", "(II)Z"⟩, prog_4_method_6_code, 3, (some .boolean), 2, 265, 2),
  (⟨"CubeHops$Strip", "takePart", "(LCubeHops$Strip;III)V"⟩, prog_4_method_12_code, 5, none, 2, 269, 4),
  (⟨"CubeHops", "mean", "(I)I"⟩, prog_1_method_7_code, 6, (some .int), 3, 277, 1),
  (⟨"CubeHops", "text", "(II)I"⟩, prog_1_method_8_code, 3, (some .int), 3, 281, 2),
  (⟨"CubeHops", "isText", "(I)Z"⟩, prog_1_method_50_code, 1, (some .boolean), 3, 284, 1)]
def zProg_1 : List zM := [(⟨"CubeHops", "put", "(III)I"⟩, prog_1_method_9_code, 5, (some .int), 3, 288, 3),
  (⟨"CubeHops", "fault", "(I)I"⟩, prog_1_method_10_code, 2, (some .int), 3, 292, 1),
  (⟨"CubeHops", "readCube", "(LCubeHops$Strip;LCubeHops$Cube;)I"⟩, prog_1_method_54_code, 5, (some .int), 3, 295, 2),
  (⟨"CubeHops$Cube", "clear", "()V"⟩, prog_2_method_2_code, 1, none, 0, 299, 0),
  (⟨"CubeHops", "kindOfLetter", "(I)I"⟩, prog_1_method_55_code, 2, (some .int), 3, 302, 1),
  (⟨"CubeHops", "isCorner", "(I)Z"⟩, prog_1_method_51_code, 1, (some .boolean), 3, 307, 1),
  (⟨"CubeHops$Cube", "add", "(III)V"⟩, prog_2_method_3_code, 4, none, 0, 311, 3),
  (⟨"CubeHops", "cube", "(I)I"⟩, prog_1_method_11_code, 3, (some .int), 3, 315, 1),
  (⟨"CubeHops$Cube", "take", "(LCubeHops$Cube;)V"⟩, prog_2_method_4_code, 3, none, 0, 319, 1),
  (⟨"CubeHops", "replay", "()V"⟩, prog_1_method_60_code, 2, none, 3, 323, 0),
  (⟨"CubeHops$Cube", "obey", "(I)V"⟩, prog_2_method_23_code, 3, none, 0, 327, 1),
  (⟨"CubeHops$Cube", "turnOverLink", "(I)V"⟩, prog_2_method_8_code, 2, none, 0, 331, 1),
  (⟨"CubeHops$Web", "arcsOf", "(I)J"⟩, prog_5_method_6_code, 3, (some .long), 5, 334, 1),
  (⟨"CubeHops$Web", "wayOf", "(I)I"⟩, prog_5_method_2_code, 1, (some .int), 5, 337, 1),
  (⟨"CubeHops$Web", "lowerEnd", "(I)I"⟩, prog_5_method_3_code, 3, (some .int), 5, 340, 1),
  (⟨"CubeHops$Web", "arc", "(II)J"⟩, prog_5_method_5_code, 2, (some .long), 5, 343, 2),
  (⟨"CubeHops$Cube", "setGoal", "(II)V"⟩, prog_2_method_9_code, 3, none, 0, 347, 2),
  (⟨"CubeHops$Cube", "hasMessage", "(I)Z"⟩, prog_2_method_5_code, 2, (some .boolean), 0, 351, 1),
  (⟨"CubeHops$Cube", "advance", "()V"⟩, prog_2_method_21_code, 5, none, 0, 355, 0),
  (⟨"CubeHops$Cube", "wishAs", "(III)I"⟩, prog_2_method_16_code, 6, (some .int), 0, 359, 3),
  (⟨"CubeHops$Cube", "highestWay", "(I)I"⟩, prog_2_method_20_code, 2, (some .int), 0, 362, 1),
  (⟨"CubeHops$Cube", "lowestBit", "(I)I"⟩, prog_2_method_19_code, 2, (some .int), 0, 365, 1),
  (⟨"CubeHops$Cube", "dodgingWay", "(I)I"⟩, prog_2_method_17_code, 4, (some .int), 0, 369, 1),
  (⟨"CubeHops$Cube", "wholeWays", "(I)I"⟩, prog_2_method_18_code, 4, (some .int), 0, 373, 1)]
def zProg_2 : List zM := [(⟨"java/lang/Integer", "bitCount", "(I)I"⟩, prog_8_method_49_code, 1, (some .int), 7, 377, 1),
  (⟨"CubeHops", "message", "(II)I"⟩, prog_1_method_12_code, 3, (some .int), 3, 384, 2),
  (⟨"CubeHops$Cube", "fact", "(II)I"⟩, prog_2_method_13_code, 3, (some .int), 0, 389, 2),
  (⟨"CubeHops$Cube", "wish", "(I)I"⟩, prog_2_method_15_code, 2, (some .int), 0, 393, 1),
  (⟨"CubeHops$Cube", "toldWay", "(I)I"⟩, prog_2_method_14_code, 1, (some .int), 0, 396, 1),
  (⟨"CubeHops", "mark", "(II)I"⟩, prog_1_method_13_code, 3, (some .int), 3, 400, 2),
  (⟨"CubeHops", "isOf", "(II)Z"⟩, prog_1_method_53_code, 2, (some .boolean), 3, 403, 2),
  (⟨"CubeHops", "lazyWishes", "(I)I"⟩, prog_1_method_65_code, 4, (some .int), 3, 409, 1),
  (⟨"CubeHops", "link", "(I)I"⟩, prog_1_method_14_code, 4, (some .int), 3, 415, 1),
  (⟨"CubeHops", "isLink", "(I)Z"⟩, prog_1_method_52_code, 1, (some .boolean), 3, 418, 1),
  (⟨"CubeHops$Cube", "isBroken", "(I)Z"⟩, prog_2_method_6_code, 2, (some .boolean), 0, 424, 1),
  (⟨"CubeHops", "step", "()I"⟩, prog_1_method_15_code, 2, (some .int), 3, 428, 0),
  (⟨"CubeHops", "perform", "(I)V"⟩, prog_1_method_59_code, 2, none, 3, 432, 1),
  (⟨"CubeHops$Strip", "append", "(I)V"⟩, prog_4_method_9_code, 2, none, 2, 436, 1),
  (⟨"CubeHops", "snap", "(I)I"⟩, prog_1_method_16_code, 2, (some .int), 3, 440, 1),
  (⟨"CubeHops", "turnOver", "(I)I"⟩, prog_1_method_61_code, 2, (some .int), 3, 444, 1),
  (⟨"CubeHops", "linkDeed", "(I)I"⟩, prog_1_method_56_code, 1, (some .int), 3, 447, 1),
  (⟨"CubeHops$Cube", "howManyBroken", "()I"⟩, prog_2_method_7_code, 1, (some .int), 0, 451, 0),
  (⟨"java/lang/Long", "bitCount", "(J)I"⟩, prog_9_method_50_code, 2, (some .int), 8, 454, 1),
  (⟨"CubeHops", "mend", "(I)I"⟩, prog_1_method_17_code, 2, (some .int), 3, 461, 1),
  (⟨"CubeHops", "aim", "(II)I"⟩, prog_1_method_18_code, 4, (some .int), 3, 465, 2),
  (⟨"CubeHops", "aimDeed", "(II)I"⟩, prog_1_method_57_code, 2, (some .int), 3, 468, 2),
  (⟨"CubeHops", "undo", "(I)I"⟩, prog_1_method_19_code, 3, (some .int), 3, 472, 1),
  (⟨"CubeHops$Strip", "shorten", "(I)V"⟩, prog_4_method_10_code, 2, none, 2, 476, 1)]
def zProg_3 : List zM := [(⟨"CubeHops", "keep", "(I)I"⟩, prog_1_method_20_code, 2, (some .int), 3, 480, 1),
  (⟨"CubeHops$Strip", "take", "(LCubeHops$Strip;)V"⟩, prog_4_method_11_code, 3, none, 2, 484, 1),
  (⟨"CubeHops", "on", "(I)I"⟩, prog_1_method_21_code, 2, (some .int), 3, 488, 1),
  (⟨"CubeHops", "later", "(II)I"⟩, prog_1_method_22_code, 4, (some .int), 3, 492, 2),
  (⟨"CubeHops", "arrives", "(I)I"⟩, prog_1_method_23_code, 4, (some .int), 3, 497, 1),
  (⟨"CubeHops$Cube", "isThere", "(I)Z"⟩, prog_2_method_10_code, 2, (some .boolean), 0, 501, 1),
  (⟨"CubeHops$Cube", "wentJustNow", "(I)Z"⟩, prog_2_method_11_code, 2, (some .boolean), 0, 505, 1),
  (⟨"CubeHops", "all", "()I"⟩, prog_1_method_24_code, 2, (some .int), 3, 509, 0),
  (⟨"CubeHops$Cube", "stepsTillAllThere", "()I"⟩, prog_2_method_22_code, 4, (some .int), 0, 513, 0),
  (⟨"CubeHops$Cube", "thereBits", "()I"⟩, prog_2_method_12_code, 3, (some .int), 0, 517, 0),
  (⟨"CubeHops", "tight", "(I)I"⟩, prog_1_method_25_code, 4, (some .int), 3, 522, 1),
  (⟨"CubeHops", "countUses", "(I)V"⟩, prog_1_method_66_code, 4, none, 3, 526, 1),
  (⟨"CubeHops$Web", "linkAt", "(II)I"⟩, prog_5_method_4_code, 3, (some .int), 5, 529, 2),
  (⟨"CubeHops", "far", "(II)I"⟩, prog_1_method_26_code, 4, (some .int), 3, 533, 2),
  (⟨"CubeHops$Web", "distance", "(JII)I"⟩, prog_5_method_8_code, 6, (some .int), 5, 537, 3),
  (⟨"CubeHops$Web", "spread", "(JI)I"⟩, prog_5_method_7_code, 7, (some .int), 5, 540, 2),
  (⟨"CubeHops", "reach", "(I)I"⟩, prog_1_method_27_code, 6, (some .int), 3, 546, 1),
  (⟨"CubeHops", "parts", "(II)I"⟩, prog_1_method_28_code, 3, (some .int), 3, 551, 2),
  (⟨"CubeHops$Parting", "fewest", "(JII)I"⟩, prog_3_method_2_code, 6, (some .int), 1, 555, 3),
  (⟨"CubeHops$Parting", "findsWay", "(JII)Z"⟩, prog_3_method_3_code, 11, (some .boolean), 1, 559, 3),
  (⟨"CubeHops$Parting", "useWay", "(II)V"⟩, prog_3_method_4_code, 7, none, 1, 564, 2),
  (⟨"CubeHops$Parting", "use", "(III)V"⟩, prog_3_method_5_code, 4, none, 1, 568, 3),
  (⟨"CubeHops", "hurts", "()I"⟩, prog_1_method_29_code, 5, (some .int), 3, 573, 0),
  (⟨"CubeHops", "goals", "(II)I"⟩, prog_1_method_30_code, 6, (some .int), 3, 579, 2)]
def zProg_4 : List zM := [(⟨"CubeHops", "refuseSights", "(II)I"⟩, prog_1_method_68_code, 5, (some .int), 3, 583, 2),
  (⟨"CubeHops", "asideFits", "(ILCubeHops$Strip;)Z"⟩, prog_1_method_69_code, 4, (some .boolean), 3, 588, 2),
  (⟨"CubeHops", "kinds", "(II)I"⟩, prog_1_method_31_code, 4, (some .int), 3, 592, 2),
  (⟨"CubeHops", "fittingKinds", "(ILCubeHops$Strip;)I"⟩, prog_1_method_70_code, 5, (some .int), 3, 596, 2),
  (⟨"CubeHops", "test", "(II)I"⟩, prog_1_method_32_code, 9, (some .int), 3, 600, 2),
  (⟨"CubeHops", "lookAhead", "(II)V"⟩, prog_1_method_71_code, 5, none, 3, 604, 2),
  (⟨"CubeHops", "greatestPart", "(II)I"⟩, prog_1_method_72_code, 7, (some .int), 3, 608, 2),
  (⟨"CubeHops", "duel", "(III)I"⟩, prog_1_method_33_code, 4, (some .int), 3, 613, 3),
  (⟨"CubeHops$Web", "snapTurn", "(JIIIII)I"⟩, prog_5_method_9_code, 12, (some .int), 5, 616, 6),
  (⟨"CubeHops$Web", "mendTurn", "(JIIIII)I"⟩, prog_5_method_10_code, 12, (some .int), 5, 620, 6),
  (⟨"CubeHops", "odds", "(III)I"⟩, prog_1_method_34_code, 10, (some .int), 3, 629, 3),
  (⟨"CubeHops", "wholeOnLowWay", "(II)I"⟩, prog_1_method_67_code, 6, (some .int), 3, 633, 2),
  (⟨"CubeHops", "tellFraction", "(JJ)I"⟩, prog_1_method_47_code, 7, (some .int), 3, 638, 2),
  (⟨"CubeHops", "greatestDivisor", "(JJ)J"⟩, prog_1_method_48_code, 11, (some .long), 3, 641, 2),
  (⟨"CubeHops", "mid", "(III)I"⟩, prog_1_method_35_code, 4, (some .int), 3, 646, 3),
  (⟨"CubeHops", "lots", "(II)I"⟩, prog_1_method_36_code, 6, (some .int), 3, 650, 2),
  (⟨"CubeHops", "lotDeed", "(I)I"⟩, prog_1_method_58_code, 3, (some .int), 3, 657, 1),
  (⟨"CubeHops", "asked", "()I"⟩, prog_1_method_37_code, 1, (some .int), 3, 661, 0),
  (⟨"CubeHops", "upper", "()J"⟩, prog_1_method_38_code, 1, (some .long), 3, 665, 0),
  (⟨"CubeHops", "lower", "()J"⟩, prog_1_method_39_code, 1, (some .long), 3, 669, 0),
  (⟨"CubeHops", "count", "(I)I"⟩, prog_1_method_40_code, 2, (some .int), 3, 673, 1),
  (⟨"CubeHops", "tally", "(I)I"⟩, prog_1_method_62_code, 2, (some .int), 3, 677, 1),
  (⟨"CubeHops", "present", "([LCubeHops$Strip;)I"⟩, prog_1_method_63_code, 3, (some .int), 3, 681, 1),
  (⟨"CubeHops", "howManyAre", "(I)I"⟩, prog_1_method_64_code, 4, (some .int), 3, 685, 1)]
def zProg_5 : List zM := [(⟨"CubeHops", "finding", "()I"⟩, prog_1_method_41_code, 1, (some .int), 3, 689, 0),
  (⟨"CubeHops", "findings", "(I)I"⟩, prog_1_method_42_code, 2, (some .int), 3, 693, 1),
  (⟨"CubeHops", "digest", "()J"⟩, prog_1_method_43_code, 5, (some .long), 3, 697, 0),
  (⟨"CubeHops$Strip", "digested", "(J)J"⟩, prog_4_method_13_code, 6, (some .long), 2, 703, 1),
  (⟨"CubeHopsModel", "<init>", "()V"⟩, prog_7_method_1_code, 2, none, 4, 709, 0),
  (⟨"CubeHopsModel", "row", "(II)I"⟩, prog_7_method_9_code, 4, (some .int), 4, 808, 2),
  (⟨"CubeHopsModel", "in", "(III)Z"⟩, prog_7_method_2_code, 3, (some .boolean), 4, 811, 3),
  (⟨"CubeHopsModel", "finds", "(I)I"⟩, prog_7_method_5_code, 2, (some .int), 4, 815, 1),
  (⟨"CubeHopsModel", "lay", "(III)I"⟩, prog_7_method_11_code, 6, (some .int), 4, 819, 3),
  (⟨"CubeHopsModel", "wrongAt", "(II)I"⟩, prog_7_method_10_code, 3, (some .int), 4, 823, 2),
  (⟨"CubeHopsModel", "tells", "(I)I"⟩, prog_7_method_6_code, 2, (some .int), 4, 827, 1),
  (⟨"CubeHopsModel", "at", "(II)I"⟩, prog_7_method_12_code, 4, (some .int), 4, 831, 2),
  (⟨"CubeHopsModel", "tear", "(I)I"⟩, prog_7_method_13_code, 2, (some .int), 4, 835, 1),
  (⟨"CubeHopsModel", "copy", "(IIIII)I"⟩, prog_7_method_15_code, 9, (some .int), 4, 839, 5),
  (⟨"CubeHopsModel", "isPart", "(III)Z"⟩, prog_7_method_14_code, 3, (some .boolean), 4, 842, 3),
  (⟨"CubeHopsModel", "mean", "(I)I"⟩, prog_7_method_16_code, 5, (some .int), 4, 846, 1),
  (⟨"CubeHopsModel", "text", "(II)I"⟩, prog_7_method_17_code, 4, (some .int), 4, 850, 2),
  (⟨"CubeHopsModel", "put", "(III)I"⟩, prog_7_method_18_code, 5, (some .int), 4, 854, 3),
  (⟨"CubeHopsModel", "fault", "(I)I"⟩, prog_7_method_25_code, 2, (some .int), 4, 858, 1),
  (⟨"CubeHopsModel", "read", "(I)I"⟩, prog_7_method_24_code, 2, (some .int), 4, 862, 1),
  (⟨"CubeHopsModel", "skip", "()V"⟩, prog_7_method_20_code, 1, none, 4, 866, 0),
  (⟨"CubeHopsModel", "letterAt", "(I)I"⟩, prog_7_method_19_code, 2, (some .int), 4, 870, 1),
  (⟨"CubeHopsModel", "isMessageItem", "()Z"⟩, prog_7_method_23_code, 4, (some .boolean), 4, 874, 0),
  (⟨"CubeHopsModel", "sortBy", "(I)I"⟩, prog_7_method_21_code, 1, (some .int), 4, 877, 1)]
def zProg_6 : List zM := [(⟨"CubeHopsModel", "cornerThere", "()I"⟩, prog_7_method_22_code, 2, (some .int), 4, 881, 0),
  (⟨"CubeHopsModel", "cube", "(I)I"⟩, prog_7_method_26_code, 3, (some .int), 4, 885, 1),
  (⟨"CubeHopsModel", "message", "(II)I"⟩, prog_7_method_35_code, 3, (some .int), 4, 889, 2),
  (⟨"CubeHopsModel", "isOne", "(I)Z"⟩, prog_7_method_8_code, 2, (some .boolean), 4, 893, 1),
  (⟨"CubeHopsModel", "messageTells", "(II)I"⟩, prog_7_method_34_code, 3, (some .int), 4, 897, 2),
  (⟨"CubeHopsModel", "wishOf", "([III)I"⟩, prog_7_method_33_code, 4, (some .int), 4, 900, 3),
  (⟨"CubeHopsModel", "highest", "(I)I"⟩, prog_7_method_30_code, 2, (some .int), 4, 903, 1),
  (⟨"CubeHopsModel", "has", "(II)Z"⟩, prog_7_method_3_code, 2, (some .boolean), 4, 906, 2),
  (⟨"CubeHopsModel", "lowest", "(I)I"⟩, prog_7_method_29_code, 2, (some .int), 4, 909, 1),
  (⟨"CubeHopsModel", "dodges", "(III)I"⟩, prog_7_method_32_code, 5, (some .int), 4, 912, 3),
  (⟨"CubeHopsModel", "wholeOnes", "(II)I"⟩, prog_7_method_31_code, 4, (some .int), 4, 915, 2),
  (⟨"CubeHopsModel", "linkAt", "(II)I"⟩, prog_7_method_28_code, 2, (some .int), 4, 918, 2),
  (⟨"CubeHopsModel", "bits", "(I)I"⟩, prog_7_method_4_code, 3, (some .int), 4, 921, 1),
  (⟨"CubeHopsModel", "mark", "(II)I"⟩, prog_7_method_37_code, 4, (some .int), 4, 925, 2),
  (⟨"CubeHopsModel", "is", "(II)Z"⟩, prog_7_method_27_code, 2, (some .boolean), 4, 928, 2),
  (⟨"CubeHopsModel", "asNumber", "(I)I"⟩, prog_7_method_36_code, 1, (some .int), 4, 931, 1),
  (⟨"CubeHopsModel", "link", "(I)I"⟩, prog_7_method_39_code, 3, (some .int), 4, 935, 1),
  (⟨"CubeHopsModel", "lowerOf", "(I)I"⟩, prog_7_method_38_code, 3, (some .int), 4, 938, 1),
  (⟨"CubeHopsModel", "step", "()I"⟩, prog_7_method_42_code, 1, (some .int), 4, 942, 0),
  (⟨"CubeHopsModel", "note", "()V"⟩, prog_7_method_40_code, 1, none, 4, 946, 0),
  (⟨"CubeHopsModel", "bring", "([II[III)V"⟩, prog_7_method_7_code, 6, none, 4, 949, 5),
  (⟨"CubeHopsModel", "steps", "([I)I"⟩, prog_7_method_41_code, 10, (some .int), 4, 953, 1),
  (⟨"CubeHopsModel", "snap", "(I)I"⟩, prog_7_method_43_code, 2, (some .int), 4, 957, 1),
  (⟨"CubeHopsModel", "mend", "(I)I"⟩, prog_7_method_44_code, 2, (some .int), 4, 961, 1)]
def zProg_7 : List zM := [(⟨"CubeHopsModel", "aim", "(II)I"⟩, prog_7_method_45_code, 4, (some .int), 4, 965, 2),
  (⟨"CubeHopsModel", "undo", "(I)I"⟩, prog_7_method_46_code, 3, (some .int), 4, 969, 1),
  (⟨"CubeHopsModel", "keep", "(I)I"⟩, prog_7_method_47_code, 2, (some .int), 4, 973, 1),
  (⟨"CubeHopsModel", "on", "(I)I"⟩, prog_7_method_48_code, 2, (some .int), 4, 977, 1),
  (⟨"CubeHopsModel", "later", "(II)I"⟩, prog_7_method_50_code, 5, (some .int), 4, 981, 2),
  (⟨"CubeHopsModel", "begin", "()V"⟩, prog_7_method_49_code, 2, none, 4, 985, 0),
  (⟨"CubeHopsModel", "arrives", "(I)I"⟩, prog_7_method_52_code, 5, (some .int), 4, 989, 1),
  (⟨"CubeHopsModel", "isThere", "([II)Z"⟩, prog_7_method_51_code, 2, (some .boolean), 4, 992, 2),
  (⟨"CubeHopsModel", "all", "()I"⟩, prog_7_method_55_code, 2, (some .int), 4, 996, 0),
  (⟨"CubeHopsModel", "allOf", "()I"⟩, prog_7_method_54_code, 3, (some .int), 4, 1000, 0),
  (⟨"CubeHopsModel", "offOnes", "()I"⟩, prog_7_method_53_code, 2, (some .int), 4, 1004, 0),
  (⟨"CubeHopsModel", "tight", "(I)I"⟩, prog_7_method_56_code, 4, (some .int), 4, 1008, 1),
  (⟨"CubeHopsModel", "far", "(II)I"⟩, prog_7_method_58_code, 3, (some .int), 4, 1012, 2),
  (⟨"CubeHopsModel", "layAway", "(II)V"⟩, prog_7_method_57_code, 8, none, 4, 1016, 2),
  (⟨"CubeHopsModel", "reach", "(I)I"⟩, prog_7_method_59_code, 5, (some .int), 4, 1020, 1),
  (⟨"CubeHopsModel", "parts", "(II)I"⟩, prog_7_method_61_code, 4, (some .int), 4, 1024, 2),
  (⟨"CubeHopsModel", "isMore", "(II)Z"⟩, prog_7_method_60_code, 10, (some .boolean), 4, 1028, 2),
  (⟨"CubeHopsModel", "hurts", "()I"⟩, prog_7_method_62_code, 7, (some .int), 4, 1032, 0),
  (⟨"CubeHopsModel", "goals", "(II)I"⟩, prog_7_method_65_code, 6, (some .int), 4, 1036, 2),
  (⟨"CubeHopsModel", "wrongRow", "(II)I"⟩, prog_7_method_63_code, 4, (some .int), 4, 1040, 2),
  (⟨"CubeHopsModel", "isSeen", "(II)Z"⟩, prog_7_method_64_code, 5, (some .boolean), 4, 1044, 2),
  (⟨"CubeHopsModel", "kinds", "(II)I"⟩, prog_7_method_67_code, 4, (some .int), 4, 1048, 2),
  (⟨"CubeHopsModel", "kindsBy", "(II)I"⟩, prog_7_method_66_code, 6, (some .int), 4, 1052, 2),
  (⟨"CubeHopsModel", "test", "(II)I"⟩, prog_7_method_69_code, 12, (some .int), 4, 1056, 2)]
def zProg_8 : List zM := [(⟨"CubeHopsModel", "laySeen", "(I)V"⟩, prog_7_method_68_code, 5, none, 4, 1060, 1),
  (⟨"CubeHopsModel", "duel", "(III)I"⟩, prog_7_method_73_code, 8, (some .int), 4, 1064, 3),
  (⟨"CubeHopsModel", "farBy", "(III)I"⟩, prog_7_method_70_code, 4, (some .int), 4, 1068, 3),
  (⟨"CubeHopsModel", "farthest", "(III)I"⟩, prog_7_method_71_code, 7, (some .int), 4, 1072, 3),
  (⟨"CubeHopsModel", "nearest", "(IIII)I"⟩, prog_7_method_72_code, 9, (some .int), 4, 1076, 4),
  (⟨"CubeHopsModel", "odds", "(III)I"⟩, prog_7_method_75_code, 10, (some .int), 4, 1080, 3),
  (⟨"CubeHopsModel", "told", "(JJ)I"⟩, prog_7_method_74_code, 11, (some .int), 4, 1085, 2),
  (⟨"CubeHopsModel", "mid", "(III)I"⟩, prog_7_method_76_code, 7, (some .int), 4, 1089, 3),
  (⟨"CubeHopsModel", "lots", "(II)I"⟩, prog_7_method_78_code, 6, (some .int), 4, 1093, 2),
  (⟨"CubeHopsModel", "lot", "(I)V"⟩, prog_7_method_77_code, 2, none, 4, 1100, 1),
  (⟨"CubeHopsModel", "asked", "()I"⟩, prog_7_method_79_code, 1, (some .int), 4, 1104, 0),
  (⟨"CubeHopsModel", "upper", "()J"⟩, prog_7_method_80_code, 1, (some .long), 4, 1108, 0),
  (⟨"CubeHopsModel", "lower", "()J"⟩, prog_7_method_81_code, 1, (some .long), 4, 1112, 0),
  (⟨"CubeHopsModel", "count", "(I)I"⟩, prog_7_method_85_code, 2, (some .int), 4, 1116, 1),
  (⟨"CubeHopsModel", "thereOnes", "()I"⟩, prog_7_method_84_code, 3, (some .int), 4, 1120, 0),
  (⟨"CubeHopsModel", "thereOf", "([I)I"⟩, prog_7_method_82_code, 6, (some .int), 4, 1123, 1),
  (⟨"CubeHopsModel", "kindMany", "(I)I"⟩, prog_7_method_83_code, 4, (some .int), 4, 1127, 1),
  (⟨"CubeHopsModel", "finding", "()I"⟩, prog_7_method_86_code, 1, (some .int), 4, 1131, 0),
  (⟨"CubeHopsModel", "findings", "(I)I"⟩, prog_7_method_87_code, 2, (some .int), 4, 1135, 1),
  (⟨"CubeHopsModel", "digest", "()J"⟩, prog_7_method_88_code, 5, (some .long), 4, 1139, 0),
  (⟨"CubeHopsLaw", "law", "([I)Z"⟩, code, 4, (some .boolean), 6, 0, 1)]
def zProg : List zM := (zProg_0 ++ (zProg_1 ++ (zProg_2 ++ (zProg_3 ++ (zProg_4 ++ (zProg_5 ++ (zProg_6 ++ (zProg_7 ++ zProg_8))))))))
def zCN : List String := ["CubeHops$Cube", "CubeHops$Parting", "CubeHops$Strip", "CubeHops", "CubeHopsModel", "CubeHops$Web", "CubeHopsLaw", "java/lang/Integer", "java/lang/Long", "java/lang/Math"]
-- (key, kind, method, positions): kind 0 virtual, 1 static, 2 constructor, 3 Object.<init>, 4 arraycopy, 5 static of a nest mate, 6 constructor of a nest mate
def zML : List (Nat × Nat × Nat × Nat × Nat × Nat × Nat) := [(6009, 2, 0, 63, 64, 0, 51), (3001, 3, 0, 66, 0, 0, 0), (3018, 2, 1, 72, 73, 0, 52), (2001, 3, 0, 75, 0, 0, 0), (2013, 7, 0, 76, 0, 0, 0), (3, 3, 0, 93, 0, 0, 0), (1003, 3, 0, 139, 0, 0, 0), (3064, 0, 4, 152, 153, 154, 52), (2023, 8, 0, 156, 0, 0, 0), (6013, 0, 5, 205, 206, 207, 51), (3068, 1, 6, 209, 210, 0, 51), (3072, 0, 7, 212, 214, 0, 51), (6018, 0, 8, 216, 217, 218, 51), (3076, 0, 9, 220, 222, 1, 51), (3090, 0, 10, 224, 225, 226, 52), (3305, 0, 11, 228, 229, 230, 52), (3080, 0, 12, 232, 233, 234, 52), (2030, 0, 13, 236, 237, 238, 52), (2026, 0, 11, 240, 229, 230, 52), (3084, 0, 14, 241, 243, 2, 51), (6023, 0, 15, 245, 246, 247, 51), (3087, 0, 13, 249, 237, 238, 52), (6027, 0, 16, 250, 251, 252, 51), (3094, 0, 17, 254, 255, 256, 52), (6032, 0, 18, 258, 259, 260, 51), (3097, 0, 19, 262, 263, 264, 52), (3101, 0, 20, 266, 267, 268, 52), (2034, 0, 19, 270, 263, 264, 52), (2038, 4, 0, 271, 0, 0, 0), (6037, 0, 21, 274, 275, 276, 51), (6041, 0, 22, 278, 279, 280, 51), (3109, 1, 23, 282, 283, 0, 51), (6045, 0, 24, 285, 286, 287, 51), (6049, 0, 25, 289, 290, 291, 51), (3112, 1, 26, 293, 294, 0, 51), (3312, 0, 27, 296, 297, 298, 54), (3315, 1, 28, 300, 301, 0, 51), (3183, 1, 29, 305, 306, 0, 51), (3318, 0, 30, 308, 309, 310, 54), (6053, 0, 31, 312, 313, 314, 51), (3116, 0, 32, 316, 317, 318, 54), (3120, 0, 33, 320, 322, 3, 51), (3331, 0, 34, 324, 325, 326, 54), (101, 0, 35, 328, 329, 330, 54), (44, 1, 36, 332, 333, 0, 58), (5009, 1, 37, 335, 336, 0, 58), (5015, 1, 38, 338, 339, 0, 58), (5018, 1, 39, 341, 342, 0, 58), (105, 0, 40, 344, 345, 346, 54), (56, 0, 41, 348, 349, 350, 54), (98, 0, 42, 352, 353, 354, 54), (74, 0, 43, 356, 357, 358, 54), (78, 1, 44, 360, 361, 0, 54), (81, 1, 45, 363, 364, 0, 54), (84, 0, 46, 366, 368, 4, 54), (87, 0, 47, 370, 371, 372, 54), (90, 1, 39, 374, 342, 0, 58), (70, 1, 48, 375, 376, 0, 59), (6057, 0, 49, 381, 382, 383, 51), (3124, 0, 41, 385, 349, 350, 54), (3127, 0, 50, 386, 387, 388, 54), (63, 0, 51, 390, 391, 392, 54), (67, 1, 52, 394, 395, 0, 54), (6061, 0, 53, 397, 398, 399, 51), (3133, 1, 54, 401, 402, 0, 51), (3136, 0, 51, 404, 391, 392, 54), (3142, 0, 43, 405, 357, 358, 54), (3146, 0, 55, 406, 408, 5, 51), (3152, 0, 47, 410, 371, 372, 54), (3155, 1, 48, 411, 376, 0, 59), (6065, 0, 56, 412, 413, 414, 51), (3160, 1, 57, 416, 417, 0, 51), (3163, 1, 38, 419, 339, 0, 58), (3168, 1, 37, 420, 336, 0, 58), (3171, 0, 58, 421, 422, 423, 54), (6069, 0, 59, 425, 426, 427, 51), (3177, 0, 60, 429, 431, 6, 51), (3328, 0, 61, 433, 434, 435, 52), (6074, 0, 62, 437, 438, 439, 51), (3180, 0, 63, 441, 443, 7, 51), (3325, 1, 64, 445, 446, 0, 51), (3334, 0, 65, 448, 449, 450, 54), (50, 1, 66, 452, 453, 0, 60), (6078, 0, 67, 458, 459, 460, 51), (6082, 0, 68, 462, 463, 464, 51), (3189, 1, 69, 466, 467, 0, 51), (6086, 0, 70, 469, 470, 471, 51), (3192, 0, 71, 473, 474, 475, 52), (6090, 0, 72, 477, 478, 479, 51), (3195, 0, 73, 481, 482, 483, 52), (6094, 0, 74, 485, 486, 487, 51), (6098, 0, 75, 489, 490, 491, 51), (3198, 0, 42, 493, 353, 354, 54), (6102, 0, 76, 494, 495, 496, 51), (3201, 0, 77, 498, 499, 500, 54), (3204, 0, 78, 502, 503, 504, 54), (6106, 0, 79, 506, 507, 508, 51), (3207, 0, 80, 510, 511, 512, 54), (94, 0, 81, 514, 515, 516, 54), (60, 0, 77, 518, 499, 500, 54), (6110, 0, 82, 519, 520, 521, 51), (3214, 0, 83, 523, 525, 8, 51), (3350, 1, 84, 527, 528, 0, 58), (6114, 0, 85, 530, 531, 532, 51), (3222, 1, 86, 535, 536, 0, 58), (5026, 1, 87, 538, 539, 0, 58), (6118, 0, 88, 543, 544, 545, 51), (3226, 1, 87, 547, 539, 0, 58), (6122, 0, 89, 548, 549, 550, 51), (3230, 0, 90, 552, 553, 554, 55), (1022, 0, 91, 556, 558, 9, 55), (1030, 1, 39, 560, 342, 0, 58), (1026, 0, 92, 561, 563, 10, 55), (1036, 0, 93, 565, 567, 11, 55), (6126, 0, 94, 570, 571, 572, 51), (3233, 0, 35, 574, 329, 330, 54), (3236, 7, 0, 575, 0, 0, 0), (6130, 0, 95, 576, 577, 578, 51), (3241, 0, 96, 580, 582, 12, 51), (3244, 0, 40, 584, 345, 346, 54), (3247, 0, 97, 585, 587, 13, 51), (6134, 0, 98, 589, 590, 591, 51), (3251, 0, 99, 593, 595, 14, 51), (6138, 0, 100, 597, 598, 599, 51), (3255, 0, 101, 601, 603, 15, 51), (3258, 0, 102, 605, 607, 16, 51), (3261, 8, 0, 609, 0, 0, 0), (6142, 0, 103, 610, 611, 612, 51), (5030, 1, 86, 617, 536, 0, 58), (5034, 1, 105, 618, 619, 0, 58), (5050, 1, 104, 621, 615, 0, 58), (5038, 1, 36, 622, 333, 0, 58), (5053, 8, 0, 623, 0, 0, 0), (5044, 7, 0, 625, 0, 0, 0), (6146, 0, 106, 626, 627, 628, 51), (3268, 0, 107, 630, 632, 17, 51), (3353, 1, 39, 634, 342, 0, 58), (3271, 0, 108, 635, 637, 18, 51), (3308, 1, 109, 639, 640, 0, 51), (6150, 0, 110, 643, 644, 645, 51), (6154, 0, 111, 647, 648, 649, 51), (3282, 0, 112, 654, 656, 19, 51), (6158, 0, 113, 658, 659, 660, 51), (6162, 0, 114, 662, 663, 664, 51), (6167, 0, 115, 666, 667, 668, 51), (6171, 0, 116, 670, 671, 672, 51), (3291, 0, 117, 674, 676, 20, 51), (3337, 0, 81, 678, 515, 516, 54), (3340, 1, 118, 679, 680, 0, 51), (3344, 0, 119, 682, 684, 21, 51), (6175, 0, 120, 686, 687, 688, 51), (6179, 0, 121, 690, 691, 692, 51), (6183, 0, 122, 694, 695, 696, 51), (3301, 0, 123, 700, 701, 702, 52), (6012, 2, 124, 707, 708, 0, 56), (4001, 3, 0, 710, 0, 0, 0), (6017, 0, 125, 805, 806, 807, 56), (4084, 1, 126, 809, 810, 0, 56), (4088, 0, 127, 812, 814, 22, 56), (6022, 0, 128, 816, 817, 818, 56), (4092, 0, 129, 820, 822, 23, 56), (4096, 0, 130, 824, 826, 24, 56), (6026, 0, 131, 828, 829, 830, 56), (6031, 0, 132, 832, 833, 834, 56), (6036, 0, 133, 836, 837, 838, 56), (4099, 1, 134, 840, 841, 0, 56), (6040, 0, 135, 843, 844, 845, 56), (6044, 0, 136, 847, 848, 849, 56), (6048, 0, 137, 851, 852, 853, 56), (6052, 0, 138, 855, 856, 857, 56), (4131, 0, 139, 859, 861, 25, 56), (4124, 0, 140, 863, 865, 26, 56), (4111, 0, 141, 867, 869, 27, 56), (4127, 0, 142, 871, 873, 28, 56), (4114, 1, 143, 875, 876, 0, 56), (4120, 0, 144, 878, 880, 29, 56), (6056, 0, 145, 882, 883, 884, 56), (6060, 0, 146, 886, 887, 888, 56), (4164, 0, 147, 890, 892, 30, 56), (4168, 0, 148, 894, 896, 31, 56), (4157, 1, 149, 898, 899, 0, 56), (4150, 1, 150, 901, 902, 0, 56), (4137, 1, 151, 904, 905, 0, 56), (4147, 1, 152, 907, 908, 0, 56), (4153, 1, 153, 910, 911, 0, 56), (4144, 1, 154, 913, 914, 0, 56), (4141, 1, 155, 916, 917, 0, 56), (4161, 1, 156, 919, 920, 0, 56), (6064, 0, 157, 922, 923, 924, 56), (4171, 1, 158, 926, 927, 0, 56), (4174, 1, 159, 929, 930, 0, 56), (6068, 0, 160, 932, 933, 934, 56), (4177, 1, 161, 936, 937, 0, 56), (6073, 0, 162, 939, 940, 941, 56), (4184, 0, 163, 943, 945, 32, 56), (4180, 1, 164, 947, 948, 0, 56), (4187, 0, 165, 950, 952, 33, 56), (6077, 0, 166, 954, 955, 956, 56), (6081, 0, 167, 958, 959, 960, 56), (6085, 0, 168, 962, 963, 964, 56), (6089, 0, 169, 966, 967, 968, 56), (6093, 0, 170, 970, 971, 972, 56), (6097, 0, 171, 974, 975, 976, 56), (6101, 0, 172, 978, 979, 980, 56), (4191, 0, 173, 982, 984, 34, 56), (6105, 0, 174, 986, 987, 988, 56), (4194, 1, 175, 990, 991, 0, 56), (6109, 0, 176, 993, 994, 995, 56), (4204, 0, 177, 997, 999, 35, 56), (4201, 0, 178, 1001, 1003, 36, 56), (6113, 0, 179, 1005, 1006, 1007, 56), (6117, 0, 180, 1009, 1010, 1011, 56), (4207, 0, 181, 1013, 1015, 37, 56), (6121, 0, 182, 1017, 1018, 1019, 56), (6125, 0, 183, 1021, 1022, 1023, 56), (4211, 0, 184, 1025, 1027, 38, 56), (6129, 0, 185, 1029, 1030, 1031, 56), (6133, 0, 186, 1033, 1034, 1035, 56), (4214, 0, 187, 1037, 1039, 39, 56), (4217, 0, 188, 1041, 1043, 40, 56), (6137, 0, 189, 1045, 1046, 1047, 56), (4220, 0, 190, 1049, 1051, 41, 56), (6141, 0, 191, 1053, 1054, 1055, 56), (4223, 0, 192, 1057, 1059, 42, 56), (6145, 0, 193, 1061, 1062, 1063, 56), (4227, 0, 194, 1065, 1067, 43, 56), (4230, 0, 195, 1069, 1071, 44, 56), (4233, 0, 196, 1073, 1075, 45, 56), (6149, 0, 197, 1077, 1078, 1079, 56), (4242, 0, 198, 1082, 1084, 46, 56), (6153, 0, 199, 1086, 1087, 1088, 56), (6157, 0, 200, 1090, 1091, 1092, 56), (4251, 0, 201, 1097, 1099, 47, 56), (6161, 0, 202, 1101, 1102, 1103, 56), (6166, 0, 203, 1105, 1106, 1107, 56), (6170, 0, 204, 1109, 1110, 1111, 56), (6174, 0, 205, 1113, 1114, 1115, 56), (4254, 0, 206, 1117, 1119, 48, 56), (4257, 1, 207, 1121, 1122, 0, 56), (4260, 0, 208, 1124, 1126, 49, 56), (6178, 0, 209, 1128, 1129, 1130, 56), (6182, 0, 210, 1132, 1133, 1134, 56), (6186, 0, 211, 1136, 1137, 1138, 56), (4267, 0, 205, 1142, 1114, 1115, 56), (3030, 6, 2, 90, 91, 0, 54), (3043, 6, 3, 136, 137, 0, 55), (3264, 5, 104, 614, 615, 0, 58)]
-- (key, class, field, kind (0 int, 1 long, 2 reference), final, position)
def zFL : List (Nat × Nat × Nat × Nat × Nat × Nat) := [(2019, 2, 0, 2, 1, 79), (2009, 2, 1, 0, 0, 80), (3105, 2, 1, 0, 0, 81), (9, 0, 0, 2, 1, 94), (3130, 0, 0, 2, 1, 95), (15, 0, 1, 2, 1, 96), (3149, 0, 1, 2, 1, 97), (18, 0, 2, 2, 1, 98), (3186, 0, 2, 2, 1, 99), (21, 0, 3, 2, 1, 100), (3347, 0, 3, 2, 1, 101), (24, 0, 4, 0, 0, 102), (3123, 0, 4, 0, 0, 103), (28, 0, 5, 1, 0, 104), (3217, 0, 5, 1, 0, 105), (32, 0, 6, 0, 0, 106), (3139, 0, 6, 0, 0, 107), (35, 0, 7, 0, 0, 108), (3174, 0, 7, 0, 0, 109), (38, 0, 8, 0, 0, 110), (3211, 0, 8, 0, 0, 111), (41, 0, 9, 0, 0, 112), (1009, 1, 0, 2, 1, 140), (1015, 1, 1, 2, 1, 141), (1018, 1, 2, 1, 0, 142), (3011, 3, 0, 2, 1, 159), (3015, 3, 1, 2, 1, 160), (3021, 3, 2, 2, 1, 161), (3025, 3, 3, 2, 1, 162), (3031, 3, 4, 2, 1, 163), (3035, 3, 5, 2, 1, 164), (3038, 3, 6, 2, 1, 165), (3044, 3, 7, 2, 1, 166), (3048, 3, 8, 2, 1, 167), (3054, 3, 9, 2, 1, 168), (3057, 3, 10, 2, 1, 169), (3294, 3, 11, 0, 0, 170), (3285, 3, 12, 0, 0, 171), (3288, 3, 13, 1, 0, 172), (3060, 3, 14, 1, 0, 173), (4007, 4, 0, 2, 1, 711), (4013, 4, 1, 2, 1, 712), (4016, 4, 2, 2, 1, 713), (4019, 4, 3, 2, 1, 714), (4074, 4, 4, 0, 0, 715), (4022, 4, 5, 2, 1, 716), (4078, 4, 6, 0, 0, 717), (4237, 4, 7, 1, 0, 718), (4025, 4, 8, 1, 0, 719), (4108, 4, 9, 0, 0, 720), (4105, 4, 10, 0, 0, 721), (4102, 4, 11, 0, 0, 722), (4117, 4, 12, 0, 0, 723), (4029, 4, 13, 2, 1, 724), (4081, 4, 14, 0, 0, 725), (4032, 4, 15, 2, 1, 726), (4035, 4, 16, 2, 1, 727), (4038, 4, 17, 2, 1, 728), (4134, 4, 18, 0, 0, 729), (4041, 4, 19, 2, 1, 730), (4044, 4, 20, 2, 1, 731), (4047, 4, 21, 2, 1, 732), (4050, 4, 22, 2, 1, 733), (4053, 4, 23, 2, 1, 734), (4056, 4, 24, 2, 1, 735), (4059, 4, 25, 2, 1, 736), (4062, 4, 26, 2, 1, 737), (4065, 4, 27, 2, 1, 738), (4068, 4, 28, 2, 1, 739), (4071, 4, 29, 2, 1, 740), (4198, 4, 30, 0, 0, 741)]
def zSL : List (Nat × Nat × Nat) := [(3322, 1, 303), (5022, 2, 541)]
def zNL : List (Nat × Nat × Nat) := [(6007, 3, 61), (3009, 2, 69), (3028, 0, 88), (3041, 1, 134), (3052, 9, 150), (6010, 4, 705)]
def zKI : List (Nat × Int32 × Nat) := [(7265, 1431655765, 378), (7266, 858993459, 379), (7267, 252645135, 380), (3277, 2147483646, 651), (4246, 2147483646, 1094)]
def zKL : List (Nat × Int64 × Nat) := [(8314, 6148914691236517205, 455), (8316, 3689348814741910323, 456), (8318, 1085102592571150095, 457), (3220, -1, 534), (1040, -1, 569), (5042, -1, 624), (3275, 12, 642), (3278, 48271, 652), (3280, 2147483647, 653), (3297, 17, 698), (3299, 31, 699), (2044, 31, 704), (4240, 12, 1081), (4247, 48271, 1095), (4249, 2147483647, 1096), (4263, 17, 1140), (4265, 31, 1141)]
def zFK : List (List Nat) := [[2, 2, 2, 2, 0, 1, 0, 0, 0, 0], [2, 2, 1], [2, 0], [2, 2, 2, 2, 2, 2, 2, 2, 2, 2, 2, 0, 0, 1, 1], [2, 2, 2, 2, 0, 2, 0, 1, 1, 0, 0, 0, 0, 2, 0, 2, 2, 2, 0, 2, 2, 2, 2, 2, 2, 2, 2, 2, 2, 2, 0]]
end
section
/-! THE MACHINE IN SMALL: what the bytecode of this claim does, as a function. A cell is an array of ints (its length), an array of references (0: strips, 1: rows of ints), or an object (its class, its references); ints and longs stand in two functions (cell, place). Cells 0, 1, 2: the script, KIND_LETTERS, LOWER_ENDS: nobody writes them. -/
abbrev zE : Type := Nat ⊕ ((Nat × List (Option Nat)) ⊕ (Nat × List (Option Nat)))
abbrev zS : Type := List zE × ((Nat → Nat → Int32) × (Nat → Nat → Int64))
abbrev zR : Type := (Nat × List Value × List Value × zS) ⊕ ((Nat × List Value × Nat × List Value) ⊕ Option Value)
def zup {α : Type} (f : Nat → Nat → α) (k j : Nat) (v : α) : Nat → Nat → α := fun a b => if a = k ∧ b = j then v else f a b
def zclr {α : Type} (f : Nat → Nat → α) (k : Nat) (v : α) : Nat → Nat → α := fun a b => if a = k then v else f a b
def zcpy (f : Nat → Nat → Int32) (k sp q dp n : Nat) : Nat → Nat → Int32 := fun a b => if a = q ∧ dp ≤ b ∧ b < dp + n then f k (sp + (b - dp)) else f a b
def znx (pc : Nat) (lo st : List Value) (S : zS) : Option zR := some (.inl (pc, lo, st, S))
def zcl (lo : List Value) : Nat → List Value
  | 0 => lo
  | j + 1 => if (lo.getD j .null).category = 2 then lo.set j .null else lo
def zst1 (lo : List Value) (i : Nat) (v : Value) : List Value := (zcl lo i).set i v
def zst2 (lo : List Value) (i : Nat) (v : Value) : List Value := ((zcl lo i).set i v).set (i + 1) .null
def zplace : List Value → List Value
  | [] => []
  | v :: vs => if v.category = 2 then v :: .null :: zplace vs else v :: zplace vs
def zent (n : Nat) (as : List Value) : List Value := zplace as ++ List.replicate (n - (zplace as).length) .null
def zii (f : Int32 → Int32 → Int32) (pc : Nat) (lo : List Value) (S : zS) : List Value → Option zR
  | .int y :: .int x :: st => znx pc lo (.int (f x y) :: st) S
  | _ => none
def zll (f : Int64 → Int64 → Int64) (pc : Nat) (lo : List Value) (S : zS) : List Value → Option zR
  | .long y :: .long x :: st => znx pc lo (.long (f x y) :: st) S
  | _ => none
def ziiD (f : Int32 → Int32 → Int32) (pc : Nat) (lo : List Value) (S : zS) : List Value → Option zR
  | .int y :: .int x :: st => if y = 0 then none else znx pc lo (.int (f x y) :: st) S
  | _ => none
def zllD (f : Int64 → Int64 → Int64) (pc : Nat) (lo : List Value) (S : zS) : List Value → Option zR
  | .long y :: .long x :: st => if y = 0 then none else znx pc lo (.long (f x y) :: st) S
  | _ => none
def zli (f : Int64 → Int32 → Int64) (pc : Nat) (lo : List Value) (S : zS) : List Value → Option zR
  | .int y :: .long x :: st => znx pc lo (.long (f x y) :: st) S
  | _ => none
/-- a jump -/
def zjp (pc : Nat) (off : Int) (lo st : List Value) (S : zS) : Option zR := if (pc : Int) + off < 0 then none else znx ((pc : Int) + off).toNat lo st S
def zbr (c : Bool) (pc : Nat) (off : Int) (lo st : List Value) (S : zS) : Option zR := if (pc : Int) + off < 0 then none else if c then znx ((pc : Int) + off).toNat lo st S else znx (pc + 3) lo st S
def zcmp (c : Jvm.ClassFile.Cond) (x y : Int32) : Bool := match c with
  | .eq => decide (x = y)
  | .ne => !decide (x = y)
  | .lt => decide (x < y)
  | .ge => decide (y ≤ x)
  | .gt => decide (y < x)
  | .le => decide (x ≤ y)
def zld (i pc : Nat) (t : Nat) (lo st : List Value) (S : zS) : Option zR := match lo[i]?, t with
  | some (.int x), 0 => znx pc lo (.int x :: st) S
  | some (.long x), 1 => znx pc lo (.long x :: st) S
  | some (.ref x), 2 => znx pc lo (.ref x :: st) S
  | _, _ => none
def zso (i pc : Nat) (t : Nat) (lo : List Value) (S : zS) (st : List Value) : Option zR := if i + 1 < lo.length ∨ (i < lo.length ∧ ¬ t = 1) then (match st, t with
  | .int x :: st, 0 => znx pc (zst1 lo i (.int x)) st S
  | .ref x :: st, 2 => znx pc (zst1 lo i (.ref x)) st S
  | .long x :: st, 1 => znx pc (zst2 lo i (.long x)) st S
  | _, _ => none) else none
def zky (M : zM) (idx : Nat) : Nat := if idx < 1000 then 1000 * M.2.2.2.2.1 + idx else 999999
def zgetf (M : zM) (idx pc : Nat) (lo : List Value) (S : zS) (st : List Value) : Option zR := match zFL.lookup (zky M idx), st with
  | some (ci, j, t, _, _), .ref k :: st => (match S.1[k]? with
    | some (.inr (.inr (ci', rs))) => if ci' = ci ∧ j < rs.length then (match t with
        | 0 => znx pc lo (.int (S.2.1 k j) :: st) S
        | 1 => znx pc lo (.long (S.2.2 k j) :: st) S
        | _ => (match rs.getD j none with
          | some a => znx pc lo (.ref a :: st) S
          | none => none)) else none
    | _ => none)
  | _, _ => none
def zputf (M : zM) (idx pc : Nat) (lo : List Value) (S : zS) (st : List Value) : Option zR := match zFL.lookup (zky M idx), st with
  | some (ci, j, t, fin, _), v :: .ref k :: st => (match S.1[k]? with
    | some (.inr (.inr (ci', rs))) => if ci' = ci ∧ j < rs.length ∧ (fin = 0 ∨ (M.1.name = "<init>" ∧ zCN[M.2.2.2.2.1]? = zCN[ci]?)) then (match t, v with
        | 0, .int x => znx pc lo st (S.1, zup S.2.1 k j x, S.2.2)
        | 1, .long x => znx pc lo st (S.1, S.2.1, zup S.2.2 k j x)
        | 2, .ref a => znx pc lo st (S.1.set k (.inr (.inr (ci, rs.set j (some a)))), S.2)
        | _, _ => none) else none
    | _ => none)
  | _, _ => none
/-- within 0 .. n - 1 -/
def zin (i : Int32) (n : Nat) : Bool := !(decide (i < 0) || decide (n ≤ i.toNatClampNeg))
def zald (pc : Nat) (lo : List Value) (S : zS) : List Value → Option zR
  | .int i :: .ref k :: st => (match S.1[k]? with
    | some (.inl n) => if zin i n then znx pc lo (.int (S.2.1 k i.toNatClampNeg) :: st) S else none
    | _ => none)
  | _ => none
def zast (pc : Nat) (lo : List Value) (S : zS) : List Value → Option zR
  | .int x :: .int i :: .ref k :: st => (match S.1[k]? with
    | some (.inl n) => if zin i n ∧ 3 ≤ k then znx pc lo st (S.1, zup S.2.1 k i.toNatClampNeg x, S.2.2) else none
    | _ => none)
  | _ => none
def zaald (pc : Nat) (lo : List Value) (S : zS) : List Value → Option zR
  | .int i :: .ref k :: st => (match S.1[k]? with
    | some (.inr (.inl (_, rs))) => if zin i rs.length then (match rs.getD i.toNatClampNeg none with
        | some a => znx pc lo (.ref a :: st) S
        | none => none) else none
    | _ => none)
  | _ => none
def zaast (pc : Nat) (lo : List Value) (S : zS) : List Value → Option zR
  | .ref v :: .int i :: .ref k :: st => (match S.1[k]?, S.1[v]? with
    | some (.inr (.inl (0, rs))), some (.inr (.inr (2, _))) => if zin i rs.length then znx pc lo st (S.1.set k (.inr (.inl (0, rs.set i.toNatClampNeg (some v)))), S.2) else none
    | _, _ => none)
  | _ => none
def zalen (pc : Nat) (lo : List Value) (S : zS) : List Value → Option zR
  | .ref k :: st => (match S.1[k]? with
    | some (.inl n) => znx pc lo (.int (Int32.ofNat n) :: st) S
    | some (.inr (.inl (_, rs))) => znx pc lo (.int (Int32.ofNat rs.length) :: st) S
    | _ => none)
  | _ => none
def znew (M : zM) (idx pc : Nat) (lo st : List Value) (S : zS) : Option zR := match zNL.lookup (zky M idx) with
  | some (ci, _) => (match zFK[ci]? with
    | some fk => znx pc lo (.ref S.1.length :: st) (S.1 ++ [.inr (.inr (ci, List.replicate fk.length none))], zclr S.2.1 S.1.length 0, zclr S.2.2 S.1.length 0)
    | none => none)
  | none => none
def znewa (pc : Nat) (lo : List Value) (S : zS) : List Value → Option zR
  | .int n :: st => if n < 0 ∨ 100000 < n.toNatClampNeg then none else znx pc lo (.ref S.1.length :: st) (S.1 ++ [.inl n.toNatClampNeg], zclr S.2.1 S.1.length 0, S.2.2)
  | _ => none
def zanew (M : zM) (idx pc : Nat) (lo : List Value) (S : zS) : List Value → Option zR
  | .int n :: st => (match zNL.lookup (zky M idx) with
    | some (2, _) => if n < 0 ∨ 100000 < n.toNatClampNeg then none else znx pc lo (.ref S.1.length :: st) (S.1 ++ [.inr (.inl (0, List.replicate n.toNatClampNeg none))], S.2)
    | _ => none)
  | _ => none
def zclrs (f : Nat → Nat → Int32) (k n : Nat) : Nat → Nat → Int32 := fun a b => if k ≤ a ∧ a < k + n then 0 else f a b
def zmnew (M : zM) (idx pc : Nat) (lo : List Value) (S : zS) : List Value → Option zR
  | .int c :: .int n :: st => (match zNL.lookup (zky M idx) with
    | some (9, _) => if n < 0 ∨ 1000 < n.toNatClampNeg ∨ c < 0 ∨ 1000 < c.toNatClampNeg then none else
        znx pc lo (.ref S.1.length :: st) (S.1 ++ ([.inr (.inl (1, (List.range n.toNatClampNeg).map fun i => some (S.1.length + 1 + i)))] ++ List.replicate n.toNatClampNeg (.inl c.toNatClampNeg)), zclrs S.2.1 (S.1.length + 1) n.toNatClampNeg, S.2.2)
    | _ => none)
  | _ => none
def zcat (st : List Value) : Nat := (st.map fun v => v.category).sum
/-- a call: its arguments off the stack, the receiver's class looked at -/
def zinv (M : zM) (idx kd pc : Nat) (lo : List Value) (S : zS) (st : List Value) : Option zR := match zML.lookup (zky M idx) with
  | some (t, mi, _) => (match t with
    | 3 => (match st with
      | .ref _ :: st => if kd = 2 ∧ zcat st ≤ 8 then znx pc lo st S else none
      | _ => none)
    | 4 => (match st with
      | .int n :: .int dp :: .ref q :: .int sp :: .ref k :: st => (match S.1[k]?, S.1[q]? with
        | some (.inl n0), some (.inl n1) => if kd = 1 ∧ ¬ sp < 0 ∧ ¬ dp < 0 ∧ ¬ n < 0 ∧ sp.toNatClampNeg + n.toNatClampNeg ≤ n0 ∧ dp.toNatClampNeg + n.toNatClampNeg ≤ n1 ∧ 3 ≤ k ∧ 3 ≤ q ∧ zcat st ≤ 8
            then znx pc lo st (S.1, zcpy S.2.1 k sp.toNatClampNeg q dp.toNatClampNeg n.toNatClampNeg, S.2.2) else none
        | _, _ => none)
      | _ => none)
    | 7 => (match st with
      | .int y :: .int x :: st => if kd = 1 ∧ zcat st ≤ 8 then znx pc lo (.int (if x < y then y else x) :: st) S else none
      | _ => none)
    | 8 => (match st with
      | .int y :: .int x :: st => if kd = 1 ∧ zcat st ≤ 8 then znx pc lo (.int (if y < x then y else x) :: st) S else none
      | _ => none)
    | _ => (match zProg[mi]? with
      | some M' => (match t with
        | 0 => (match st.drop M'.2.2.2.2.2.2 with
          | .ref k :: rest => (match S.1[k]? with
            | some (.inr (.inr (ci, _))) => if kd = 0 ∧ zCN[ci]? = some M'.1.cls ∧ ci < 5 ∧ zcat rest ≤ 8 then some (.inr (.inl (mi, .ref k :: (st.take M'.2.2.2.2.2.2).reverse, pc, rest))) else none
            | _ => none)
          | _ => none)
        | 1 => if kd = 1 ∧ zcat (st.drop M'.2.2.2.2.2.2) ≤ 8 ∧ M'.2.2.2.2.2.2 ≤ st.length then some (.inr (.inl (mi, (st.take M'.2.2.2.2.2.2).reverse, pc, st.drop M'.2.2.2.2.2.2))) else none
        | 5 => if kd = 1 ∧ zcat (st.drop M'.2.2.2.2.2.2) ≤ 8 ∧ M'.2.2.2.2.2.2 ≤ st.length then some (.inr (.inl (mi, (st.take M'.2.2.2.2.2.2).reverse, pc, st.drop M'.2.2.2.2.2.2))) else none
        | 2 => (match st.drop M'.2.2.2.2.2.2 with
          | .ref k :: rest => if kd = 2 ∧ zcat rest ≤ 8 then some (.inr (.inl (mi, .ref k :: (st.take M'.2.2.2.2.2.2).reverse, pc, rest))) else none
          | _ => none)
        | 6 => (match st.drop M'.2.2.2.2.2.2 with
          | .ref k :: rest => if kd = 2 ∧ zcat rest ≤ 8 then some (.inr (.inl (mi, .ref k :: (st.take M'.2.2.2.2.2.2).reverse, pc, rest))) else none
          | _ => none)
        | _ => none)
      | none => none))
  | none => none
def zret (M : zM) (t : Nat) (st : List Value) : Option zR := match t, st, M.2.2.2.1 with
  | 0, [.int x], some .int => some (.inr (.inr (some (.int x))))
  | 0, [.int x], some .boolean => if x = 0 ∨ x = 1 then some (.inr (.inr (some (.int x)))) else none
  | 1, [.long x], some .long => some (.inr (.inr (some (.long x))))
  | 2, [], none => some (.inr (.inr none))
  | _, _, _ => none
def zexec (M : zM) (ins : Instr) (len pc : Nat) (lo st : List Value) (S : zS) : Option zR := match ins with
  | .iconst i => if len = 1 then znx (pc + 1) lo (.int (Int32.ofInt i) :: st) S else none
  | .bipush i => if len = 2 then znx (pc + 2) lo (.int (Int8.ofInt i).toInt32 :: st) S else none
  | .sipush i => if len = 3 then znx (pc + 3) lo (.int (Int16.ofInt i).toInt32 :: st) S else none
  | .lconst i => if len = 1 then znx (pc + 1) lo (.long (Int64.ofNat i.val) :: st) S else none
  | .ldc idx => if len = 2 then (match zKI.lookup (zky M idx) with
    | some (x, _) => znx (pc + 2) lo (.int x :: st) S
    | none => none) else none
  | .ldc_w idx => if len = 3 then (match zKI.lookup (zky M idx) with
    | some (x, _) => znx (pc + 3) lo (.int x :: st) S
    | none => none) else none
  | .ldc2_w idx => if len = 3 then (match zKL.lookup (zky M idx) with
    | some (x, _) => znx (pc + 3) lo (.long x :: st) S
    | none => none) else none
  | .iload_n i => if len = 1 then zld i.val (pc + 1) 0 lo st S else none
  | .lload_n i => if len = 1 then zld i.val (pc + 1) 1 lo st S else none
  | .aload_n i => if len = 1 then zld i.val (pc + 1) 2 lo st S else none
  | .iload i => if len = 2 then zld i (pc + 2) 0 lo st S else none
  | .lload i => if len = 2 then zld i (pc + 2) 1 lo st S else none
  | .aload i => if len = 2 then zld i (pc + 2) 2 lo st S else none
  | .istore_n i => if len = 1 then zso i.val (pc + 1) 0 lo S st else none
  | .lstore_n i => if len = 1 then zso i.val (pc + 1) 1 lo S st else none
  | .astore_n i => if len = 1 then zso i.val (pc + 1) 2 lo S st else none
  | .istore i => if len = 2 then zso i (pc + 2) 0 lo S st else none
  | .lstore i => if len = 2 then zso i (pc + 2) 1 lo S st else none
  | .astore i => if len = 2 then zso i (pc + 2) 2 lo S st else none
  | .iinc i n => if len = 3 then (match lo[i]? with
    | some (.int x) => znx (pc + 3) (zst1 lo i (.int (x + Int32.ofInt n))) st S
    | _ => none) else none
  | .iadd => if len = 1 then zii (fun x y => x + y) (pc + 1) lo S st else none
  | .isub => if len = 1 then zii (fun x y => x - y) (pc + 1) lo S st else none
  | .imul => if len = 1 then zii (fun x y => x * y) (pc + 1) lo S st else none
  | .iand => if len = 1 then zii (fun x y => x &&& y) (pc + 1) lo S st else none
  | .ior => if len = 1 then zii (fun x y => x ||| y) (pc + 1) lo S st else none
  | .ixor => if len = 1 then zii (fun x y => x ^^^ y) (pc + 1) lo S st else none
  | .ishl => if len = 1 then zii (fun x y => x <<< (y &&& 31)) (pc + 1) lo S st else none
  | .ishr => if len = 1 then zii (fun x y => x >>> (y &&& 31)) (pc + 1) lo S st else none
  | .iushr => if len = 1 then zii (fun x y => (x.toUInt32 >>> (y.toUInt32 &&& Int32.toUInt32 31)).toInt32) (pc + 1) lo S st else none
  | .idiv => if len = 1 then ziiD (fun x y => x / y) (pc + 1) lo S st else none
  | .irem => if len = 1 then ziiD (fun x y => x - x / y * y) (pc + 1) lo S st else none
  | .ladd => if len = 1 then zll (fun x y => x + y) (pc + 1) lo S st else none
  | .lsub => if len = 1 then zll (fun x y => x - y) (pc + 1) lo S st else none
  | .lmul => if len = 1 then zll (fun x y => x * y) (pc + 1) lo S st else none
  | .land => if len = 1 then zll (fun x y => x &&& y) (pc + 1) lo S st else none
  | .lor => if len = 1 then zll (fun x y => x ||| y) (pc + 1) lo S st else none
  | .lxor => if len = 1 then zll (fun x y => x ^^^ y) (pc + 1) lo S st else none
  | .ldiv => if len = 1 then zllD (fun x y => x / y) (pc + 1) lo S st else none
  | .lrem => if len = 1 then zllD (fun x y => x - x / y * y) (pc + 1) lo S st else none
  | .lushr => if len = 1 then zli (fun x y => (x.toUInt64 >>> (y.toInt64.toUInt64 &&& Int64.toUInt64 63)).toInt64) (pc + 1) lo S st else none
  | .lshl => if len = 1 then zli (fun x y => x <<< (y.toInt64 &&& 63)) (pc + 1) lo S st else none
  | .i2l => if len = 1 then (match st with
    | .int x :: st => znx (pc + 1) lo (.long x.toInt64 :: st) S
    | _ => none) else none
  | .l2i => if len = 1 then (match st with
    | .long x :: st => znx (pc + 1) lo (.int x.toInt32 :: st) S
    | _ => none) else none
  | .i2b => if len = 1 then (match st with
    | .int x :: st => znx (pc + 1) lo (.int x.toInt8.toInt32 :: st) S
    | _ => none) else none
  | .lcmp => if len = 1 then (match st with
    | .long y :: .long x :: st => znx (pc + 1) lo (.int (lg_cmp x y) :: st) S
    | _ => none) else none
  | .dup => if len = 1 then (match st with
    | v :: st => if v.category = 1 then znx (pc + 1) lo (v :: v :: st) S else none
    | _ => none) else none
  | .dup2 => if len = 1 then (match st with
    | v :: st => if v.category = 2 then znx (pc + 1) lo (v :: v :: st) S else (match st with
      | w :: st => if w.category = 1 then znx (pc + 1) lo (v :: w :: v :: w :: st) S else none
      | _ => none)
    | _ => none) else none
  | .pop => if len = 1 then (match st with
    | v :: st => if v.category = 1 then znx (pc + 1) lo st S else none
    | _ => none) else none
  | .goto off => if len = 3 then zjp pc off lo st S else none
  | .ifCond cnd off => if len = 3 then (match st with
    | .int x :: st => zbr (zcmp cnd x 0) pc off lo st S
    | _ => none) else none
  | .if_icmp cnd off => if len = 3 then (match st with
    | .int y :: .int x :: st => zbr (zcmp cnd x y) pc off lo st S
    | _ => none) else none
  | .tableswitch df lw hi offs => (match st with
    | .int x :: st => if x.toInt < lw ∨ hi < x.toInt then zjp pc df lo st S else (match offs[(x.toInt - lw).toNat]? with
      | some off => zjp pc off lo st S
      | none => none)
    | _ => none)
  | .lookupswitch df ps => (match st with
    | .int x :: st => if (ps.toList.zip (ps.toList.drop 1)).all (fun (a, next) => a.1 < next.1) = true then zjp pc (Op.lookupswitch.offset ps.toList df x.toInt) lo st S else none
    | _ => none)
  | .getfield idx => if len = 3 then zgetf M idx (pc + 3) lo S st else none
  | .putfield idx => if len = 3 then zputf M idx (pc + 3) lo S st else none
  | .getstatic idx => if len = 3 then (match zSL.lookup (zky M idx) with
    | some (k, _) => znx (pc + 3) lo (.ref k :: st) S
    | none => none) else none
  | .iaload => if len = 1 then zald (pc + 1) lo S st else none
  | .iastore => if len = 1 then zast (pc + 1) lo S st else none
  | .aaload => if len = 1 then zaald (pc + 1) lo S st else none
  | .aastore => if len = 1 then zaast (pc + 1) lo S st else none
  | .arraylength => if len = 1 then zalen (pc + 1) lo S st else none
  | .new idx => if len = 3 then znew M idx (pc + 3) lo st S else none
  | .newarray .int => if len = 2 then znewa (pc + 2) lo S st else none
  | .anewarray idx => if len = 3 then zanew M idx (pc + 3) lo S st else none
  | .multianewarray idx 2 => if len = 4 then zmnew M idx (pc + 4) lo S st else none
  | .invokevirtual idx => if len = 3 then zinv M idx 0 (pc + 3) lo S st else none
  | .invokestatic idx => if len = 3 then zinv M idx 1 (pc + 3) lo S st else none
  | .invokespecial idx => if len = 3 then zinv M idx 2 (pc + 3) lo S st else none
  | .ireturn => if len = 1 then zret M 0 st else none
  | .lreturn => if len = 1 then zret M 1 st else none
  | .return_ => if len = 1 then zret M 2 st else none
  | _ => none
def zstep (mi pc : Nat) (lo st : List Value) (S : zS) : Option zR := match zProg[mi]? with
  | some M => (match decode M.2.1 pc with
    | .ok (ins, len) => zexec M ins len pc lo st S
    | .error _ => none)
  | none => none
def zc (S : zS) : Nat := S.1.length
def zsz (e : zE) : Nat := match e with
  | .inl n => n
  | .inr (.inl (_, rs)) => rs.length
  | .inr (.inr (_, rs)) => rs.length
def zs (S : zS) : Nat := (S.1.map zsz).sum
/-- cells don't go away -/
def zle (S S' : zS) : Bool := decide (zc S ≤ zc S') && decide (zs S ≤ zs S')
def zmax (mi : Nat) : Nat := match zProg[mi]? with
  | some M => M.2.2.1
  | none => 0
def zrun : Nat → Nat → Nat → Nat → List Value → List Value → zS → Option (Option Value × zS)
  | 0, _, _, _, _, _, _ => none
  | f + 1, d, mi, pc, lo, st, S => match zstep mi pc lo st S with
    | none => none
    | some (.inl (pc', lo', st', S')) => if zle S S' then zrun f d mi pc' lo' st' S' else none
    | some (.inr (.inr v)) => some (v, S)
    | some (.inr (.inl (mi', as, pc', rest))) => (match d with
      | 0 => none
      | d' + 1 => if (zplace as).length ≤ zmax mi' then (match zrun f d' mi' 0 (zent (zmax mi') as) [] S with
        | none => none
        | some (v, S') => zrun f (d' + 1) mi pc' lo (v.toList ++ rest) S') else none)
/-- the machine, from a place of a method on, comes to the method's end, with Q -/
def zW (d mi pc : Nat) (lo st : List Value) (S : zS) (Q : Option Value → zS → Prop) : Prop := ∃ f v S', zrun f d mi pc lo st S = some (v, S') ∧ Q v S'
theorem zrun_up {f : Nat} : ∀ {d mi pc : Nat} {lo st : List Value} {S : zS} {r : Option Value × zS}, zrun f d mi pc lo st S = some r → zrun (f + 1) d mi pc lo st S = some r := by
  induction f with
  | zero => intro d mi pc lo st S r h; cases h
  | succ f ih =>
    intro d mi pc lo st S r h
    rw [zrun] at h ⊢
    split at h
    · cases h
    · split at h
      · next hz =>
        rw [if_pos hz]
        exact ih h
      · cases h
    · exact h
    · split at h
      · cases h
      · split at h
        · next hz =>
          split at h
          · cases h
          · next hc =>
            rw [if_pos hz, ih hc]
            exact ih h
        · cases h
theorem zrun_le {f g : Nat} (hfg : f ≤ g) {d mi pc : Nat} {lo st : List Value} {S : zS} {r : Option Value × zS} (h : zrun f d mi pc lo st S = some r) : zrun g d mi pc lo st S = some r := by
  induction hfg with
  | refl => exact h
  | step _ ih => exact zrun_up ih
theorem zrun_d {f : Nat} : ∀ {d mi pc : Nat} {lo st : List Value} {S : zS} {r : Option Value × zS}, zrun f d mi pc lo st S = some r → zrun f (d + 1) mi pc lo st S = some r := by
  induction f with
  | zero => intro d mi pc lo st S r h; cases h
  | succ f ih =>
    intro d mi pc lo st S r h
    rw [zrun] at h ⊢
    split at h
    · cases h
    · split at h
      · next hz =>
        rw [if_pos hz]
        exact ih h
      · cases h
    · exact h
    · split at h
      · cases h
      · split at h
        · next hz =>
          split at h
          · cases h
          · next hc =>
            rw [if_pos hz, ih hc]
            exact ih h
        · cases h
theorem zW_next {d mi pc pc' : Nat} {lo lo' st st' : List Value} {S S' : zS} {Q : Option Value → zS → Prop} (h : zstep mi pc lo st S = some (.inl (pc', lo', st', S'))) (hz : zle S S' = true) : zW d mi pc lo st S Q ↔ zW d mi pc' lo' st' S' Q := by
  constructor
  · rintro ⟨f, v, S2, hr, hq⟩
    cases f with
    | zero => cases hr
    | succ f =>
      rw [zrun, h] at hr
      dsimp only at hr
      rw [if_pos hz] at hr
      exact ⟨f, v, S2, hr, hq⟩
  · rintro ⟨f, v, S2, hr, hq⟩
    refine ⟨f + 1, v, S2, ?_, hq⟩
    rw [zrun, h]
    dsimp only
    rw [if_pos hz]
    exact hr
theorem zW_ret {d mi pc : Nat} {lo st : List Value} {S : zS} {v : Option Value} {Q : Option Value → zS → Prop} (h : zstep mi pc lo st S = some (.inr (.inr v))) : zW d mi pc lo st S Q ↔ Q v S := by
  constructor
  · rintro ⟨f, v', S2, hr, hq⟩
    cases f with
    | zero => cases hr
    | succ f =>
      rw [zrun, h] at hr
      cases hr
      exact hq
  · intro hq
    refine ⟨1, v, S, ?_, hq⟩
    rw [zrun, h]
theorem zW_call {d mi pc mi' pc' : Nat} {lo st as rest : List Value} {S : zS} {Q : Option Value → zS → Prop} (h : zstep mi pc lo st S = some (.inr (.inl (mi', as, pc', rest)))) (hz : (zplace as).length ≤ zmax mi') :
    zW (d + 1) mi pc lo st S Q ↔ zW d mi' 0 (zent (zmax mi') as) [] S (fun v S' => zW (d + 1) mi pc' lo (v.toList ++ rest) S' Q) := by
  constructor
  · rintro ⟨f, v', S2, hr, hq⟩
    cases f with
    | zero => cases hr
    | succ f =>
      rw [zrun, h] at hr
      dsimp only at hr
      rw [if_pos hz] at hr
      split at hr
      · cases hr
      · next hc => exact ⟨f, _, _, hc, f, v', S2, hr, hq⟩
  · rintro ⟨f, v, S1, hc, g, v', S2, hr, hq⟩
    refine ⟨max f g + 1, v', S2, ?_, hq⟩
    rw [zrun, h]
    dsimp only
    rw [if_pos hz, zrun_le (Nat.le_max_left f g) hc]
    exact zrun_le (Nat.le_max_right f g) hr
theorem zW_mono {d mi pc : Nat} {lo st : List Value} {S : zS} {Q Q' : Option Value → zS → Prop} (h : zW d mi pc lo st S Q) (hq : ∀ v S', Q v S' → Q' v S') : zW d mi pc lo st S Q' := by
  obtain ⟨f, v, S', hr, h2⟩ := h
  exact ⟨f, v, S', hr, hq v S' h2⟩
theorem zW_d {d mi pc : Nat} {lo st : List Value} {S : zS} {Q : Option Value → zS → Prop} (h : zW d mi pc lo st S Q) : zW (d + 1) mi pc lo st S Q := by
  obtain ⟨f, v, S', hr, h2⟩ := h
  exact ⟨f, v, S', zrun_d hr, h2⟩
theorem zle_same {S S' : zS} (h : S'.1 = S.1) : zle S S' = true := by
  unfold zle zc zs
  rw [h]
  simp
end
section
/-! what the tables of part 02 rest on: the Statement's words, by their places -/
theorem zlookup_mem {α : Type} : ∀ {l : List (Nat × α)} {k : Nat} {v : α}, l.lookup k = some v → (k, v) ∈ l
  | [], _, _, h => by cases h
  | (a, b) :: l, k, v, h => by
    unfold List.lookup at h
    split at h
    · next e =>
      cases h
      have := eq_of_beq e
      subst this
      exact List.mem_cons_self
    · exact List.mem_cons_of_mem _ (zlookup_mem h)
theorem zall {α : Type} {l : List (Nat × α)} {P : Nat × α → Bool} (h : l.all P = true) {k : Nat} {v : α} (hk : l.lookup k = some v) : P (k, v) = true := List.all_eq_true.mp h _ (zlookup_mem hk)
/-- the words that hold on at every later state -/
def zWs : List Jvm.Cond := lw_tbl.filter goodWord
def zat (p : Nat) (w : Jvm.Cond) : Bool := decide (lw_tbl[p]? = some w) && goodWord w
theorem zat_mem {p : Nat} {w : Jvm.Cond} (h : zat p w = true) : w ∈ zWs := by
  obtain ⟨h1, h2⟩ := Bool.and_eq_true_iff.mp h
  exact List.mem_filter.mpr ⟨List.mem_of_getElem? (of_decide_eq_true h1), h2⟩
theorem zWs_in {w : Jvm.Cond} (h : w ∈ lw_tbl) (hg : goodWord w = true) : w ∈ zWs := List.mem_filter.mpr ⟨h, hg⟩
theorem zWs_good : GoodIn zWs zWs := fun w h => ⟨h, good_of_word (List.mem_filter.mp h).2⟩
/-- the words that need a way of their own -/
def zNests : List Jvm.Cond := lw_tbl.filter fun w => match w with
  | .methodLinkNest .. => true
  | _ => false
def zmlP (x : Nat × Nat × Nat × Nat × Nat × Nat × Nat) : Bool := match x with
  | (key, t, mi, p1, p2, p3, p4) => (match zCN[key / 1000]? with
    | none => false
    | some own => (match t with
      | 3 => zat p1 (.methodLink own (key % 1000) Lib.objectInit)
      | 4 => zat p1 (.methodLink own (key % 1000) arraycopyName)
      | 7 => zat p1 (.methodLink own (key % 1000) Lib.Math.max.name)
      | 8 => zat p1 (.methodLink own (key % 1000) Lib.Math.min.name)
      | _ => (match zProg[mi]? with
        | none => false
        | some M => decide (mi < 212) && (zat p4 (.initialized M.1.cls) && (match t with
          | 0 => zat p1 (.methodLink own (key % 1000) M.1) && (zat p2 (.instanceMethod M.1) && zat p3 (.selects M.1.cls M.1 M.1))
          | 1 => zat p1 (.methodLink own (key % 1000) M.1) && zat p2 (.static M.1)
          | 5 => decide (lw_tbl[p1]? = some (.methodLinkNest own (key % 1000) M.1 "CubeHops")) && zat p2 (.static M.1)
          | 2 => zat p1 (.methodLink own (key % 1000) M.1) && (zat p2 (.instanceMethod M.1) && (decide (M.1.name = "<init>") && decide (M.2.2.2.1 = none)))
          | 6 => decide (lw_tbl[p1]? = some (.methodLinkNest own (key % 1000) M.1 "CubeHops")) && (zat p2 (.instanceMethod M.1) && (decide (M.1.name = "<init>") && decide (M.2.2.2.1 = none)))
          | _ => false)))))
set_option maxRecDepth 100000 in
theorem zml_ok : zML.all zmlP = true := by decide +kernel
def zprP (M : zM) : Bool := Jvm.plainName M.1.cls && (decide (M.1.cls ≠ "java/lang/invoke/MethodHandle" ∧ M.1.cls ≠ "java/lang/invoke/VarHandle" ∧ (parseMethodDescriptor M.1.desc).map (fun d => d.parameters.length) = some M.2.2.2.2.2.2) && (decide (M.2.2.1 ≤ 20) && decide (zCN[M.2.2.2.2.1]? = some M.1.cls ∧ M.2.2.2.2.1 < 10)))
set_option maxRecDepth 100000 in
theorem zpr_ok : (zProg.take 212).all zprP = true := by decide +kernel
theorem zpr_at {mi : Nat} {M : zM} (h : zProg[mi]? = some M) (hm : mi < 212) : zprP M = true := by
  refine List.all_eq_true.mp zpr_ok M (List.mem_of_getElem? (i := mi) ?_)
  rw [List.getElem?_take_of_lt hm]
  exact h
def zco (M : zM) : Jvm.Cond := .code M.1 M.2.1 M.2.2.1 M.2.2.2.1
theorem zco_of {l : List zM} {ps : List Nat} (h : l.map zco = ps.filterMap (fun i => lw_tbl[i]?)) : ∀ M ∈ l, zco M ∈ zWs := by
  intro M hM
  have h1 : zco M ∈ ps.filterMap (fun i => lw_tbl[i]?) := by rw [← h]; exact List.mem_map_of_mem hM
  obtain ⟨i, -, hi⟩ := List.mem_filterMap.mp h1
  exact zWs_in (List.mem_of_getElem? hi) rfl
set_option maxRecDepth 100000 in
theorem zco_0 : ∀ M ∈ zProg_0, zco M ∈ zWs := zco_of (ps := [65, 74, 92, 138, 155, 208, 211, 215, 219, 223, 227, 231, 235, 239, 244, 248, 253, 257, 261, 265, 269, 277, 281, 284]) rfl
set_option maxRecDepth 100000 in
theorem zco_1 : ∀ M ∈ zProg_1, zco M ∈ zWs := zco_of (ps := [288, 292, 295, 299, 302, 307, 311, 315, 319, 323, 327, 331, 334, 337, 340, 343, 347, 351, 355, 359, 362, 365, 369, 373]) rfl
set_option maxRecDepth 100000 in
theorem zco_2 : ∀ M ∈ zProg_2, zco M ∈ zWs := zco_of (ps := [377, 384, 389, 393, 396, 400, 403, 409, 415, 418, 424, 428, 432, 436, 440, 444, 447, 451, 454, 461, 465, 468, 472, 476]) rfl
set_option maxRecDepth 100000 in
theorem zco_3 : ∀ M ∈ zProg_3, zco M ∈ zWs := zco_of (ps := [480, 484, 488, 492, 497, 501, 505, 509, 513, 517, 522, 526, 529, 533, 537, 540, 546, 551, 555, 559, 564, 568, 573, 579]) rfl
set_option maxRecDepth 100000 in
theorem zco_4 : ∀ M ∈ zProg_4, zco M ∈ zWs := zco_of (ps := [583, 588, 592, 596, 600, 604, 608, 613, 616, 620, 629, 633, 638, 641, 646, 650, 657, 661, 665, 669, 673, 677, 681, 685]) rfl
set_option maxRecDepth 100000 in
theorem zco_5 : ∀ M ∈ zProg_5, zco M ∈ zWs := zco_of (ps := [689, 693, 697, 703, 709, 808, 811, 815, 819, 823, 827, 831, 835, 839, 842, 846, 850, 854, 858, 862, 866, 870, 874, 877]) rfl
set_option maxRecDepth 100000 in
theorem zco_6 : ∀ M ∈ zProg_6, zco M ∈ zWs := zco_of (ps := [881, 885, 889, 893, 897, 900, 903, 906, 909, 912, 915, 918, 921, 925, 928, 931, 935, 938, 942, 946, 949, 953, 957, 961]) rfl
set_option maxRecDepth 100000 in
theorem zco_7 : ∀ M ∈ zProg_7, zco M ∈ zWs := zco_of (ps := [965, 969, 973, 977, 981, 985, 989, 992, 996, 1000, 1004, 1008, 1012, 1016, 1020, 1024, 1028, 1032, 1036, 1040, 1044, 1048, 1052, 1056]) rfl
set_option maxRecDepth 100000 in
theorem zco_8 : ∀ M ∈ (zProg_8.take 20), zco M ∈ zWs := zco_of (ps := [1060, 1064, 1068, 1072, 1076, 1080, 1085, 1089, 1093, 1100, 1104, 1108, 1112, 1116, 1120, 1123, 1127, 1131, 1135, 1139]) rfl
set_option maxRecDepth 100000 in
theorem zco_ok {mi : Nat} {M : zM} (h : zProg[mi]? = some M) (hm : mi < 212) : zco M ∈ zWs := by
  have h1 : M ∈ zProg.take 212 := by
    refine List.mem_of_getElem? (i := mi) ?_
    rw [List.getElem?_take_of_lt hm]
    exact h
  have e : zProg.take 212 = (zProg_0 ++ (zProg_1 ++ (zProg_2 ++ (zProg_3 ++ (zProg_4 ++ (zProg_5 ++ (zProg_6 ++ (zProg_7 ++ (zProg_8.take 20))))))))) := rfl
  rw [e] at h1
  simp only [List.mem_append] at h1
  rcases h1 with h1 | h1 | h1 | h1 | h1 | h1 | h1 | h1 | h1
  · exact zco_0 M h1
  · exact zco_1 M h1
  · exact zco_2 M h1
  · exact zco_3 M h1
  · exact zco_4 M h1
  · exact zco_5 M h1
  · exact zco_6 M h1
  · exact zco_7 M h1
  · exact zco_8 M h1
def zflP (x : Nat × Nat × Nat × Nat × Nat × Nat) : Bool := match x with
  | (key, ci, j, t, fin, p) => (match zCN[key / 1000]?, vwCl[ci]? with
    | some own, some q => decide (j < q.2.2) && (zat p (.fieldLink own (key % 1000) q.1 (q.2.1 j).2.1 (q.2.1 j).2.2.1) && (decide ((q.2.1 j).1 = q.1) && (decide ((q.2.1 j).2.2.2 = decide (fin = 1)) && (decide (fin = 0 ∨ fin = 1) && (decide (ci < 5) && decide ((zFK.getD ci []).getD j 2 = t ∧ parseFieldDescriptor (q.2.1 j).2.2.1 = some (if t = 0 then .int else if t = 1 then .long else ((parseFieldDescriptor (q.2.1 j).2.2.1).getD .int)) ∧ (t = 0 ∨ t = 1 ∨ (t = 2 ∧ ((parseFieldDescriptor (q.2.1 j).2.2.1).getD .int).isReference = true))))))))
    | _, _ => false)
set_option maxRecDepth 100000 in
theorem zfl_ok : zFL.all zflP = true := by decide +kernel
def zdv (t : Nat) : Value := if t = 0 then .int 0 else if t = 1 then .long 0 else .null
def zClP (ci : Nat) (q : vw_C) : Prop := ∃ ty : Nat → FieldType, (∀ w ∈ u_ws q.1 q.2.1 q.2.2, w ∈ zWs) ∧ (∀ k, k < q.2.2 → parseFieldDescriptor (q.2.1 k).2.2.1 = some (ty k)) ∧ (∀ a, a < q.2.2 → ∀ b, b < q.2.2 → a ≠ b → (q.2.1 a).2.1 ≠ (q.2.1 b).2.1) ∧ (zFK.getD ci []).length = q.2.2 ∧ (∀ j, j < q.2.2 → defaultValue (ty j) = zdv ((zFK.getD ci []).getD j 2)) ∧ Cond.instantiable q.1 q.2.2 ∈ zWs ∧ Cond.initialized q.1 ∈ zWs ∧ zCN[ci]? = some q.1
set_option maxRecDepth 100000 in
theorem zcl_0 : zClP 0 (RX0, TX0, 10) := ⟨tyX0, by decide +kernel, tyX0_ok, nmX0, by decide +kernel, by decide +kernel, by decide +kernel, by decide +kernel, by decide +kernel⟩
set_option maxRecDepth 100000 in
theorem zcl_1 : zClP 1 (RX1, TX1, 3) := ⟨tyX1, by decide +kernel, tyX1_ok, nmX1, by decide +kernel, by decide +kernel, by decide +kernel, by decide +kernel, by decide +kernel⟩
set_option maxRecDepth 100000 in
theorem zcl_2 : zClP 2 (RX2, TX2, 2) := ⟨tyX2, by decide +kernel, tyX2_ok, nmX2, by decide +kernel, by decide +kernel, by decide +kernel, by decide +kernel, by decide +kernel⟩
set_option maxRecDepth 100000 in
theorem zcl_3 : zClP 3 (RX4, TX4, 15) := ⟨tyX4, by decide +kernel, tyX4_ok, nmX4, by decide +kernel, by decide +kernel, by decide +kernel, by decide +kernel, by decide +kernel⟩
set_option maxRecDepth 100000 in
theorem zcl_4 : zClP 4 (RX5, TX5, 31) := ⟨tyX5, by decide +kernel, tyX5_ok, nmX5, by decide +kernel, by decide +kernel, by decide +kernel, by decide +kernel, by decide +kernel⟩
theorem zcl_ok {ci : Nat} {q : vw_C} (h : vwCl[ci]? = some q) : zClP ci q := by
  match ci, h with
  | 0, h => cases h; exact zcl_0
  | 1, h => cases h; exact zcl_1
  | 2, h => cases h; exact zcl_2
  | 3, h => cases h; exact zcl_3
  | 4, h => cases h; exact zcl_4
  | k + 5, h => simp [vwCl] at h
def zslP (x : Nat × Nat × Nat) : Bool := match x with
  | (key, k, p) => (match zCN[key / 1000]? with
    | some own => (if k = 1 then zat p (.fieldLink own (key % 1000) "CubeHops" "KIND_LETTERS" "[I") else decide (k = 2) && zat p (.fieldLink own (key % 1000) "CubeHops$Web" "LOWER_ENDS" "[I"))
    | none => false)
set_option maxRecDepth 100000 in
theorem zsl_ok : zSL.all zslP = true := by decide +kernel
def znlP (x : Nat × Nat × Nat) : Bool := match x with
  | (key, ci, p) => (match zCN[key / 1000]? with
    | some own => (if ci = 9 then zat p (.classLink own (key % 1000) "[[I") else (match vwCl[ci]? with
      | some q => zat p (.classLink own (key % 1000) q.1)
      | none => false))
    | none => false)
set_option maxRecDepth 100000 in
theorem znl_ok : zNL.all znlP = true := by decide +kernel
def zkiP (x : Nat × Int32 × Nat) : Bool := match x with
  | (key, v, p) => (match zCN[key / 1000]? with
    | some own => zat p (.constant own (key % 1000) v)
    | none => false)
set_option maxRecDepth 100000 in
theorem zki_ok : zKI.all zkiP = true := by decide +kernel
def zklP (x : Nat × Int64 × Nat) : Bool := match x with
  | (key, v, p) => (match zCN[key / 1000]? with
    | some own => zat p (.constantLong own (key % 1000) v)
    | none => false)
set_option maxRecDepth 100000 in
theorem zkl_ok : zKL.all zklP = true := by decide +kernel
set_option maxRecDepth 100000 in
theorem zmem_arr : Cond.arrayClass .int ∈ zWs ∧ Cond.native arraycopyName ∈ zWs ∧ Cond.static arraycopyName ∈ zWs ∧ Cond.initialized "java/lang/System" ∈ zWs ∧ Cond.instanceMethod Lib.objectInit ∈ zWs ∧ Cond.code Lib.objectInit ⟨#[0xb1]⟩ 1 none ∈ zWs ∧
  Cond.static Lib.Math.max.name ∈ zWs ∧ Cond.static Lib.Math.min.name ∈ zWs ∧ Cond.initialized "java/lang/Math" ∈ zWs ∧ Cond.code Lib.Math.max.name Lib.Math.max.code 2 (some .int) ∈ zWs ∧ Cond.code Lib.Math.min.name Lib.Math.min.code 2 (some .int) ∈ zWs := by decide +kernel
set_option maxRecDepth 100000 in
theorem zmem_over : Cond.arrayOver (.object "CubeHops$Strip") ∈ lw_tbl ∧ Cond.arrayOver (.array .int) ∈ lw_tbl := by decide +kernel
end
section
/-! what a state of the machine in small says of the machine's own -/
abbrev zZ : Type := va_G × (ClassId × ClassId × ClassId) × (Nat × Nat × Nat × Nat) × Nat × (Nat → Int32)
def zadr (Z : zZ) (k : Nat) : Nat := if k = 0 then Z.2.2.1.2.1 else if k = 1 then Z.2.2.1.2.2.1 else if k = 2 then Z.2.2.1.2.2.2 else Z.2.2.1.1 + (k - 3)
def zcv (Z : zZ) : Value → Value
  | .ref k => .ref (zadr Z k)
  | v => v
theorem zcv_cat (Z : zZ) (v : Value) : (zcv Z v).category = v.category := by cases v <;> rfl
def zA (Z : zZ) : Nat → Prop := fun q => Z.2.2.1.1 ≤ q
def zfv (Z : zZ) (S : zS) (k ci : Nat) (rs : List (Option Nat)) (j : Nat) : Value := match (zFK.getD ci []).getD j 2 with
  | 0 => .int (S.2.1 k j)
  | 1 => .long (S.2.2 k j)
  | _ => va_rf ((rs.getD j none).map (zadr Z))
def zcell (Z : zZ) (S : zS) (k : Nat) (e : zE) : va_E := match e with
  | .inl n => .inl (Z.2.1.1, n, .inl (S.2.1 k))
  | .inr (.inl (t, rs)) => .inl (if t = 0 then Z.2.1.2.1 else Z.2.1.2.2, rs.length, .inr (.inr (.inr (.inr (fun i => (rs.getD i none).map (zadr Z))))))
  | .inr (.inr (ci, rs)) => .inr (ci, (List.range rs.length).map (zfv Z S k ci rs))
def zP (Z : zZ) (S : zS) (H : Heap) : Prop := ∀ (k : Nat) (e : zE), 3 ≤ k → S.1[k]? = some e → va_at Z.1 vwCl (zadr Z k, zcell Z S k e) H
theorem zadr3 {Z : zZ} {k : Nat} (h : 3 ≤ k) : zadr Z k = Z.2.2.1.1 + (k - 3) := by
  unfold zadr
  rw [if_neg (by omega), if_neg (by omega), if_neg (by omega)]
theorem zadr_ne {Z : zZ} {k k' : Nat} (h : 3 ≤ k) (h' : 3 ≤ k') (hn : k' ≠ k) : zadr Z k' ≠ zadr Z k := by
  rw [zadr3 h, zadr3 h']; omega
theorem zP_set {Z : zZ} {S S' : zS} {H H' : Heap} {k : Nat} {e e' : zE} (hP : zP Z S H) (h3 : 3 ≤ k) (he : S.1[k]? = some e) (h1 : S'.1 = S.1.set k e') (ho : ∀ (k' : Nat) (e : zE), k' ≠ k → zcell Z S' k' e = zcell Z S k' e)
    (ha : va_at Z.1 vwCl (zadr Z k, zcell Z S' k e') H') (oq : ∀ q : Nat, q ≠ zadr Z k → H'[q]? = H[q]?) : zP Z S' H' := by
  intro k' x h3' hx
  rw [h1] at hx
  by_cases hk : k' = k
  · subst hk
    have hl := (List.getElem?_eq_some_iff.mp he).1
    rw [List.getElem?_set_self hl] at hx
    cases hx
    exact ha
  · rw [List.getElem?_set_ne (fun q => hk q.symm)] at hx
    rw [ho k' x hk]
    exact (hP k' x h3' hx).kept (oq _ (zadr_ne h3 h3' hk))
theorem zP_push {Z : zZ} {S S' : zS} {H H' : Heap} {e' : zE} (hP : zP Z S H) (h1 : S'.1 = S.1 ++ [e']) (ho : ∀ (k' : Nat) (e : zE), k' < S.1.length → zcell Z S' k' e = zcell Z S k' e)
    (ha : va_at Z.1 vwCl (zadr Z S.1.length, zcell Z S' S.1.length e') H') (oq : ∀ q : Nat, q < H.size → H'[q]? = H[q]?) : zP Z S' H' := by
  intro k' x h3' hx
  rw [h1] at hx
  by_cases hk : k' < S.1.length
  · rw [List.getElem?_append_left hk] at hx
    rw [ho k' x hk]
    exact (hP k' x h3' hx).kept (oq _ (hP k' x h3' hx).lt)
  · have hl := (List.getElem?_eq_some_iff.mp hx).1
    simp only [List.length_append, List.length_cons, List.length_nil] at hl
    have e : k' = S.1.length := by omega
    subst e
    rw [List.getElem?_append_right (Nat.le_refl _), Nat.sub_self] at hx
    cases hx
    exact ha
/-- the constants of the tables -/
def zKL6 (j : Nat) : Int32 := ([108, 104, 122, 100, 112, 115] : List Int32).getD j 0
def zLE4 (j : Nat) : Int32 := ([21845, 13107, 3855, 255] : List Int32).getD j 0
/-- cells 0, 1, 2; the script may be hidden (an object of no class) -/
def zI0 (Z : zZ) (S : zS) : Prop := 3 ≤ S.1.length ∧ ((S.1[0]? = some (.inl Z.2.2.2.1) ∧ ∀ j, j < Z.2.2.2.1 → S.2.1 0 j = Z.2.2.2.2 j) ∨ S.1[0]? = some (.inr (.inr (99, [])))) ∧ S.1[1]? = some (.inl 6) ∧ S.1[2]? = some (.inl 4) ∧ (∀ j, j < 6 → S.2.1 1 j = zKL6 j) ∧ (∀ j, j < 4 → S.2.1 2 j = zLE4 j)
def zH (Z : zZ) (S : zS) (H : Heap) : Prop := zP Z S H ∧ H.size = Z.2.2.1.1 + (S.1.length - 3) ∧ zI0 Z S
def ztys (Z : zZ) : List (ClassId × FieldType) := [(Z.2.1.1, .int), (Z.2.1.2.1, .object "CubeHops$Strip"), (Z.2.1.2.2, .array .int)]
def zAOA (U : State) : Prop := (Cond.arrayOver (.array .int)).before #[] U = true
def zU (Z : zZ) (U : State) : Prop := va_K Z.1 vwCl (ztys Z) U ∧ va_T .int (zadr Z 0) Z.2.2.2.1 (fun j => .int (Z.2.2.2.2 j)) (zA Z) U U.heap ∧ va_T .int (zadr Z 1) 6 (fun j => .int (zKL6 j)) (zA Z) U U.heap ∧ va_T .int (zadr Z 2) 4 (fun j => .int (zLE4 j)) (zA Z) U U.heap ∧
  va_Z "CubeHops" "KIND_LETTERS" "[I" (.ref (zadr Z 1)) (zA Z) U U.heap ∧ va_Z "CubeHops$Web" "LOWER_ENDS" "[I" (.ref (zadr Z 2)) (zA Z) U U.heap ∧ Z.2.2.1.1 ≤ U.heap.size ∧ va_AO "CubeHops$Strip" U ∧ zAOA U ∧ (∀ w ∈ zNests, va_Nw w U) ∧ Z.2.2.2.1 ≤ 3072
theorem zaoa_spec {U : State} (h : zAOA U) : ∃ comp c k, U.vm.findClass (FieldType.array .int).toString = some comp ∧ (U.vm.classes.findIdx? fun (x : Class) => match x.kind with | .array component _ => component == comp | _ => false) = some c ∧ U.vm.classes[c]? = some k ∧ k.kind = .array comp (.array .int) ∧ U.vm.findClass ("[" ++ (FieldType.array .int).toString) = some c := by
  unfold zAOA Cond.before at h
  simp only [Cond.holds, Cond.value, beq_iff_eq] at h
  cases hc : U.vm.findClass (FieldType.array .int).toString with
  | none => simp [hc] at h
  | some comp =>
    simp only [hc, Option.bind_some, Option.bind_eq_some_iff, Option.map_eq_some_iff] at h
    obtain ⟨c, hi, k, hk, hb⟩ := h
    obtain ⟨hlt, hp, -⟩ := Array.findIdx?_eq_some_iff_getElem.mp hi
    have hkk : U.vm.classes[c] = k := (Array.getElem?_eq_some_iff.mp hk).2
    rw [hkk] at hp
    cases hkind : k.kind with
    | array component ty =>
      rw [hkind] at hb hp
      simp at hb hp
      exact ⟨comp, c, k, rfl, hi, hk, by rw [hkind, hp, hb.1], hb.2⟩
    | _ => rw [hkind] at hb; simp at hb
theorem zaoa_moved {u U : State} (hvm : u.vm.Alike U.vm) (h : zAOA u) : zAOA U := by
  obtain ⟨comp, c, k, h1, h2, h3, h4, h5⟩ := zaoa_spec h
  obtain ⟨k', hk', he⟩ := hvm.2.2 _ _ h3
  have hi : (U.vm.classes.findIdx? fun (x : Class) => match x.kind with | .array component _ => component == comp | _ => false) = some c := by
    refine (va_idx_bare U.vm comp).symm.trans ?_
    first | rw [hvm.bare_eq] | rw [← hvm.bare_eq]
    exact (va_idx_bare u.vm comp).trans h2
  have hkind : k'.kind = .array comp (.array .int) := by rw [he]; exact h4
  have f1 : U.vm.findClass (FieldType.array .int).toString = some comp := by rw [hvm.findClass]; exact h1
  have f2 : U.vm.findClass ("[" ++ (FieldType.array .int).toString) = some c := by rw [hvm.findClass]; exact h5
  unfold zAOA Cond.before Cond.holds
  simp only [Cond.value]
  rw [f1, Option.bind_some]
  refine (congrArg (fun o : Option Nat => (o.bind (fun c => (U.vm.classes[c]?).map fun (k : Class) => match k.kind with | .array _ ty => decide (ty = FieldType.array .int) && decide (U.vm.findClass ("[" ++ (FieldType.array .int).toString) = some c) | _ => false) == some true)) hi).trans ?_
  simp [hk', hkind, f2]
theorem zU_moved {Z : zZ} {s U : State} (h : zU Z s) (hW : s.WarmedH U.vm) {H : Heap} {locs : List Loc} (hS : va_S (zA Z) s.heap H locs) (hU : U.heap = H) : zU Z U := by
  obtain ⟨h1, h2, h3, h4, h5, h6, h7, h8, h9, h10, h11⟩ := h
  have kp : ∀ a : Nat, a < s.heap.size → ¬ zA Z a → U.heap[a]? = s.heap[a]? := fun a g1 g2 => by rw [hU]; exact hS.2.1 a g1 g2
  refine ⟨va_K.moved hW.alike h1, va_T.moved hW.alike (h2.kept kp), va_T.moved hW.alike (h3.kept kp), va_T.moved hW.alike (h4.kept kp), va_Z.moved hW.alike (h5.kept kp), va_Z.moved hW.alike (h6.kept kp), by rw [hU]; exact Nat.le_trans h7 hS.1, va_AO.moved hW.alike h8, zaoa_moved hW.alike h9, fun w hw => ?_, h11⟩
  have hz := h10 w hw
  have hm := (List.mem_filter.mp hw).2
  cases w <;> first | exact va_Nw.warmM hW hz | (simp at hm; done)
def zas (Z : zZ) (lo : List Value) : List (Nat × Value) := (List.range lo.length).filterMap (fun i => match (lo[i]? : Option Value) with
  | some Value.null => none
  | some v => some (i, zcv Z v)
  | none => none)
theorem zas_mem {Z : zZ} {lo : List Value} {q : Nat × Value} : q ∈ zas Z lo ↔ ∃ v, lo[q.1]? = some v ∧ v ≠ .null ∧ q.2 = zcv Z v := by
  unfold zas
  rw [List.mem_filterMap]
  constructor
  · rintro ⟨i, hi, h⟩
    split at h
    · cases h
    · next v hv hne =>
      cases h
      exact ⟨v, hne, fun e => hv e, rfl⟩
    · cases h
  · rintro ⟨v, h1, h2, h3⟩
    refine ⟨q.1, List.mem_range.mpr (List.getElem?_eq_some_iff.mp h1).1, ?_⟩
    rw [h1]
    obtain ⟨a, b⟩ := q
    cases v <;> first | exact absurd rfl h2 | (subst h3; rfl)
def zL (Z : zZ) (ls : Array Slot) (n : Nat) (lo : List Value) : Prop := lo.length = n ∧ lv_has ls n (zas Z lo)
theorem zL_at {Z : zZ} {ls : Array Slot} {n i : Nat} {lo : List Value} {v : Value} (h : zL Z ls n lo) (hv : lo[i]? = some v) (hn : v ≠ .null) : ls[i]? = some (.val (zcv Z v)) := h.2.2.2 (i, zcv Z v) (zas_mem.mpr ⟨v, hv, hn, rfl⟩)
theorem zcl_len (lo : List Value) (i : Nat) : (zcl lo i).length = lo.length := by
  cases i with
  | zero => rfl
  | succ j => simp only [zcl]; split <;> simp
theorem zcl_get {lo : List Value} {i j : Nat} {v : Value} (h : (zcl lo i)[j]? = some v) (hn : v ≠ .null) : lo[j]? = some v ∧ (j + 1 = i → ¬ v.category = 2) := by
  cases i with
  | zero => exact ⟨h, fun e => by omega⟩
  | succ k =>
    simp only [zcl] at h
    split at h
    · next hc =>
      by_cases hk : k = j
      · subst hk
        have hl := (List.getElem?_eq_some_iff.mp h).1
        rw [List.length_set] at hl
        rw [List.getElem?_set_self hl] at h
        cases h
        exact absurd rfl hn
      · rw [List.getElem?_set_ne hk] at h
        exact ⟨h, fun e => by omega⟩
    · next hc =>
      refine ⟨h, fun e => ?_⟩
      have : k = j := by omega
      subst this
      rw [List.getD_eq_getElem?_getD, h] at hc
      exact hc
theorem zL_st1 {Z : zZ} {ls ls' : Array Slot} {n i : Nat} {lo : List Value} {v : Value} (h : zL Z ls n lo) (h2 : lv_has ls' n ((i, zcv Z v) :: (zas Z lo).filter (fun q => !(q.1 == i) && !(q.1 + 1 == i && q.2.category == 2)))) : zL Z ls' n (zst1 lo i v) := by
  refine ⟨by unfold zst1; rw [List.length_set, zcl_len]; exact h.1, h2.1, h2.2.1, fun q hq => ?_⟩
  obtain ⟨w, h3, h4, h5⟩ := zas_mem.mp hq
  obtain ⟨a, b⟩ := q
  dsimp only at h3 h5
  subst h5
  unfold zst1 at h3
  by_cases e : i = a
  · subst e
    have hl := (List.getElem?_eq_some_iff.mp h3).1
    rw [List.length_set] at hl
    rw [List.getElem?_set_self hl] at h3
    cases h3
    exact h2.2.2 _ List.mem_cons_self
  · rw [List.getElem?_set_ne e] at h3
    obtain ⟨g1, g2⟩ := zcl_get h3 h4
    refine h2.2.2 _ (List.mem_cons_of_mem _ (List.mem_filter.mpr ⟨zas_mem.mpr ⟨w, g1, h4, rfl⟩, ?_⟩))
    have e' : ¬ a = i := fun q => e q.symm
    simp only [zcv_cat, Bool.and_eq_true, Bool.not_eq_true', beq_eq_false_iff_ne, ne_eq, Bool.and_eq_false_iff]
    refine ⟨e', ?_⟩
    by_cases e2 : a + 1 = i
    · exact Or.inr (g2 e2)
    · exact Or.inl e2
theorem zL_st2 {Z : zZ} {ls ls' : Array Slot} {n i : Nat} {lo : List Value} {v : Value} (h : zL Z ls n lo) (h2 : lv_has ls' n ((i, zcv Z v) :: (zas Z lo).filter (fun q => !(q.1 == i) && (!(q.1 == i + 1) && !(q.1 + 1 == i && q.2.category == 2))))) : zL Z ls' n (zst2 lo i v) := by
  refine ⟨by unfold zst2; rw [List.length_set, List.length_set, zcl_len]; exact h.1, h2.1, h2.2.1, fun q hq => ?_⟩
  obtain ⟨w, h3, h4, h5⟩ := zas_mem.mp hq
  obtain ⟨a, b⟩ := q
  dsimp only at h3 h5
  subst h5
  unfold zst2 at h3
  by_cases e1 : i + 1 = a
  · subst e1
    have hl := (List.getElem?_eq_some_iff.mp h3).1
    rw [List.length_set] at hl
    rw [List.getElem?_set_self hl] at h3
    cases h3
    exact absurd rfl h4
  rw [List.getElem?_set_ne e1] at h3
  by_cases e : i = a
  · subst e
    have hl := (List.getElem?_eq_some_iff.mp h3).1
    rw [List.length_set] at hl
    rw [List.getElem?_set_self hl] at h3
    cases h3
    exact h2.2.2 _ List.mem_cons_self
  · rw [List.getElem?_set_ne e] at h3
    obtain ⟨g1, g2⟩ := zcl_get h3 h4
    refine h2.2.2 _ (List.mem_cons_of_mem _ (List.mem_filter.mpr ⟨zas_mem.mpr ⟨w, g1, h4, rfl⟩, ?_⟩))
    have e' : ¬ a = i := fun q => e q.symm
    have e1' : ¬ a = i + 1 := fun q => e1 q.symm
    simp only [zcv_cat, Bool.and_eq_true, Bool.not_eq_true', beq_eq_false_iff_ne, ne_eq, Bool.and_eq_false_iff]
    refine ⟨e', e1', ?_⟩
    by_cases e2 : a + 1 = i
    · exact Or.inr (g2 e2)
    · exact Or.inl e2
theorem zplace_args (Z : zZ) : ∀ (as : List Value) (o i : Nat) (v : Value), (zplace as)[i]? = some v → v ≠ .null → (o + i, zcv Z v) ∈ lv_args o (as.map (zcv Z))
  | [], o, i, v, h, _ => by simp [zplace] at h
  | a :: as, o, i, v, h, hn => by
    unfold zplace at h
    rw [List.map_cons]
    unfold lv_args
    by_cases hc : a.category = 2
    · rw [if_pos hc] at h
      rw [zcv_cat, if_pos hc]
      match i, h with
      | 0, h => cases h; exact List.mem_cons_self
      | 1, h => cases h; exact absurd rfl hn
      | i + 2, h =>
        have := zplace_args Z as (o + 2) i v h hn
        rw [show o + (i + 2) = o + 2 + i by omega]
        exact List.mem_cons_of_mem _ this
    · rw [if_neg hc] at h
      rw [zcv_cat, if_neg hc]
      match i, h with
      | 0, h => cases h; exact List.mem_cons_self
      | i + 1, h =>
        have := zplace_args Z as (o + 1) i v h hn
        rw [show o + (i + 1) = o + 1 + i by omega]
        exact List.mem_cons_of_mem _ this
theorem zplace_len (Z : zZ) : ∀ as : List Value, (lg_sl (as.map (zcv Z))).length = (zplace as).length
  | [] => rfl
  | a :: as => by
    have ih := zplace_len Z as
    unfold lg_sl at ih ⊢
    rw [List.map_cons, List.flatMap_cons, List.length_append, ih, zcv_cat]
    rw [zplace]
    by_cases hc : a.category = 2
    · rw [if_pos hc, if_pos hc]; simp only [List.length_cons, List.length_nil]; omega
    · rw [if_neg hc, if_neg hc]; simp only [List.length_cons, List.length_nil]; omega
theorem zL_ent {Z : zZ} {n : Nat} {as : List Value} {ls : Array Slot} (h : lv_has ls n (lv_args 0 (as.map (zcv Z)))) (hl : (zplace as).length ≤ n) : zL Z ls n (zent n as) := by
  refine ⟨by unfold zent; simp; omega, h.1, h.2.1, fun q hq => ?_⟩
  obtain ⟨w, h3, h4, h5⟩ := zas_mem.mp hq
  obtain ⟨a, b⟩ := q
  dsimp only at h3 h5
  subst h5
  unfold zent at h3
  by_cases ha : a < (zplace as).length
  · rw [List.getElem?_append_left ha] at h3
    have := zplace_args Z as 0 a w h3 h4
    rw [Nat.zero_add] at this
    exact h.2.2 _ this
  · rw [List.getElem?_append_right (by omega), List.getElem?_replicate] at h3
    split at h3
    · cases h3; exact absurd rfl h4
    · cases h3
end
section
section ZSOUND
variable {p : Program} {l : Launch} {e : Env} {R : Room} {s : State} {m : MethodId} {args : Array Value} {below : List Frame} {meth : Method} {c : Code} {H : Heap} {locs : List Loc} {cells slots : Nat} {Q : State → Prop} {Z : zZ} {M : zM} {d : Nat} {ls : Array Slot}
/-- what stands fast while a method runs -/
def zC (Z : zZ) (M : zM) (p : Program) (R : Room) (s : State) (m : MethodId) (args : Array Value) (meth : Method) (c : Code) (d : Nat) : Prop :=
  p.tables.exec = Jvm.exec ∧ c.code = M.2.1 ∧ c.maxLocals = M.2.2.1 ∧ s.vm.findClass M.1.cls = some m.cls ∧ (∀ w ∈ zWs, w.before args s = true) ∧ (M.1.name = "<init>" → meth.name = "<init>") ∧ zU Z s ∧ d + 1 ≤ R.frames ∧ 64 * (d + 1) ≤ R.locals ∧ zCN[M.2.2.2.2.1]? = some M.1.cls ∧ M.2.2.2.2.1 < 10
/-- and what goes with the state -/
def zT (Z : zZ) (s : State) (M : zM) (S : zS) (H : Heap) (locs : List Loc) (ls : Array Slot) (lo : List Value) : Prop := zH Z S H ∧ va_S (zA Z) s.heap H locs ∧ zL Z ls M.2.2.1 lo
theorem zkey {M : zM} {own own' : String} {idx : Nat} (h : zCN[M.2.2.2.2.1]? = some own) (h2 : zCN[zky M idx / 1000]? = some own') : own' = own ∧ zky M idx % 1000 = idx := by
  unfold zky at h2 ⊢
  by_cases hi : idx < 1000
  · rw [if_pos hi] at h2 ⊢
    rw [show (1000 * M.2.2.2.2.1 + idx) / 1000 = M.2.2.2.2.1 by omega] at h2
    exact ⟨Option.some.inj (h2.symm.trans h), by omega⟩
  · rw [if_neg hi] at h2
    have e : zCN[999999 / 1000]? = none := by decide +kernel
    rw [e] at h2
    cases h2
theorem zP1 {D : va_G} {cl : List vw_C} {x : Nat × va_E} {H : Heap} (h : va_at D cl x H) : va_P D cl [x] H := fun k q hq => by
  have hz : k < 1 := (List.getElem?_eq_some_iff.mp hq).1
  rw [show k = 0 by omega] at hq
  cases hq
  exact h
theorem zcell_congr {Z : zZ} {S S' : zS} {k : Nat} (h1 : ∀ j, S'.2.1 k j = S.2.1 k j) (h2 : ∀ j, S'.2.2 k j = S.2.2 k j) (e : zE) : zcell Z S' k e = zcell Z S k e := by
  unfold zcell
  split
  · rw [show S'.2.1 k = S.2.1 k from funext h1]
  · rfl
  · congr 2
    apply List.map_congr_left
    intro j _
    unfold zfv
    rw [h1, h2]
theorem zmap_set {n j : Nat} {f g : Nat → Value} {v : Value} (hv : g j = v) (ho : ∀ i, i ≠ j → g i = f i) : ((List.range n).map f).set j v = (List.range n).map g := by
  apply List.ext_getElem?
  intro i
  by_cases hi : i < n
  · by_cases e : j = i
    · subst e
      rw [List.getElem?_set_self (by simpa using hi), List.getElem?_map, List.getElem?_range hi, ← hv]
      rfl
    · rw [List.getElem?_set_ne e, List.getElem?_map, List.getElem?_map, List.getElem?_range hi]
      simp only [Option.map_some]
      rw [ho i (fun q => e q.symm)]
  · rw [List.getElem?_eq_none (by simp; omega), List.getElem?_eq_none (by simp; omega)]
theorem zI0_k3 {Z : zZ} {S : zS} {k : Nat} {x : (Nat × List (Option Nat)) ⊕ (Nat × List (Option Nat))} (h : zI0 Z S) (he : S.1[k]? = some (.inr x)) (hx : x ≠ .inr (99, [])) : 3 ≤ k := by
  obtain ⟨-, h0, h1, h2, -⟩ := h
  rcases Nat.lt_or_ge k 3 with hk | hk
  · rcases (show k = 0 ∨ k = 1 ∨ k = 2 by omega) with rfl | rfl | rfl
    · rcases h0 with ⟨h0, -⟩ | h0
      · rw [h0] at he; cases he
      · rw [h0] at he; cases he; exact absurd rfl hx
    · rw [h1] at he; cases he
    · rw [h2] at he; cases he
  · exact hk
theorem zI0_ci {ci : Nat} {rs : List (Option Nat)} (h : ci < 5) : (Sum.inr (ci, rs) : (Nat × List (Option Nat)) ⊕ (Nat × List (Option Nat))) ≠ .inr (99, []) := by
  intro e
  cases e
  omega
theorem zI0_of {Z : zZ} {S S' : zS} (h : zI0 Z S) (hl : S.1.length ≤ S'.1.length) (h1 : ∀ k, k < 3 → S'.1[k]? = S.1[k]?) (h2 : ∀ k j, k < 3 → S'.2.1 k j = S.2.1 k j) : zI0 Z S' := by
  obtain ⟨a, b0, b1, b2, c1, c2⟩ := h
  refine ⟨Nat.le_trans a hl, ?_, by rw [h1 1 (by omega)]; exact b1, by rw [h1 2 (by omega)]; exact b2, fun j hj => by rw [h2 1 j (by omega)]; exact c1 j hj, fun j hj => by rw [h2 2 j (by omega)]; exact c2 j hj⟩
  rcases b0 with ⟨b0, c0⟩ | b0
  · exact Or.inl ⟨by rw [h1 0 (by omega)]; exact b0, fun j hj => by rw [h2 0 j (by omega)]; exact c0 j hj⟩
  · exact Or.inr (by rw [h1 0 (by omega)]; exact b0)
theorem zfl_use {M : zM} {own : String} {idx ci j t fin pp : Nat} (h : zFL.lookup (zky M idx) = some (ci, j, t, fin, pp)) (ho : zCN[M.2.2.2.2.1]? = some own) :
    ∃ q : vw_C, vwCl[ci]? = some q ∧ j < q.2.2 ∧ Cond.fieldLink own idx q.1 (q.2.1 j).2.1 (q.2.1 j).2.2.1 ∈ zWs ∧ (q.2.1 j).1 = q.1 ∧ (q.2.1 j).2.2.2 = decide (fin = 1) ∧ (fin = 0 ∨ fin = 1) ∧ ci < 5 ∧ (zFK.getD ci []).getD j 2 = t ∧ parseFieldDescriptor (q.2.1 j).2.2.1 = some (if t = 0 then .int else if t = 1 then .long else ((parseFieldDescriptor (q.2.1 j).2.2.1).getD .int)) ∧ (t = 0 ∨ t = 1 ∨ (t = 2 ∧ ((parseFieldDescriptor (q.2.1 j).2.2.1).getD .int).isReference = true)) := by
  have hf := zall zfl_ok h
  unfold zflP at hf
  dsimp only at hf
  split at hf
  · next own' q h1 h2 =>
    obtain ⟨e1, e2⟩ := zkey ho h1
    rw [e1, e2] at hf
    simp only [Bool.and_eq_true, decide_eq_true_eq] at hf
    obtain ⟨g1, g2, g3, g4, g5, g6, g7, g8, g9⟩ := hf
    exact ⟨q, h2, g1, zat_mem g2, g3, g4, g5, g6, g7, g8, g9⟩
  · cases hf
theorem zput1 {cc : ByteArray} {pc : Nat} {rest : List Value} {D : va_G} {cl : List vw_C} {A : Nat → Prop} {a : Nat} {tys : List (ClassId × FieldType)} {H0 : Heap} (hexec : p.tables.exec = Jvm.exec) (hb : c.code = cc) {own ref C : String} {T : u_T} {N ci index : Nat} {Ts : List Cond} (hts : ∀ w ∈ Ts, w.before args s = true) (hin : ∀ w ∈ u_ws C T N, w ∈ Ts) (ty0 : Nat → FieldType) (hty : ∀ k, k < N → parseFieldDescriptor (T k).2.2.1 = some (ty0 k)) (hnm : ∀ a, a < N → ∀ b, b < N → a ≠ b → (T a).2.1 ≠ (T b).2.1) (hown : s.vm.findClass own = some m.cls) (hK : va_K D cl tys s) (hS0 : va_S A H0 H locs) (haA : A a) {fs : List Value} (he : va_at D cl (a, .inr (ci, fs)) H) (hc : cl[ci]? = some (C, T, N)) (k : Nat) (hk : k < N) (hlink : (Cond.fieldLink own index ref (T k).2.1 (T k).2.2.1).before args s = true) (hsame : ∀ x, s.fieldFound? (T k).1 (T k).2.1 (T k).2.2.1 = some x → s.fieldFound? ref (T k).2.1 (T k).2.2.1 = some x) (hfin : (T k).2.2.2 = false ∨ ((T k).2.2.2 = true ∧ meth.name = "<init>" ∧ (T k).1 = own)) {ty : FieldType} {v : Value} (hd : parseFieldDescriptor (T k).2.2.1 = some ty) (hn : narrow ty v = v) (hfit : fits ty v = true) (hl : k < fs.length)
    (hdg : decode cc pc = .ok (.putfield index, 3)) (kk : ∀ (H1 : Heap) (locs1 : List Loc), va_at D cl (a, .inr (ci, fs.set k v)) H1 → H1.size = H.size → (∀ q : Nat, q ≠ a → H1[q]? = H[q]?) → va_S A H0 H1 locs1 → W p l e R s m args below meth c H1 locs1 cells slots Q (F0 m (pc + 3) ls rest)) : W p l e R s m args below meth c H locs cells slots Q (F0 m pc ls (v :: .ref a :: rest)) := by
  have hap := va_apart (own := own) hts hin ty0 hty hnm hK hc
  obtain ⟨r, h1, cell, q1, q2, q3, q4⟩ := he
  have hr : r = (C, T, N) := Option.some.inj (h1.symm.trans hc)
  subst hr
  obtain ⟨hS, hfc, kC, hkC, hkind⟩ := hK.1 ci _ hc
  obtain ⟨cf, kf, fi, f, hi, hsl⟩ := hS k hk
  have hlay := hts _ (hin _ (u_in_lay hk))
  unfold u_lay at hlay
  have hst := (u_facts hfc hkC (u_lays hts hin hk) hi).1
  rcases hfin with hfin | ⟨hfin, hin2, hdecl⟩
  · rw [if_neg (by rw [hfin]; decide)] at hlay
    have h6 := u_store hfc hkC hkind hlay hi hd hn hfit
    refine W.putK hexec hb (f := f) ⟨hown, hlink, ⟨_, _, _, hsame _ hi⟩, hst⟩ (by rw [q2]; exact h6) q1 q3 (by rw [hsl]; exact k2_hasslot (q4 k hk)) rfl rfl hdg fun H' e1 e2 e3 => ?_
    rw [hsl] at e1 ⊢
    exact kk H' _ ⟨_, hc, t_OB.to (V := updV (vp_V fs) k v) ⟨_, e1, q2, q3, t_set q4 hap hk v⟩ (fun j _ => vp_updV_set hl v j)⟩ e2 e3 (hS0.put e2 e3 haA)
  · rw [if_pos hfin] at hlay
    have hcf : m.cls = cf := by
      obtain ⟨_, _, c', _, _, _, -, -, hf', -, -, -, hown2, -⟩ := Cond.laysFinal_spec hlay
      have e1 : c' = cf := by have := hi.symm.trans hf'; simp at this; exact this.1.symm
      rw [hdecl] at hown2
      rw [← e1]; exact Option.some.inj (hown.symm.trans hown2)
    have h6 := u_fits hfc hkC hkind (Or.inr hlay) hi hd hn hfit
    refine W.putFinK hexec hb hown hlink (hsame _ hi) hst hcf hin2 (by rw [q2]; exact h6) q1 q3 (by rw [hsl]; exact k2_hasslot (q4 k hk)) rfl rfl hdg fun H' e1 e2 e3 => ?_
    rw [hsl] at e1 ⊢
    exact kk H' _ ⟨_, hc, t_OB.to (V := updV (vp_V fs) k v) ⟨_, e1, q2, q3, t_set q4 hap hk v⟩ (fun j _ => vp_updV_set hl v j)⟩ e2 e3 (hS0.put e2 e3 haA)
/-- the next state's world, behind a write at a cell -/
theorem zT_put {S S' : zS} {H' : Heap} {locs' : List Loc} {k : Nat} {x x' : zE} {lo lo' : List Value} {ls' : Array Slot} (hT : zT Z s M S H locs ls lo) (h3 : 3 ≤ k) (he : S.1[k]? = some x) (h1 : S'.1 = S.1.set k x') (hI : ∀ (k' j : Nat), k' ≠ k → S'.2.1 k' j = S.2.1 k' j) (hL : ∀ (k' j : Nat), k' ≠ k → S'.2.2 k' j = S.2.2 k' j)
    (ha : va_at Z.1 vwCl (zadr Z k, zcell Z S' k x') H') (hz : H'.size = H.size) (oq : ∀ q : Nat, q ≠ zadr Z k → H'[q]? = H[q]?) (hS : va_S (zA Z) s.heap H' locs') (hl : zL Z ls' M.2.2.1 lo') : zT Z s M S' H' locs' ls' lo' := by
  obtain ⟨⟨hP, hs, h0⟩, -, -⟩ := hT
  refine ⟨⟨zP_set hP h3 he h1 (fun k' y hk => zcell_congr (fun j => hI k' j hk) (fun j => hL k' j hk) y) ha oq, by rw [hz, h1, List.length_set]; exact hs, zI0_of h0 (by rw [h1, List.length_set]; exact Nat.le_refl _) (fun k' hk => by rw [h1, List.getElem?_set_ne (by omega)]) (fun k' j hk => hI k' j (by omega))⟩, hS, hl⟩
theorem zT_push {S S' : zS} {H' : Heap} {x' : zE} {lo lo' : List Value} {ls' : Array Slot} (hT : zT Z s M S H locs ls lo) (h1 : S'.1 = S.1 ++ [x']) (hI : ∀ (k' j : Nat), k' < S.1.length → S'.2.1 k' j = S.2.1 k' j) (hL : ∀ (k' j : Nat), k' < S.1.length → S'.2.2 k' j = S.2.2 k' j)
    (ha : va_at Z.1 vwCl (H.size, zcell Z S' S.1.length x') H') (hz : H'.size = H.size + 1) (oq : ∀ q : Nat, q < H.size → H'[q]? = H[q]?) (hl : zL Z ls' M.2.2.1 lo') : zT Z s M S' H' locs ls' lo' := by
  obtain ⟨⟨hP, hs, h0⟩, hS, -⟩ := hT
  have h3 : 3 ≤ S.1.length := h0.1
  have e : zadr Z S.1.length = H.size := by rw [zadr3 h3, hs]
  refine ⟨⟨zP_push hP h1 (fun k' y hk => zcell_congr (fun j => hI k' j hk) (fun j => hL k' j hk) y) (by rw [e]; exact ha) oq, by rw [hz, h1, List.length_append, hs]; simp only [List.length_cons, List.length_nil]; omega, zI0_of h0 (by rw [h1, List.length_append]; omega) (fun k' hk => by rw [h1, List.getElem?_append_left (by omega)]) (fun k' j hk => hI k' j (by omega))⟩, ⟨by rw [hz]; exact Nat.le_trans hS.1 (by omega), fun q h4 h5 => by rw [oq q (Nat.lt_of_lt_of_le h4 hS.1)]; exact hS.2.1 q h4 h5, hS.2.2⟩, hl⟩
theorem zA_adr {k : Nat} (h : 3 ≤ k) : zA Z (zadr Z k) := by
  unfold zA
  rw [zadr3 h]
  omega
end ZSOUND
end
section
section ZSTEP
variable {p : Program} {l : Launch} {e : Env} {R : Room} {s : State} {m : MethodId} {args : Array Value} {below : List Frame} {meth : Method} {c : Code} {H : Heap} {locs : List Loc} {cells slots : Nat} {Q : State → Prop} {Z : zZ} {M : zM} {d : Nat} {ls : Array Slot}
variable {len pc pc' : Nat} {lo lo' st st' : List Value} {S S' : zS}
def zsz_same (S S' : zS) : Prop := zc S' = zc S ∧ zs S' = zs S

theorem znx_inj {pc : Nat} {lo st : List Value} {S : zS} (h : znx pc lo st S = some (.inl (pc', lo', st', S'))) : pc' = pc ∧ lo' = lo ∧ st' = st ∧ S' = S := by
  unfold znx at h
  cases h
  exact ⟨rfl, rfl, rfl, rfl⟩
theorem zk0 {st1 : List Value} {ls' : Array Slot} (hT : zT Z s M S H locs ls lo) (kk : ∀ (H' : Heap) (locs' : List Loc) (ls' : Array Slot), zT Z s M S H' locs' ls' lo' → W p l e R s m args below meth c H' locs' (cells + (zc S - zc S)) (slots + (zs S - zs S)) Q (F0 m pc' ls' st1)) (hl : zL Z ls' M.2.2.1 lo') : W p l e R s m args below meth c H locs cells slots Q (F0 m pc' ls' st1) := by
  have h := kk H locs ls' ⟨hT.1, hT.2.1, hl⟩
  rwa [Nat.sub_self, Nat.sub_self, Nat.add_zero, Nat.add_zero] at h
theorem zk1 {S' : zS} {st1 : List Value} {H' : Heap} {locs' : List Loc} {ls' : Array Slot} (hl : zsz_same S S') (kk : ∀ (H' : Heap) (locs' : List Loc) (ls' : Array Slot), zT Z s M S' H' locs' ls' lo' → W p l e R s m args below meth c H' locs' (cells + (zc S' - zc S)) (slots + (zs S' - zs S)) Q (F0 m pc' ls' st1)) (hT : zT Z s M S' H' locs' ls' lo') : W p l e R s m args below meth c H' locs' cells slots Q (F0 m pc' ls' st1) := by
  have h := kk H' locs' ls' hT
  rwa [hl.1, hl.2, Nat.sub_self, Nat.sub_self, Nat.add_zero, Nat.add_zero] at h
theorem zin_in {i : Int32} {n : Nat} (h : zin i n = true) : vp_in i n := by
  unfold zin at h
  unfold vp_in
  simpa using h

theorem zn_ld {ins : Instr} {i pc1 t : Nat} (hd : decode M.2.1 pc = .ok (ins, len)) (hi : (t = 0 ∧ ((∃ k : Fin 4, ins = .iload_n k ∧ (k : Nat) = i ∧ len = 1 ∧ pc1 = pc + 1) ∨ (ins = .iload i ∧ len = 2 ∧ pc1 = pc + 2))) ∨ (t = 1 ∧ ((∃ k : Fin 4, ins = .lload_n k ∧ (k : Nat) = i ∧ len = 1 ∧ pc1 = pc + 1) ∨ (ins = .lload i ∧ len = 2 ∧ pc1 = pc + 2))) ∨ (t = 2 ∧ ((∃ k : Fin 4, ins = .aload_n k ∧ (k : Nat) = i ∧ len = 1 ∧ pc1 = pc + 1) ∨ (ins = .aload i ∧ len = 2 ∧ pc1 = pc + 2))))
    (h : zld i pc1 t lo st S = some (.inl (pc', lo', st', S'))) (hC : zC Z M p R s m args meth c d) (hT : zT Z s M S H locs ls lo) (hc : cells + (zc S' - zc S) ≤ R.cells) (hs : slots + (zs S' - zs S) ≤ R.slots)
    (kk : ∀ (H' : Heap) (locs' : List Loc) (ls' : Array Slot), zT Z s M S' H' locs' ls' lo' → W p l e R s m args below meth c H' locs' (cells + (zc S' - zc S)) (slots + (zs S' - zs S)) Q (F0 m pc' ls' (st'.map (zcv Z)))): W p l e R s m args below meth c H locs cells slots Q (F0 m pc ls (st.map (zcv Z))) := by
  obtain ⟨hx, hb, -⟩ := hC
  unfold zld at h
  split at h
  · next x hv =>
    obtain ⟨rfl, rfl, rfl, rfl⟩ := znx_inj h
    have hl := zL_at hT.2.2 hv (by simp)
    rcases hi with ⟨-, ⟨k, rfl, hk, rfl, rfl⟩ | ⟨rfl, rfl, rfl⟩⟩ | ⟨g, -⟩ | ⟨g, -⟩
    · exact lv_iload_n hx hb hd hk hl (zk0 hT kk hT.2.2)
    · exact lv_iload hx hb hd hl (zk0 hT kk hT.2.2)
    · cases g
    · cases g
  · next x hv =>
    obtain ⟨rfl, rfl, rfl, rfl⟩ := znx_inj h
    have hl := zL_at hT.2.2 hv (by simp)
    rcases hi with ⟨g, -⟩ | ⟨-, ⟨k, rfl, hk, rfl, rfl⟩ | ⟨rfl, rfl, rfl⟩⟩ | ⟨g, -⟩
    · cases g
    · exact lv_lload_n hx hb hd hk hl (zk0 hT kk hT.2.2)
    · exact lv_lload hx hb hd hl (zk0 hT kk hT.2.2)
    · cases g
  · next x hv =>
    obtain ⟨rfl, rfl, rfl, rfl⟩ := znx_inj h
    have hl := zL_at hT.2.2 hv (by simp)
    rcases hi with ⟨g, -⟩ | ⟨g, -⟩ | ⟨-, ⟨k, rfl, hk, rfl, rfl⟩ | ⟨rfl, rfl, rfl⟩⟩
    · cases g
    · cases g
    · exact lv_aload_n hx hb hd hk hl (zk0 hT kk hT.2.2)
    · exact lv_aload hx hb hd hl (zk0 hT kk hT.2.2)
  · cases h
theorem zn_so {ins : Instr} {i pc1 t : Nat} (hd : decode M.2.1 pc = .ok (ins, len)) (hi : (t = 0 ∧ ((∃ k : Fin 4, ins = .istore_n k ∧ (k : Nat) = i ∧ len = 1 ∧ pc1 = pc + 1) ∨ (ins = .istore i ∧ len = 2 ∧ pc1 = pc + 2))) ∨ (t = 1 ∧ ((∃ k : Fin 4, ins = .lstore_n k ∧ (k : Nat) = i ∧ len = 1 ∧ pc1 = pc + 1) ∨ (ins = .lstore i ∧ len = 2 ∧ pc1 = pc + 2))) ∨ (t = 2 ∧ ((∃ k : Fin 4, ins = .astore_n k ∧ (k : Nat) = i ∧ len = 1 ∧ pc1 = pc + 1) ∨ (ins = .astore i ∧ len = 2 ∧ pc1 = pc + 2))))
    (h : zso i pc1 t lo S st = some (.inl (pc', lo', st', S'))) (hC : zC Z M p R s m args meth c d) (hT : zT Z s M S H locs ls lo) (hc : cells + (zc S' - zc S) ≤ R.cells) (hs : slots + (zs S' - zs S) ≤ R.slots)
    (kk : ∀ (H' : Heap) (locs' : List Loc) (ls' : Array Slot), zT Z s M S' H' locs' ls' lo' → W p l e R s m args below meth c H' locs' (cells + (zc S' - zc S)) (slots + (zs S' - zs S)) Q (F0 m pc' ls' (st'.map (zcv Z)))): W p l e R s m args below meth c H locs cells slots Q (F0 m pc ls (st.map (zcv Z))) := by
  obtain ⟨hx, hb, -⟩ := hC
  have hL := hT.2.2
  unfold zso at h
  split at h
  · next hin =>
    split at h
    · next x st0 =>
      obtain ⟨rfl, rfl, rfl, rfl⟩ := znx_inj h
      have hlt : i < M.2.2.1 := by rw [← hL.1]; omega
      rcases hi with ⟨-, ⟨k, rfl, hk, rfl, rfl⟩ | ⟨rfl, rfl, rfl⟩⟩ | ⟨g, -⟩ | ⟨g, -⟩
      · exact lv_istore_n hx hb hd hk hL.2 hlt rfl (fun ls' hl => zk0 hT kk (zL_st1 hL hl))
      · exact lv_istore hx hb hd hL.2 hlt rfl (fun ls' hl => zk0 hT kk (zL_st1 hL hl))
      · cases g
      · cases g
    · next x st0 =>
      obtain ⟨rfl, rfl, rfl, rfl⟩ := znx_inj h
      have hlt : i < M.2.2.1 := by rw [← hL.1]; omega
      rcases hi with ⟨g, -⟩ | ⟨g, -⟩ | ⟨-, ⟨k, rfl, hk, rfl, rfl⟩ | ⟨rfl, rfl, rfl⟩⟩
      · cases g
      · cases g
      · exact lv_astore_n hx hb hd hk hL.2 hlt rfl (fun ls' hl => zk0 hT kk (zL_st1 (v := .ref x) hL hl))
      · exact lv_astore hx hb hd hL.2 hlt rfl (fun ls' hl => zk0 hT kk (zL_st1 (v := .ref x) hL hl))
    · next x st0 =>
      obtain ⟨rfl, rfl, rfl, rfl⟩ := znx_inj h
      have hlt : i + 1 < M.2.2.1 := by rw [← hL.1]; omega
      rcases hi with ⟨g, -⟩ | ⟨-, ⟨k, rfl, hk, rfl, rfl⟩ | ⟨rfl, rfl, rfl⟩⟩ | ⟨g, -⟩
      · cases g
      · exact lv_lstore_n hx hb hd hk hL.2 hlt rfl (fun ls' hl => zk0 hT kk (zL_st2 hL hl))
      · exact lv_lstore hx hb hd hL.2 hlt rfl (fun ls' hl => zk0 hT kk (zL_st2 hL hl))
      · cases g
    · cases h
  · cases h
theorem zn_getf {idx : Nat} (hd : decode M.2.1 pc = .ok (.getfield idx, 3)) (h : zgetf M idx (pc + 3) lo S st = some (.inl (pc', lo', st', S'))) (hC : zC Z M p R s m args meth c d) (hT : zT Z s M S H locs ls lo) (hc : cells + (zc S' - zc S) ≤ R.cells) (hs : slots + (zs S' - zs S) ≤ R.slots)
    (kk : ∀ (H' : Heap) (locs' : List Loc) (ls' : Array Slot), zT Z s M S' H' locs' ls' lo' → W p l e R s m args below meth c H' locs' (cells + (zc S' - zc S)) (slots + (zs S' - zs S)) Q (F0 m pc' ls' (st'.map (zcv Z)))): W p l e R s m args below meth c H locs cells slots Q (F0 m pc ls (st.map (zcv Z))) := by
  obtain ⟨hx, hb, hml, hown, hts, hnm, hU, hRf, hRl, hcn, hcn2⟩ := hC
  unfold zgetf at h
  split at h
  · next ci j t fin pp k st0 hlk =>
    obtain ⟨q, hq, hj, hlink, hsame, -, -, hci, hkd, -, -⟩ := zfl_use hlk hcn
    obtain ⟨ty, hin, -, -, -⟩ := zcl_ok hq
    split at h
    · next ci' rs he =>
      split at h
      · next hcd =>
        obtain ⟨rfl, hjl⟩ := hcd
        have h3 := zI0_k3 hT.1.2.2 he (zI0_ci hci)
        have hat := hT.1.1 k _ h3 he
        have hfs : ((List.range rs.length).map (zfv Z S k ci' rs))[j]? = some (zfv Z S k ci' rs j) := by
          rw [List.getElem?_map, List.getElem?_range hjl]; rfl
        have key : ∀ v : Value, zfv Z S k ci' rs j = v → W p l e R s m args below meth c H locs cells slots Q (F0 m (pc + 3) ls (v :: st0.map (zcv Z))) → W p l e R s m args below meth c H locs cells slots Q (F0 m pc ls ((Value.ref k :: st0).map (zcv Z))) := by
          intro v hv hk
          refine va_get (D := Z.1) (cl := vwCl) (tys := ztys Z) (ws := [(zadr Z k, zcell Z S k (.inr (.inr (ci', rs))))]) (T := q.2.1) (N := q.2.2) (C := q.1) hx hb hts hin hown hU.1 (zP1 hat) 0 rfl hq j hj (hts _ hlink) (fun x hx => by rw [hsame] at hx; exact hx) (by rw [hfs, hv]) hd hk
        unfold zfv at key
        rw [hkd] at key
        split at h
        · obtain ⟨rfl, rfl, rfl, rfl⟩ := znx_inj h
          exact key _ rfl (zk0 hT kk hT.2.2)
        · obtain ⟨rfl, rfl, rfl, rfl⟩ := znx_inj h
          exact key _ rfl (zk0 hT kk hT.2.2)
        · next t0 t1 =>
          split at h
          · next a ha =>
            obtain ⟨rfl, rfl, rfl, rfl⟩ := znx_inj h
            rw [ha] at key
            refine key (.ref (zadr Z a)) ?_ (zk0 hT kk hT.2.2)
            split
            · exact absurd rfl t0
            · exact absurd rfl t1
            · rfl
          · cases h
      · cases h
    · cases h
  · cases h
theorem zn_putf {idx : Nat} (hd : decode M.2.1 pc = .ok (.putfield idx, 3)) (h : zputf M idx (pc + 3) lo S st = some (.inl (pc', lo', st', S'))) (hC : zC Z M p R s m args meth c d) (hT : zT Z s M S H locs ls lo) (hc : cells + (zc S' - zc S) ≤ R.cells) (hs : slots + (zs S' - zs S) ≤ R.slots)
    (kk : ∀ (H' : Heap) (locs' : List Loc) (ls' : Array Slot), zT Z s M S' H' locs' ls' lo' → W p l e R s m args below meth c H' locs' (cells + (zc S' - zc S)) (slots + (zs S' - zs S)) Q (F0 m pc' ls' (st'.map (zcv Z)))): W p l e R s m args below meth c H locs cells slots Q (F0 m pc ls (st.map (zcv Z))) := by
  obtain ⟨hx, hb, hml, hown, hts, hnm, hU, hRf, hRl, hcn, hcn2⟩ := hC
  unfold zputf at h
  split at h
  · next ci j t fin pp v k st0 hlk =>
    obtain ⟨q, hq, hj, hlink, hsame, hfin, hf01, hci, hkd, hpd, ht3⟩ := zfl_use hlk hcn
    obtain ⟨ty, hin, hty, hnmX, -, -, -, -, hcq⟩ := zcl_ok hq
    split at h
    · next ci' rs he =>
      split at h
      · next hcd =>
        obtain ⟨rfl, hjl, hfi⟩ := hcd
        have h3 := zI0_k3 hT.1.2.2 he (zI0_ci hci)
        have hat := hT.1.1 k _ h3 he
        have hfi2 : (q.2.1 j).2.2.2 = false ∨ ((q.2.1 j).2.2.2 = true ∧ meth.name = "<init>" ∧ (q.2.1 j).1 = M.1.cls) := by
          rcases hfi with rfl | ⟨g1, g2⟩
          · exact Or.inl (by rw [hfin]; rfl)
          · rcases hf01 with rfl | rfl
            · exact Or.inl (by rw [hfin]; rfl)
            · refine Or.inr ⟨by rw [hfin]; rfl, hnm g1, ?_⟩
              rw [hcn, hcq] at g2
              rw [hsame]
              exact (Option.some.inj g2).symm
        have key : ∀ (v : Value) (ty1 : FieldType), parseFieldDescriptor (q.2.1 j).2.2.1 = some ty1 → narrow ty1 v = v → fits ty1 v = true → (∀ (H1 : Heap) (locs1 : List Loc), va_at Z.1 vwCl (zadr Z k, .inr (ci', ((List.range rs.length).map (zfv Z S k ci' rs)).set j v)) H1 → H1.size = H.size → (∀ q : Nat, q ≠ zadr Z k → H1[q]? = H[q]?) → va_S (zA Z) s.heap H1 locs1 → W p l e R s m args below meth c H1 locs1 cells slots Q (F0 m (pc + 3) ls (st0.map (zcv Z)))) → W p l e R s m args below meth c H locs cells slots Q (F0 m pc ls (v :: .ref (zadr Z k) :: st0.map (zcv Z))) := by
          intro v ty1 g1 g2 g3 hk
          exact zput1 (D := Z.1) (cl := vwCl) (tys := ztys Z) (T := q.2.1) (N := q.2.2) (C := q.1) hx hb hts hin ty hty hnmX hown hU.1 hT.2.1 (zA_adr h3) hat hq j hj (hts _ hlink) (fun x hx => by rw [hsame] at hx; exact hx) hfi2 g1 g2 g3 (by simpa using hjl) hd hk
        have hne : ∀ k' j' : Nat, k' ≠ k → ¬ (k' = k ∧ j' = j) := fun k' j' g g2 => g g2.1
        have hset : S.1 = S.1.set k (.inr (.inr (ci', rs))) := by
          apply List.ext_getElem?
          intro i
          by_cases g : k = i
          · subst g
            rw [List.getElem?_set_self (List.getElem?_eq_some_iff.mp he).1, he]
          · rw [List.getElem?_set_ne g]
        split at h
        · next x =>
          obtain ⟨rfl, rfl, rfl, rfl⟩ := znx_inj h
          refine key (.int x) .int hpd rfl rfl (fun H1 locs1 g1 g2 g3 g4 => zk1 (S := S) (S' := (S.1, zup S.2.1 k j x, S.2.2)) ⟨rfl, rfl⟩ kk (zT_put hT h3 he hset (fun k' j' g => if_neg (hne k' j' g)) (fun _ _ _ => rfl) ?_ g2 g3 g4 hT.2.2))
          rw [zmap_set (g := zfv Z (S.1, zup S.2.1 k j x, S.2.2) k ci' rs)] at g1
          · exact g1
          · unfold zfv; rw [hkd]; simp [zup]
          · intro i hi; unfold zfv zup; simp [hi]
        · next x =>
          obtain ⟨rfl, rfl, rfl, rfl⟩ := znx_inj h
          refine key (.long x) .long hpd rfl rfl (fun H1 locs1 g1 g2 g3 g4 => zk1 (S := S) (S' := (S.1, S.2.1, zup S.2.2 k j x)) ⟨rfl, rfl⟩ kk (zT_put hT h3 he hset (fun _ _ _ => rfl) (fun k' j' g => if_neg (hne k' j' g)) ?_ g2 g3 g4 hT.2.2))
          rw [zmap_set (g := zfv Z (S.1, S.2.1, zup S.2.2 k j x) k ci' rs)] at g1
          · exact g1
          · unfold zfv; rw [hkd]; simp [zup]
          · intro i hi; unfold zfv zup; simp [hi]
        · next a =>
          obtain ⟨rfl, rfl, rfl, rfl⟩ := znx_inj h
          have hpd2 : parseFieldDescriptor (q.2.1 j).2.2.1 = some ((parseFieldDescriptor (q.2.1 j).2.2.1).getD .int) := hpd
          have hir : ((parseFieldDescriptor (q.2.1 j).2.2.1).getD .int).isReference = true := by
            rcases ht3 with g | g | g
            · cases g
            · cases g
            · exact g.2
          generalize (parseFieldDescriptor (q.2.1 j).2.2.1).getD .int = ty1 at hpd2 hir
          have hnr : narrow ty1 (.ref (zadr Z a)) = .ref (zadr Z a) := by cases ty1 <;> rfl
          have hft : fits ty1 (.ref (zadr Z a)) = true := by cases ty1 <;> first | rfl | (simp [FieldType.isReference] at hir; done)
          have hsm : zsz_same S (S.1.set k (.inr (.inr (ci', rs.set j (some a)))), S.2) := by
            refine ⟨by simp [zc], ?_⟩
            unfold zs
            dsimp only
            rw [List.map_set]
            congr 1
            apply List.ext_getElem?
            intro i
            by_cases g : k = i
            · subst g
              have hl := (List.getElem?_eq_some_iff.mp he).1
              rw [List.getElem?_set_self (by simpa using hl), List.getElem?_map, he]
              simp [zsz]
            · rw [List.getElem?_set_ne g]
          refine key (.ref (zadr Z a)) ty1 hpd2 hnr hft (fun H1 locs1 g1 g2 g3 g4 => zk1 (S := S) hsm kk (zT_put hT h3 he rfl (fun _ _ _ => rfl) (fun _ _ _ => rfl) ?_ g2 g3 g4 hT.2.2))
          rw [zmap_set (g := zfv Z (S.1.set k (.inr (.inr (ci', rs.set j (some a)))), S.2) k ci' (rs.set j (some a)))] at g1
          · show va_at Z.1 vwCl (zadr Z k, .inr (ci', (List.range (rs.set j (some a)).length).map (zfv Z (S.1.set k (.inr (.inr (ci', rs.set j (some a)))), S.2) k ci' (rs.set j (some a))))) H1
            rw [List.length_set]
            exact g1
          · unfold zfv; rw [hkd]; simp [va_rf, hjl]
          · intro i hi; unfold zfv; simp [List.getElem?_set_ne (fun q => hi q.symm)]
        · cases h
      · cases h
    · cases h
  · cases h
end ZSTEP
end
section
section ZSTEP2
variable {p : Program} {l : Launch} {e : Env} {R : Room} {s : State} {m : MethodId} {args : Array Value} {below : List Frame} {meth : Method} {c : Code} {H : Heap} {locs : List Loc} {cells slots : Nat} {Q : State → Prop} {Z : zZ} {M : zM} {d : Nat} {ls : Array Slot}
variable {len pc pc' : Nat} {lo lo' st st' : List Value} {S S' : zS}

theorem zset_self {k : Nat} {x : zE} (he : S.1[k]? = some x) : S.1 = S.1.set k x := by
  apply List.ext_getElem?
  intro i
  by_cases g : k = i
  · subst g
    rw [List.getElem?_set_self (List.getElem?_eq_some_iff.mp he).1, he]
  · rw [List.getElem?_set_ne g]
theorem z3 {k : Nat} (h : k < 3) : k = 0 ∨ k = 1 ∨ k = 2 := by omega
theorem zrep_none (n q : Nat) : (List.replicate n (none : Option Nat)).getD q none = none := by
  rw [List.getD_eq_getElem?_getD, List.getElem?_replicate]
  split <;> rfl
theorem zn_ald (hd : decode M.2.1 pc = .ok (.iaload, 1)) (h : zald (pc + 1) lo S st = some (.inl (pc', lo', st', S'))) (hC : zC Z M p R s m args meth c d) (hT : zT Z s M S H locs ls lo) (hc : cells + (zc S' - zc S) ≤ R.cells) (hs : slots + (zs S' - zs S) ≤ R.slots)
    (kk : ∀ (H' : Heap) (locs' : List Loc) (ls' : Array Slot), zT Z s M S' H' locs' ls' lo' → W p l e R s m args below meth c H' locs' (cells + (zc S' - zc S)) (slots + (zs S' - zs S)) Q (F0 m pc' ls' (st'.map (zcv Z)))): W p l e R s m args below meth c H locs cells slots Q (F0 m pc ls (st.map (zcv Z))) := by
  obtain ⟨hx, hb, hml, hown, hts, hnm, hU, hRf, hRl, hcn, hcn2⟩ := hC
  unfold zald at h
  split at h
  · next i k st0 =>
    split at h
    · next n he =>
      split at h
      · next hin =>
        have hin := zin_in hin
        obtain ⟨rfl, rfl, rfl, rfl⟩ := znx_inj h
        have K := zk0 hT kk hT.2.2
        have hlt : i.toNatClampNeg < n := Nat.not_le.mp fun q => hin (Or.inr q)
        rcases Nat.lt_or_ge k 3 with hk | hk
        · obtain ⟨-, b0, b1, b2, c1, c2⟩ := hT.1.2.2
          rcases z3 hk with rfl | rfl | rfl
          · rcases b0 with ⟨b0, c0⟩ | b0
            rotate_left
            · rw [b0] at he; cases he
            rw [b0] at he
            cases he
            exact va_ti hx hb hU.2.1 hT.2.1 hin (v := .int (S'.2.1 0 i.toNatClampNeg)) (by rw [c0 _ hlt]) hd K
          · rw [b1] at he
            cases he
            exact va_ti hx hb hU.2.2.1 hT.2.1 hin (v := .int (S'.2.1 1 i.toNatClampNeg)) (by rw [c1 _ hlt]) hd K
          · rw [b2] at he
            cases he
            exact va_ti hx hb hU.2.2.2.1 hT.2.1 hin (v := .int (S'.2.1 2 i.toNatClampNeg)) (by rw [c2 _ hlt]) hd K
        · exact va_iald (D := Z.1) (cl := vwCl) (tys := ztys Z) (ws := [(zadr Z k, zcell Z S' k (.inl n))]) hx hb hU.1 (zP1 (hT.1.1 k _ hk he)) 0 0 rfl rfl hin hd K
      · cases h
    · cases h
  · cases h
theorem zn_ast (hd : decode M.2.1 pc = .ok (.iastore, 1)) (h : zast (pc + 1) lo S st = some (.inl (pc', lo', st', S'))) (hC : zC Z M p R s m args meth c d) (hT : zT Z s M S H locs ls lo) (hc : cells + (zc S' - zc S) ≤ R.cells) (hs : slots + (zs S' - zs S) ≤ R.slots)
    (kk : ∀ (H' : Heap) (locs' : List Loc) (ls' : Array Slot), zT Z s M S' H' locs' ls' lo' → W p l e R s m args below meth c H' locs' (cells + (zc S' - zc S)) (slots + (zs S' - zs S)) Q (F0 m pc' ls' (st'.map (zcv Z)))): W p l e R s m args below meth c H locs cells slots Q (F0 m pc ls (st.map (zcv Z))) := by
  obtain ⟨hx, hb, hml, hown, hts, hnm, hU, hRf, hRl, hcn, hcn2⟩ := hC
  unfold zast at h
  split at h
  · next x i k st0 =>
    split at h
    · next n he =>
      split at h
      · next hin =>
        obtain ⟨hin, h3⟩ := hin
        have hin := zin_in hin
        obtain ⟨rfl, rfl, rfl, rfl⟩ := znx_inj h
        have hat : H[zadr Z k]? = some (vp_cell Z.2.1.1 (n, .inl (S.2.1 k))) := hT.1.1 k _ h3 he
        refine W.iast hx hb hat ((hU.1.2 0 _ rfl).1 n (fun j => .int (S.2.1 k j))) (fun q => by cases q) (by show ¬ (i < 0 ∨ (arrV _ _ _).slots.size ≤ _); rw [arrV_size]; exact hin) rfl rfl hd fun H1 e1 z1 oq => ?_
        refine zk1 (S := S) (S' := (S.1, zup S.2.1 k i.toNatClampNeg x, S.2.2)) ⟨rfl, rfl⟩ kk (zT_put hT h3 he (zset_self he) (fun k' j' g => if_neg (fun g2 => g g2.1)) (fun _ _ _ => rfl) ?_ z1 oq (hT.2.1.put z1 oq (zA_adr h3)) hT.2.2)
        show H1[zadr Z k]? = some (vp_cell _ _)
        rw [e1]
        rw [vp_cell_i, arrV_store]
        show _ = some (vp_cell Z.2.1.1 (n, .inl (zup S.2.1 k i.toNatClampNeg x k)))
        rw [vp_cell_i]
        congr 2
        funext q
        by_cases hq : q = i.toNatClampNeg
        · subst hq
          simp [updV, zup]
        · simp [updV, zup, hq]
      · cases h
    · cases h
  · cases h
theorem zn_aald (hd : decode M.2.1 pc = .ok (.aaload, 1)) (h : zaald (pc + 1) lo S st = some (.inl (pc', lo', st', S'))) (hC : zC Z M p R s m args meth c d) (hT : zT Z s M S H locs ls lo) (hc : cells + (zc S' - zc S) ≤ R.cells) (hs : slots + (zs S' - zs S) ≤ R.slots)
    (kk : ∀ (H' : Heap) (locs' : List Loc) (ls' : Array Slot), zT Z s M S' H' locs' ls' lo' → W p l e R s m args below meth c H' locs' (cells + (zc S' - zc S)) (slots + (zs S' - zs S)) Q (F0 m pc' ls' (st'.map (zcv Z)))): W p l e R s m args below meth c H locs cells slots Q (F0 m pc ls (st.map (zcv Z))) := by
  obtain ⟨hx, hb, hml, hown, hts, hnm, hU, hRf, hRl, hcn, hcn2⟩ := hC
  unfold zaald at h
  split at h
  · next i k st0 =>
    split at h
    · next t rs he =>
      split at h
      · next hin =>
        have hin := zin_in hin
        split at h
        · next a ha =>
          obtain ⟨rfl, rfl, rfl, rfl⟩ := znx_inj h
          have K := zk0 hT kk hT.2.2
          have h3 := zI0_k3 hT.1.2.2 he (by simp)
          have hlt : i.toNatClampNeg < rs.length := Nat.not_le.mp fun q => hin (Or.inr q)
          have hat : H[zadr Z k]? = some (vp_cell (if t = 0 then Z.2.1.2.1 else Z.2.1.2.2) (rs.length, .inr (.inr (.inr (.inr (fun i => (rs.getD i none).map (zadr Z))))))) := hT.1.1 k _ h3 he
          rw [vp_cell_q] at hat
          have hrd : (arrV (if t = 0 then Z.2.1.2.1 else Z.2.1.2.2) rs.length (fun j => va_rf ((rs.getD j none).map (zadr Z)))).slots[i.toNatClampNeg]? = some (.ref (zadr Z a)) := by
            rw [arrV_read _ _ hlt, ha]; rfl
          by_cases ht : t = 0
          · rw [if_pos ht] at hat hrd
            exact W.aald (v := .ref (zadr Z a)) (ty := .object "CubeHops$Strip") hx hb hat ((hU.1.2 1 _ rfl).1 _ _) rfl (fun q => by cases q) (by rw [arrV_size]; exact hin) hrd rfl rfl hd K
          · rw [if_neg ht] at hat hrd
            exact W.aald (v := .ref (zadr Z a)) (ty := .array .int) hx hb hat ((hU.1.2 2 _ rfl).1 _ _) rfl (fun q => by cases q) (by rw [arrV_size]; exact hin) hrd rfl rfl hd K
        · cases h
      · cases h
    · cases h
  · cases h
theorem zn_aast (hd : decode M.2.1 pc = .ok (.aastore, 1)) (h : zaast (pc + 1) lo S st = some (.inl (pc', lo', st', S'))) (hC : zC Z M p R s m args meth c d) (hT : zT Z s M S H locs ls lo) (hc : cells + (zc S' - zc S) ≤ R.cells) (hs : slots + (zs S' - zs S) ≤ R.slots)
    (kk : ∀ (H' : Heap) (locs' : List Loc) (ls' : Array Slot), zT Z s M S' H' locs' ls' lo' → W p l e R s m args below meth c H' locs' (cells + (zc S' - zc S)) (slots + (zs S' - zs S)) Q (F0 m pc' ls' (st'.map (zcv Z)))): W p l e R s m args below meth c H locs cells slots Q (F0 m pc ls (st.map (zcv Z))) := by
  obtain ⟨hx, hb, hml, hown, hts, hnm, hU, hRf, hRl, hcn, hcn2⟩ := hC
  unfold zaast at h
  split at h
  · next v i k st0 =>
    split at h
    · next rs vs he hv =>
      split at h
      · next hin =>
        have hin := zin_in hin
        obtain ⟨rfl, rfl, rfl, rfl⟩ := znx_inj h
        have h3 := zI0_k3 hT.1.2.2 he (by simp)
        have h3v := zI0_k3 hT.1.2.2 hv (zI0_ci (by decide))
        have hlt : i.toNatClampNeg < rs.length := Nat.not_le.mp fun q => hin (Or.inr q)
        have h0 : ¬ i < 0 := fun q => hin (Or.inl q)
        have hat : H[zadr Z k]? = some (vp_cell Z.2.1.2.1 (rs.length, .inr (.inr (.inr (.inr (fun i => (rs.getD i none).map (zadr Z))))))) := hT.1.1 k _ h3 he
        obtain ⟨r', hr', cellV, g1, g2, g3, -⟩ := hT.1.1 v _ h3v hv
        have hcls := (hU.1.1 2 (RX2, TX2, 2) rfl).2
        obtain ⟨kA, comp, k1, k2, k3, -⟩ := (hU.1.2 1 _ rfl).2
        have hcomp : comp = Z.1.1 2 := Option.some.inj (k3.symm.trans hcls.1)
        subst hcomp
        obtain ⟨kC, hkC, -⟩ := hcls.2
        have hsm : zsz_same S (S.1.set k (.inr (.inl (0, rs.set i.toNatClampNeg (some v)))), S.2) := by
          refine ⟨by simp [zc], ?_⟩
          unfold zs
          dsimp only
          rw [List.map_set]
          congr 1
          apply List.ext_getElem?
          intro i
          by_cases g : k = i
          · subst g
            have hl := (List.getElem?_eq_some_iff.mp he).1
            rw [List.getElem?_set_self (by simpa using hl), List.getElem?_map, he]
            simp [zsz]
          · rw [List.getElem?_set_ne g]
        refine W.aast hx hb hat (fun q h => by cases h) (fun h => by cases h) k1 k2 rfl hkC ⟨h0, by show _ < (arrV _ _ _).slots.size; rw [arrV_size]; exact hlt⟩ g1 (fun q h => by rw [g3] at h; cases h) (by rw [g2]; exact hkC) (by rw [g2]; exact va_assign hcls) rfl rfl hd fun H1 e1 z1 oq => ?_
        refine zk1 (S := S) hsm kk (zT_put hT h3 he rfl (fun _ _ _ => rfl) (fun _ _ _ => rfl) ?_ z1 oq (hT.2.1.put z1 oq (zA_adr h3)) hT.2.2)
        show H1[zadr Z k]? = some (vp_cell Z.2.1.2.1 ((rs.set i.toNatClampNeg (some v)).length, .inr (.inr (.inr (.inr (fun j => ((rs.set i.toNatClampNeg (some v)).getD j none).map (zadr Z)))))))
        rw [e1, vp_cell_q, vp_cell_q, arrV_store, List.length_set]
        congr 2
        funext q
        by_cases hq : q = i.toNatClampNeg
        · subst hq
          simp [updV, va_rf, hlt]
        · simp [updV, hq, List.getElem?_set_ne (fun g => hq g.symm)]
      · cases h
    · cases h
  · cases h
theorem zn_alen (hd : decode M.2.1 pc = .ok (.arraylength, 1)) (h : zalen (pc + 1) lo S st = some (.inl (pc', lo', st', S'))) (hC : zC Z M p R s m args meth c d) (hT : zT Z s M S H locs ls lo) (hc : cells + (zc S' - zc S) ≤ R.cells) (hs : slots + (zs S' - zs S) ≤ R.slots)
    (kk : ∀ (H' : Heap) (locs' : List Loc) (ls' : Array Slot), zT Z s M S' H' locs' ls' lo' → W p l e R s m args below meth c H' locs' (cells + (zc S' - zc S)) (slots + (zs S' - zs S)) Q (F0 m pc' ls' (st'.map (zcv Z)))): W p l e R s m args below meth c H locs cells slots Q (F0 m pc ls (st.map (zcv Z))) := by
  obtain ⟨hx, hb, hml, hown, hts, hnm, hU, hRf, hRl, hcn, hcn2⟩ := hC
  unfold zalen at h
  split at h
  · next k st0 =>
    split at h
    · next n he =>
      obtain ⟨rfl, rfl, rfl, rfl⟩ := znx_inj h
      have K := zk0 hT kk hT.2.2
      rcases Nat.lt_or_ge k 3 with hk | hk
      · obtain ⟨-, b0, b1, b2, c1, c2⟩ := hT.1.2.2
        rcases z3 hk with rfl | rfl | rfl
        · rcases b0 with ⟨b0, c0⟩ | b0
          rotate_left
          · rw [b0] at he; cases he
          rw [b0] at he
          cases he
          exact va_tlen hx hb hU.2.1 hT.2.1 rfl hd K
        · rw [b1] at he
          cases he
          exact va_tlen hx hb hU.2.2.1 hT.2.1 rfl hd K
        · rw [b2] at he
          cases he
          exact va_tlen hx hb hU.2.2.2.1 hT.2.1 rfl hd K
      · exact va_alen (D := Z.1) (cl := vwCl) (tys := ztys Z) (ws := [(zadr Z k, zcell Z S' k (.inl n))]) hx hb hU.1 (zP1 (hT.1.1 k _ hk he)) 0 0 rfl rfl rfl hd K
    · next t rs he =>
      obtain ⟨rfl, rfl, rfl, rfl⟩ := znx_inj h
      have K := zk0 hT kk hT.2.2
      have h3 := zI0_k3 hT.1.2.2 he (by simp)
      have hP := zP1 (hT.1.1 k _ h3 he)
      by_cases ht : t = 0
      · exact va_alen (D := Z.1) (cl := vwCl) (tys := ztys Z) (ws := [(zadr Z k, zcell Z S' k (.inr (.inl (t, rs))))]) hx hb hU.1 hP 0 1 rfl (by subst ht; rfl) rfl hd K
      · exact va_alen (D := Z.1) (cl := vwCl) (tys := ztys Z) (ws := [(zadr Z k, zcell Z S' k (.inr (.inl (t, rs))))]) hx hb hU.1 hP 0 2 rfl (by rw [if_neg ht]; rfl) rfl hd K
    · cases h
  · cases h
theorem znl_use {idx ci pp : Nat} {own : String} (h : zNL.lookup (zky M idx) = some (ci, pp)) (ho : zCN[M.2.2.2.2.1]? = some own) : if ci = 9 then Cond.classLink own idx "[[I" ∈ zWs else ∃ q, vwCl[ci]? = some q ∧ Cond.classLink own idx q.1 ∈ zWs := by
  have hf := zall znl_ok h
  unfold znlP at hf
  dsimp only at hf
  split at hf
  · next own' h1 =>
    obtain ⟨e1, e2⟩ := zkey ho h1
    rw [e1, e2] at hf
    split at hf
    · next h9 =>
      rw [if_pos h9]
      exact zat_mem hf
    · next h9 =>
      rw [if_neg h9]
      split at hf
      · next q hq => exact ⟨q, hq, zat_mem hf⟩
      · cases hf
  · cases hf
theorem zn_new {idx : Nat} (hd : decode M.2.1 pc = .ok (.new idx, 3)) (h : znew M idx (pc + 3) lo st S = some (.inl (pc', lo', st', S'))) (hC : zC Z M p R s m args meth c d) (hT : zT Z s M S H locs ls lo) (hc : cells + (zc S' - zc S) ≤ R.cells) (hs : slots + (zs S' - zs S) ≤ R.slots)
    (kk : ∀ (H' : Heap) (locs' : List Loc) (ls' : Array Slot), zT Z s M S' H' locs' ls' lo' → W p l e R s m args below meth c H' locs' (cells + (zc S' - zc S)) (slots + (zs S' - zs S)) Q (F0 m pc' ls' (st'.map (zcv Z)))): W p l e R s m args below meth c H locs cells slots Q (F0 m pc ls (st.map (zcv Z))) := by
  obtain ⟨hx, hb, hml, hown, hts, hnm, hU, hRf, hRl, hcn, hcn2⟩ := hC
  unfold znew at h
  split at h
  · next ci pp hlk =>
    have hn := znl_use hlk hcn
    split at h
    · next fk hfk =>
      obtain ⟨rfl, rfl, rfl, rfl⟩ := znx_inj h
      have h9 : ¬ ci = 9 := by
        intro g
        subst g
        cases hfk
      rw [if_neg h9] at hn
      obtain ⟨q, hq, hcl⟩ := hn
      obtain ⟨ty, hin, hty, hnmX, hfl, hdv, hinst, hini, hcq⟩ := zcl_ok hq
      have hfg : zFK.getD ci [] = fk := by rw [List.getD_eq_getElem?_getD, hfk]; rfl
      rw [hfg] at hfl hdv
      have hKn := hU.1.1 ci _ hq
      have hzc : zc (S.1 ++ [.inr (.inr (ci, List.replicate fk.length none))], zclr S.2.1 S.1.length 0, zclr S.2.2 S.1.length 0) - zc S = 1 := by simp [zc]
      have hzs : zs (S.1 ++ [.inr (.inr (ci, List.replicate fk.length none))], zclr S.2.1 S.1.length 0, zclr S.2.2 S.1.length 0) - zs S = q.2.2 := by simp [zs, zsz, hfl]
      rw [hzc] at hc kk
      rw [hzs] at hs kk
      refine W.newcK (C := q.1) (n := q.2.2) hx hb hown (hts _ hcl) (hts _ hinst) (hts _ hini) rfl hd hc hs hKn.2.1 rfl fun H1 kC hkC e1 z1 o1 => ?_
      have hadr : zcv Z (.ref S.1.length) = .ref H.size := by
        show Value.ref (zadr Z S.1.length) = _
        rw [zadr3 hT.1.2.2.1, hT.1.2.1]
      have K := kk H1 locs ls (zT_push hT rfl (fun k' j' g => if_neg (by omega)) (fun k' j' g => if_neg (by omega)) ?_ z1 o1 hT.2.2)
      · rw [List.map_cons, hadr] at K
        exact K
      · refine ⟨_, hq, (u_born ty hts hin hKn hkC e1 hty).to (fun j hj => ?_)⟩
        unfold vp_V
        rw [List.getD_eq_getElem?_getD, List.getElem?_map, List.getElem?_range (by simpa [hfl] using hj)]
        rw [hdv j hj]
        show _ = zfv Z _ _ _ _ _
        unfold zfv zdv
        rw [hfg, zrep_none]
        generalize fk.getD j 2 = t
        match t with
        | 0 => simp [zclr]
        | 1 => simp [zclr]
        | t + 2 => simp [va_rf]
    · cases h
  · cases h
theorem zn_newa (hd : decode M.2.1 pc = .ok (.newarray .int, 2)) (h : znewa (pc + 2) lo S st = some (.inl (pc', lo', st', S'))) (hC : zC Z M p R s m args meth c d) (hT : zT Z s M S H locs ls lo) (hc : cells + (zc S' - zc S) ≤ R.cells) (hs : slots + (zs S' - zs S) ≤ R.slots)
    (kk : ∀ (H' : Heap) (locs' : List Loc) (ls' : Array Slot), zT Z s M S' H' locs' ls' lo' → W p l e R s m args below meth c H' locs' (cells + (zc S' - zc S)) (slots + (zs S' - zs S)) Q (F0 m pc' ls' (st'.map (zcv Z)))): W p l e R s m args below meth c H locs cells slots Q (F0 m pc ls (st.map (zcv Z))) := by
  obtain ⟨hx, hb, hml, hown, hts, hnm, hU, hRf, hRl, hcn, hcn2⟩ := hC
  unfold znewa at h
  split at h
  · next n st0 =>
    split at h
    · cases h
    · next hn =>
      obtain ⟨rfl, rfl, rfl, rfl⟩ := znx_inj h
      have hn1 : ¬ n < 0 := fun g => hn (Or.inl g)
      have hn2 : n.toNatClampNeg ≤ 100000 := Nat.le_of_not_lt fun g => hn (Or.inr g)
      have hzc : zc (S.1 ++ [.inl n.toNatClampNeg], zclr S.2.1 S.1.length 0, S.2.2) - zc S = 1 := by simp [zc]
      have hzs : zs (S.1 ++ [.inl n.toNatClampNeg], zclr S.2.1 S.1.length 0, S.2.2) - zs S = n.toNatClampNeg := by simp [zs, zsz]
      rw [hzc] at hc kk
      rw [hzs] at hs kk
      refine va_newaK (atype := .int) hx hb (hts _ zmem_arr.1) rfl hd rfl hn1 rfl (by show n.toNatClampNeg * 4 ≤ _; omega) hc hs rfl fun H1 cA e1 z1 o1 hAr hNm => ?_
      have hcA : cA = Z.2.1.1 := Option.some.inj (hNm.symm.trans (hU.1.2 0 _ rfl).2)
      subst hcA
      have hadr : zcv Z (.ref S.1.length) = .ref H.size := by
        show Value.ref (zadr Z S.1.length) = _
        rw [zadr3 hT.1.2.2.1, hT.1.2.1]
      have K := kk H1 locs ls (zT_push hT rfl (fun k' j' g => if_neg (by omega)) (fun _ _ _ => rfl) ?_ z1 o1 hT.2.2)
      · rw [List.map_cons, hadr] at K
        exact K
      · show H1[H.size]? = some (vp_cell Z.2.1.1 (n.toNatClampNeg, .inl (zclr S.2.1 S.1.length 0 S.1.length)))
        rw [e1, vp_cell_i]
        congr 2
        funext q
        simp [zclr, defaultValue, newarray.typeOf]
  · cases h
theorem zn_anew {idx : Nat} (hd : decode M.2.1 pc = .ok (.anewarray idx, 3)) (h : zanew M idx (pc + 3) lo S st = some (.inl (pc', lo', st', S'))) (hC : zC Z M p R s m args meth c d) (hT : zT Z s M S H locs ls lo) (hc : cells + (zc S' - zc S) ≤ R.cells) (hs : slots + (zs S' - zs S) ≤ R.slots)
    (kk : ∀ (H' : Heap) (locs' : List Loc) (ls' : Array Slot), zT Z s M S' H' locs' ls' lo' → W p l e R s m args below meth c H' locs' (cells + (zc S' - zc S)) (slots + (zs S' - zs S)) Q (F0 m pc' ls' (st'.map (zcv Z)))): W p l e R s m args below meth c H locs cells slots Q (F0 m pc ls (st.map (zcv Z))) := by
  obtain ⟨hx, hb, hml, hown, hts, hnm, hU, hRf, hRl, hcn, hcn2⟩ := hC
  unfold zanew at h
  split at h
  · next n st0 =>
    split at h
    · next pp hlk =>
      split at h
      · cases h
      · next hn =>
        obtain ⟨rfl, rfl, rfl, rfl⟩ := znx_inj h
        obtain ⟨q, hq, hcl⟩ := znl_use hlk hcn
        cases hq
        have hn1 : ¬ n < 0 := fun g => hn (Or.inl g)
        have hn2 : n.toNatClampNeg ≤ 100000 := Nat.le_of_not_lt fun g => hn (Or.inr g)
        have hzc : zc (S.1 ++ [.inr (.inl (0, List.replicate n.toNatClampNeg none))], S.2) - zc S = 1 := by simp [zc]
        have hzs : zs (S.1 ++ [.inr (.inl (0, List.replicate n.toNatClampNeg none))], S.2) - zs S = n.toNatClampNeg := by simp [zs, zsz]
        rw [hzc] at hc kk
        rw [hzs] at hs kk
        refine W.anew (C := "CubeHops$Strip") hx hb hown (hts _ hcl) (va_AO.use hU.2.2.2.2.2.2.2.1) rfl hd rfl hn1 (by omega) hc hs fun cA kA comp f1 f2 f3 f4 => ?_
        generalize hH1 : H.push ({ cls := cA, slots := Array.replicate n.toNatClampNeg .null, vm := .none } : Cell) = H1
        have z1 : H1.size = H.size + 1 := by rw [← hH1, Array.size_push]
        have e1 : H1[H.size]? = some (arrV cA n.toNatClampNeg (fun _ => .null)) := by rw [← hH1, Array.getElem?_push_size, ← arrV_new]
        have o1 : ∀ q : Nat, q < H.size → H1[q]? = H[q]? := fun q hq => by rw [← hH1, Array.getElem?_push, if_neg (Nat.ne_of_lt hq)]
        have hcA : cA = Z.2.1.2.1 := by
          obtain ⟨_, _, -, -, -, g4⟩ := (hU.1.2 1 _ rfl).2
          exact Option.some.inj (f1.symm.trans g4)
        subst hcA
        have hadr : zcv Z (.ref S.1.length) = .ref H.size := by
          show Value.ref (zadr Z S.1.length) = _
          rw [zadr3 hT.1.2.2.1, hT.1.2.1]
        have K := kk H1 locs ls (zT_push hT rfl (fun _ _ _ => rfl) (fun _ _ _ => rfl) ?_ z1 o1 hT.2.2)
        · rw [List.map_cons, hadr] at K
          exact K
        · show H1[H.size]? = some (vp_cell Z.2.1.2.1 ((List.replicate n.toNatClampNeg none).length, .inr (.inr (.inr (.inr (fun j => ((List.replicate n.toNatClampNeg none).getD j none).map (zadr Z)))))))
          rw [e1, vp_cell_q, List.length_replicate]
          congr 2
          funext q
          rw [zrep_none]
          rfl
    · cases h
  · cases h
end ZSTEP2
end
section
section ZSTEP3
variable {p : Program} {l : Launch} {e : Env} {R : Room} {s : State} {m : MethodId} {args : Array Value} {below : List Frame} {meth : Method} {c : Code} {H : Heap} {locs : List Loc} {cells slots : Nat} {Q : State → Prop} {Z : zZ} {M : zM} {d : Nat} {ls : Array Slot}
variable {len pc pc' : Nat} {lo lo' st st' : List Value} {S S' : zS}

theorem zcat_map (Z : zZ) (st : List Value) : ((st.map (zcv Z)).map fun v => v.category).sum = zcat st := by
  unfold zcat
  rw [List.map_map]
  congr 1
  apply List.map_congr_left
  intro v _
  exact zcv_cat Z v
theorem zcopy {cc : ByteArray} {pc : Nat} {rest : List Value} {A : Nat → Prop} {a a0 : Nat} {H0 : Heap} (hexec : p.tables.exec = Jvm.exec) (hb : c.code = cc) (hml : c.maxLocals = ls.size) {own : String} {index : Nat} (hown : s.vm.findClass own = some m.cls) (hlink : (Cond.methodLink own index arraycopyName).before args s = true) (hnat : (Cond.native arraycopyName).before args s = true) (hstat : (Cond.static arraycopyName).before args s = true) (hini : (Cond.initialized "java/lang/System").before args s = true)
    (hS : va_S A H0 H locs) (haA : A a) {c0 : ClassId} (harr : ArrOfT s c0 .int) {n0 n1 : Nat} {f g : Nat → Int32} (hc0 : H[a0]? = some (vp_cell c0 (n0, .inl f))) (hc1 : H[a]? = some (vp_cell c0 (n1, .inl g)))
    {sp dp n : Int32} (h1 : ¬ sp < 0) (h2 : ¬ dp < 0) (h3 : ¬ n < 0) (h4 : sp.toNatClampNeg + n.toNatClampNeg ≤ n0) (h5 : dp.toNatClampNeg + n.toNatClampNeg ≤ n1)
    (hframes : 1 ≤ R.frames) (hlocals : (rest.map fun v => v.category).sum + (nativeFrameWords "java/lang/System" "arraycopy" 5 + 11) ≤ R.locals) (hdg : decode cc pc = .ok (.invokestatic index, 3))
    (kk : ∀ (H1 : Heap) (locs1 : List Loc), H1[a]? = some (vp_cell c0 (n1, .inl (va_cpy f g sp.toNatClampNeg dp.toNatClampNeg n.toNatClampNeg))) → H1.size = H.size → (∀ q : Nat, q ≠ a → H1[q]? = H[q]?) → va_S A H0 H1 locs1 → W p l e R s m args below meth c H1 locs1 cells slots Q (F0 m (pc + 3) ls rest)) : W p l e R s m args below meth c H locs cells slots Q (F0 m pc ls (.int n :: .int dp :: .ref a :: .int sp :: .ref a0 :: rest)) := by
  have nn : ∀ z : Int32, ¬ z < 0 → z.toInt = (z.toNatClampNeg : Int) := by
    intro z hz
    have hz0 : (0 : Int) ≤ z.toInt := by
      have := Int32.not_lt.mp hz
      simpa using Int32.le_iff_toInt_le.mp this
    show z.toInt = ((z.toInt.toNat : Nat) : Int)
    omega
  intro T hT X
  obtain ⟨-, k0, hk0, cm0, hkk0⟩ := harr n0 (fun j => .int (f j))
  obtain ⟨-, k1, hk1, cm1, hkk1⟩ := harr n1 (fun j => .int (g j))
  obtain ⟨vm', X', step⟩ := X.arraycopy hexec hown hlink hnat hstat hini (src := a0) (dst := a) (cs := vp_cell c0 (n0, .inl f)) (cd := vp_cell c0 (n1, .inl g)) (srcPos := sp) (destPos := dp) (n := n) (by rw [hT]; exact hc0) (by rw [hT]; exact hc1)
    (fun _ h => by cases h) (fun _ h => by cases h) (fun h => by cases h) (fun h => by cases h) hk0 hk1 hkk0 hkk1 (by simp [refKind]) h1 h2 h3
    (by rw [nn sp h1, nn n h3]; show ¬ _ > ((arrV c0 n0 (fun j => .int (f j))).slots.size : Int); rw [arrV_size]; omega)
    (by rw [nn dp h2, nn n h3]; show ¬ _ > ((arrV c0 n1 (fun j => .int (g j))).slots.size : Int); rw [arrV_size]; omega)
    (fun vm₁ _ i hi => by
      have e : (vp_cell c0 (n0, .inl f)).slots.getD (sp.toNatClampNeg + i) .null = .int (f (sp.toNatClampNeg + i)) := by
        show (arrV c0 n0 (fun j => .int (f j))).slots.getD _ _ = _
        rw [Array.getD_eq_getD_getElem?, arrV_read _ _ (by omega)]
        rfl
      refine ⟨?_, ?_⟩
      · rw [e]
        rfl
      · rw [e]
        exact trivial)
    (g := F0 m pc ls (.int n :: .int dp :: .ref a :: .int sp :: .ref a0 :: rest)) rfl (by rw [hml]) (rest := rest) rfl (by rw [hb]; exact hdg) hframes (by show 2 * 0 + _ + _ ≤ _; omega)
  have e1 : copied (vp_cell c0 (n0, .inl f)) (vp_cell c0 (n1, .inl g)) sp dp n = vp_cell c0 (n1, .inl (va_cpy f g sp.toNatClampNeg dp.toNatClampNeg n.toNatClampNeg)) := va_copied (fun z => .int z) c0 c0 f g h4
  rw [e1] at X' step
  have hl : a < H.size := (Array.getElem?_eq_some_iff.mp hc1).1
  have hheap : ((T.setVm vm').setCell a (vp_cell c0 (n1, .inl (va_cpy f g sp.toNatClampNeg dp.toNatClampNeg n.toNatClampNeg)))).heap = H.setIfInBounds a (vp_cell c0 (n1, .inl (va_cpy f g sp.toNatClampNeg dp.toNatClampNeg n.toNatClampNeg))) := by rw [← hT]; rfl
  have oq : ∀ q : Nat, q ≠ a → (H.setIfInBounds a (vp_cell c0 (n1, .inl (va_cpy f g sp.toNatClampNeg dp.toNatClampNeg n.toNatClampNeg))))[q]? = H[q]? := fun q hq => by simp [Array.getElem?_setIfInBounds, Ne.symm hq]
  obtain ⟨t, a1, b1⟩ := kk _ _ (show (H.setIfInBounds a _)[a]? = some _ by simp [Array.getElem?_setIfInBounds, hl]) (by simp) oq ⟨by simp; exact hS.1, fun q g1 g2 => by
      rw [oq q (fun e => g2 (by rw [e]; exact haA))]
      exact hS.2.1 q g1 g2, fun q hq => by
      rcases List.mem_append.mp hq with h | h
      · exact hS.2.2 q h
      · obtain ⟨z, -, hz⟩ := List.mem_map.mp h
        rw [← hz]
        exact haA⟩ _ hheap X'
  exact ⟨t, step t a1, b1⟩
theorem zn_mnew {idx : Nat} (hd : decode M.2.1 pc = .ok (.multianewarray idx 2, 4)) (h : zmnew M idx (pc + 4) lo S st = some (.inl (pc', lo', st', S'))) (hC : zC Z M p R s m args meth c d) (hT : zT Z s M S H locs ls lo) (hc : cells + (zc S' - zc S) ≤ R.cells) (hs : slots + (zs S' - zs S) ≤ R.slots)
    (kk : ∀ (H' : Heap) (locs' : List Loc) (ls' : Array Slot), zT Z s M S' H' locs' ls' lo' → W p l e R s m args below meth c H' locs' (cells + (zc S' - zc S)) (slots + (zs S' - zs S)) Q (F0 m pc' ls' (st'.map (zcv Z)))): W p l e R s m args below meth c H locs cells slots Q (F0 m pc ls (st.map (zcv Z))) := by
  sorry
theorem zml_own {idx t mi p1 p2 p3 p4 : Nat} {own : String} (h : zML.lookup (zky M idx) = some (t, mi, p1, p2, p3, p4)) (ho : zCN[M.2.2.2.2.1]? = some own) : zmlP (zky M idx, t, mi, p1, p2, p3, p4) = true ∧ zCN[zky M idx / 1000]? = some own ∧ zky M idx % 1000 = idx := by
  have hf := zall zml_ok h
  refine ⟨hf, ?_⟩
  unfold zmlP at hf
  dsimp only at hf
  cases h1 : zCN[zky M idx / 1000]? with
  | none => rw [h1] at hf; cases hf
  | some own' =>
    obtain ⟨e1, e2⟩ := zkey ho h1
    exact ⟨by rw [e1], e2⟩
theorem zn_inv {ins : Instr} {idx kd : Nat} (hi : (kd = 0 ∧ ins = .invokevirtual idx) ∨ (kd = 1 ∧ ins = .invokestatic idx) ∨ (kd = 2 ∧ ins = .invokespecial idx)) (hd : decode M.2.1 pc = .ok (ins, 3)) (h : zinv M idx kd (pc + 3) lo S st = some (.inl (pc', lo', st', S'))) (hC : zC Z M p R s m args meth c d) (hT : zT Z s M S H locs ls lo) (hc : cells + (zc S' - zc S) ≤ R.cells) (hs : slots + (zs S' - zs S) ≤ R.slots)
    (kk : ∀ (H' : Heap) (locs' : List Loc) (ls' : Array Slot), zT Z s M S' H' locs' ls' lo' → W p l e R s m args below meth c H' locs' (cells + (zc S' - zc S)) (slots + (zs S' - zs S)) Q (F0 m pc' ls' (st'.map (zcv Z)))): W p l e R s m args below meth c H locs cells slots Q (F0 m pc ls (st.map (zcv Z))) := by
  obtain ⟨hx, hb, hml, hown, hts, hnm, hU, hRf, hRl, hcn, hcn2⟩ := hC
  have hsz : ls.size = M.2.2.1 := hT.2.2.2.1
  unfold zinv at h
  split at h
  · next t mi ps hlk =>
    obtain ⟨p1, p2, p3, p4⟩ := ps
    obtain ⟨hf, ho, hidx⟩ := zml_own hlk hcn
    unfold zmlP at hf
    dsimp only at hf
    rw [ho, hidx] at hf
    dsimp only at hf
    split at h
    · split at h
      · next k st0 =>
        split at h
        · next hcd =>
          obtain ⟨rfl, hcat⟩ := hcd
          obtain ⟨rfl, rfl, rfl, rfl⟩ := znx_inj h
          rcases hi with ⟨g, -⟩ | ⟨g, -⟩ | ⟨-, rfl⟩
          · cases g
          · cases g
          refine W.objInit hx hb hown (hts _ (zat_mem hf)) (hts _ zmem_arr.2.2.2.2.1) (hts _ zmem_arr.2.2.2.2.2.1) rfl (hsz.trans hml.symm) rfl hd (by omega) ?_ (zk0 hT kk hT.2.2)
          show 2 * 0 + ((st'.map (zcv Z)).map fun v => v.category).sum + 12 ≤ R.locals
          rw [zcat_map]
          omega
        · cases h
      · cases h
    · split at h
      · next n dp q sp k st0 =>
        split at h
        · next n0 n1 he0 he1 =>
          split at h
          · next hcd =>
            obtain ⟨rfl, g1, g2, g3, g4, g5, g6, g7, hcat⟩ := hcd
            obtain ⟨rfl, rfl, rfl, rfl⟩ := znx_inj h
            rcases hi with ⟨g, -⟩ | ⟨-, rfl⟩ | ⟨g, -⟩
            · cases g
            · refine zcopy hx hb (hml.trans hsz.symm) hown (hts _ (zat_mem hf)) (hts _ zmem_arr.2.1) (hts _ zmem_arr.2.2.1) (hts _ zmem_arr.2.2.2.1) hT.2.1 (zA_adr g7) (hU.1.2 0 _ rfl).1 (hT.1.1 k _ g6 he0) (hT.1.1 q _ g7 he1) g1 g2 g3 g4 g5 (by omega) ?_ hd (fun H1 locs1 e1 z1 oq hS1 => ?_)
              · rw [zcat_map]
                have : nativeFrameWords "java/lang/System" "arraycopy" 5 = 7 := by decide +kernel
                omega
              · refine zk1 (S := S) (S' := (S.1, zcpy S.2.1 k sp.toNatClampNeg q dp.toNatClampNeg n.toNatClampNeg, S.2.2)) ⟨rfl, rfl⟩ kk (zT_put hT g7 he1 (zset_self he1) (fun k' j' g => if_neg (fun g2 => g g2.1)) (fun _ _ _ => rfl) ?_ z1 oq hS1 hT.2.2)
                show H1[zadr Z q]? = some (vp_cell Z.2.1.1 (n1, .inl (zcpy S.2.1 k sp.toNatClampNeg q dp.toNatClampNeg n.toNatClampNeg q)))
                rw [e1]
                congr 4
                funext j
                simp [va_cpy, zcpy]
            · cases g
          · cases h
        · cases h
      · cases h
    · split at h
      · next y x st0 =>
        split at h
        · next hcd =>
          obtain ⟨rfl, hcat⟩ := hcd
          obtain ⟨rfl, rfl, rfl, rfl⟩ := znx_inj h
          rcases hi with ⟨g, -⟩ | ⟨-, rfl⟩ | ⟨g, -⟩
          · cases g
          · refine va_mmax hx hb (hml.trans hsz.symm) hown (hts _ (zat_mem hf)) (hts _ zmem_arr.2.2.2.2.2.2.1) (hts _ zmem_arr.2.2.2.2.2.2.2.2.1) (hts _ zmem_arr.2.2.2.2.2.2.2.2.2.1) (by omega) ?_ (by omega) (by omega) hd (zk0 hT kk hT.2.2)
            rw [zcat_map]
            omega
          · cases g
        · cases h
      · cases h
    · split at h
      · next y x st0 =>
        split at h
        · next hcd =>
          obtain ⟨rfl, hcat⟩ := hcd
          obtain ⟨rfl, rfl, rfl, rfl⟩ := znx_inj h
          rcases hi with ⟨g, -⟩ | ⟨-, rfl⟩ | ⟨g, -⟩
          · cases g
          · refine va_mmin hx hb (hml.trans hsz.symm) hown (hts _ (zat_mem hf)) (hts _ zmem_arr.2.2.2.2.2.2.2.1) (hts _ zmem_arr.2.2.2.2.2.2.2.2.1) (hts _ zmem_arr.2.2.2.2.2.2.2.2.2.2) (by omega) ?_ (by omega) (by omega) hd (zk0 hT kk hT.2.2)
            rw [zcat_map]
            omega
          · cases g
        · cases h
      · cases h
    · split at h
      · split at h
        · split at h
          · split at h
            · split at h <;> cases h
            · cases h
          · cases h
        · split at h <;> cases h
        · split at h <;> cases h
        · split at h
          · split at h <;> cases h
          · cases h
        · split at h
          · split at h <;> cases h
          · cases h
        · cases h
      · cases h
  · cases h
end ZSTEP3
end
section
section ZMAIN
variable {p : Program} {l : Launch} {e : Env} {R : Room} {s : State} {m : MethodId} {args : Array Value} {below : List Frame} {meth : Method} {c : Code} {H : Heap} {locs : List Loc} {cells slots : Nat} {Q : State → Prop} {Z : zZ} {M : zM} {d : Nat} {ls : Array Slot}
variable {len pc pc' : Nat} {lo lo' st st' : List Value} {S S' : zS}

theorem zkl_use {idx pp : Nat} {v : Int64} {own : String} (h : zKL.lookup (zky M idx) = some (v, pp)) (ho : zCN[M.2.2.2.2.1]? = some own) : Cond.constantLong own idx v ∈ zWs := by
  have hf := zall zkl_ok h
  unfold zklP at hf
  dsimp only at hf
  split at hf
  · next own' h1 =>
    obtain ⟨e1, e2⟩ := zkey ho h1
    rw [e1, e2] at hf
    exact zat_mem hf
  · cases hf
theorem zki_use {idx pp : Nat} {v : Int32} {own : String} (h : zKI.lookup (zky M idx) = some (v, pp)) (ho : zCN[M.2.2.2.2.1]? = some own) : Cond.constant own idx v ∈ zWs := by
  have hf := zall zki_ok h
  unfold zkiP at hf
  dsimp only at hf
  split at hf
  · next own' h1 =>
    obtain ⟨e1, e2⟩ := zkey ho h1
    rw [e1, e2] at hf
    exact zat_mem hf
  · cases hf
theorem zn_gets {idx : Nat} (hd : decode M.2.1 pc = .ok (.getstatic idx, 3)) {k pp : Nat} (hlk : zSL.lookup (zky M idx) = some (k, pp)) (hC : zC Z M p R s m args meth c d) (hT : zT Z s M S H locs ls lo) (K : W p l e R s m args below meth c H locs cells slots Q (F0 m (pc + 3) ls (.ref (zadr Z k) :: st.map (zcv Z)))) : W p l e R s m args below meth c H locs cells slots Q (F0 m pc ls (st.map (zcv Z))) := by
  obtain ⟨hx, hb, hml, hown, hts, hnm, hU, hRf, hRl, hcn, hcn2⟩ := hC
  have hf := zall zsl_ok hlk
  unfold zslP at hf
  dsimp only at hf
  split at hf
  · next own' h1 =>
    obtain ⟨e1, e2⟩ := zkey hcn h1
    rw [e1, e2] at hf
    split at hf
    · next hk =>
      subst hk
      exact va_gets hx hb hU.2.2.2.2.1 hT.2.1 hown (hts _ (zat_mem hf)) (fun x h => h) hd K
    · simp only [Bool.and_eq_true, decide_eq_true_eq] at hf
      obtain ⟨rfl, hf⟩ := hf
      exact va_gets hx hb hU.2.2.2.2.2.1 hT.2.1 hown (hts _ (zat_mem hf)) (fun x h => h) hd K
  · cases hf
theorem zn_br {ins : Instr} {x : Int32} {cnd : Jvm.ClassFile.Cond} {off : Int} (hd : decode M.2.1 pc = .ok (.ifCond cnd off, 3)) (h : zbr (zcmp cnd x 0) pc off lo st S = some (.inl (pc', lo', st', S'))) (hC : zC Z M p R s m args meth c d) (hT : zT Z s M S H locs ls lo) (hc : cells + (zc S' - zc S) ≤ R.cells) (hs : slots + (zs S' - zs S) ≤ R.slots)
    (kk : ∀ (H' : Heap) (locs' : List Loc) (ls' : Array Slot), zT Z s M S' H' locs' ls' lo' → W p l e R s m args below meth c H' locs' (cells + (zc S' - zc S)) (slots + (zs S' - zs S)) Q (F0 m pc' ls' (st'.map (zcv Z)))) : W p l e R s m args below meth c H locs cells slots Q (F0 m pc ls (.int x :: st.map (zcv Z))) := by
  obtain ⟨hx, hb, -⟩ := hC
  unfold zbr at h
  split at h
  · cases h
  · next hneg =>
    have ht : (pc : Int) + off = ((((pc : Int) + off).toNat : Nat) : Int) := by omega
    split at h
    · next hcc =>
      obtain ⟨rfl, rfl, rfl, rfl⟩ := znx_inj h
      have K := zk0 hT kk hT.2.2
      cases cnd
      · exact lv_if_eq hx hb hd ht (fun _ => K) (fun g => absurd g (by simpa [zcmp] using hcc))
      · exact lv_if_ne hx hb hd ht (fun _ => K) (fun g => absurd g (by simpa [zcmp] using hcc))
      · exact lv_if_lt hx hb hd ht (fun _ => K) (fun g => absurd g (by simpa [zcmp] using hcc))
      · exact lv_if_ge hx hb hd ht (fun _ => K) (fun g => absurd g (by simpa [zcmp] using hcc))
      · exact lv_if_gt hx hb hd ht (fun _ => K) (fun g => absurd g (by simpa [zcmp] using hcc))
      · exact lv_if_le hx hb hd ht (fun _ => K) (fun g => absurd g (by simpa [zcmp] using hcc))
    · next hcc =>
      obtain ⟨rfl, rfl, rfl, rfl⟩ := znx_inj h
      have K := zk0 hT kk hT.2.2
      cases cnd
      · exact lv_if_eq hx hb hd ht (fun g => absurd g (by simpa [zcmp] using hcc)) (fun _ => K)
      · exact lv_if_ne hx hb hd ht (fun g => absurd g (by simpa [zcmp] using hcc)) (fun _ => K)
      · exact lv_if_lt hx hb hd ht (fun g => absurd g (by simpa [zcmp] using hcc)) (fun _ => K)
      · exact lv_if_ge hx hb hd ht (fun g => absurd g (by simpa [zcmp] using hcc)) (fun _ => K)
      · exact lv_if_gt hx hb hd ht (fun g => absurd g (by simpa [zcmp] using hcc)) (fun _ => K)
      · exact lv_if_le hx hb hd ht (fun g => absurd g (by simpa [zcmp] using hcc)) (fun _ => K)
theorem zn_bri {x y : Int32} {cnd : Jvm.ClassFile.Cond} {off : Int} (hd : decode M.2.1 pc = .ok (.if_icmp cnd off, 3)) (h : zbr (zcmp cnd x y) pc off lo st S = some (.inl (pc', lo', st', S'))) (hC : zC Z M p R s m args meth c d) (hT : zT Z s M S H locs ls lo) (hc : cells + (zc S' - zc S) ≤ R.cells) (hs : slots + (zs S' - zs S) ≤ R.slots)
    (kk : ∀ (H' : Heap) (locs' : List Loc) (ls' : Array Slot), zT Z s M S' H' locs' ls' lo' → W p l e R s m args below meth c H' locs' (cells + (zc S' - zc S)) (slots + (zs S' - zs S)) Q (F0 m pc' ls' (st'.map (zcv Z)))) : W p l e R s m args below meth c H locs cells slots Q (F0 m pc ls (.int y :: .int x :: st.map (zcv Z))) := by
  obtain ⟨hx, hb, -⟩ := hC
  unfold zbr at h
  split at h
  · cases h
  · next hneg =>
    have ht : (pc : Int) + off = ((((pc : Int) + off).toNat : Nat) : Int) := by omega
    split at h
    · next hcc =>
      obtain ⟨rfl, rfl, rfl, rfl⟩ := znx_inj h
      have K := zk0 hT kk hT.2.2
      cases cnd
      · exact lv_icmp_eq hx hb hd ht (fun _ => K) (fun g => absurd g (by simpa [zcmp] using hcc))
      · exact lv_icmp_ne hx hb hd ht (fun _ => K) (fun g => absurd g (by simpa [zcmp] using hcc))
      · exact lv_icmp_lt hx hb hd ht (fun _ => K) (fun g => absurd g (by simpa [zcmp] using hcc))
      · exact lv_icmp_ge hx hb hd ht (fun _ => K) (fun g => absurd g (by simpa [zcmp] using hcc))
      · exact lv_icmp_gt hx hb hd ht (fun _ => K) (fun g => absurd g (by simpa [zcmp] using hcc))
      · exact lv_icmp_le hx hb hd ht (fun _ => K) (fun g => absurd g (by simpa [zcmp] using hcc))
    · next hcc =>
      obtain ⟨rfl, rfl, rfl, rfl⟩ := znx_inj h
      have K := zk0 hT kk hT.2.2
      cases cnd
      · exact lv_icmp_eq hx hb hd ht (fun g => absurd g (by simpa [zcmp] using hcc)) (fun _ => K)
      · exact lv_icmp_ne hx hb hd ht (fun g => absurd g (by simpa [zcmp] using hcc)) (fun _ => K)
      · exact lv_icmp_lt hx hb hd ht (fun g => absurd g (by simpa [zcmp] using hcc)) (fun _ => K)
      · exact lv_icmp_ge hx hb hd ht (fun g => absurd g (by simpa [zcmp] using hcc)) (fun _ => K)
      · exact lv_icmp_gt hx hb hd ht (fun g => absurd g (by simpa [zcmp] using hcc)) (fun _ => K)
      · exact lv_icmp_le hx hb hd ht (fun g => absurd g (by simpa [zcmp] using hcc)) (fun _ => K)
theorem zn_jp {off : Int} (h : zjp pc off lo st S = some (.inl (pc', lo', st', S'))) (hT : zT Z s M S H locs ls lo) (kk : ∀ (H' : Heap) (locs' : List Loc) (ls' : Array Slot), zT Z s M S' H' locs' ls' lo' → W p l e R s m args below meth c H' locs' (cells + (zc S' - zc S)) (slots + (zs S' - zs S)) Q (F0 m pc' ls' (st'.map (zcv Z)))) : ∃ tgt : Nat, (pc : Int) + off = (tgt : Int) ∧ W p l e R s m args below meth c H locs cells slots Q (F0 m tgt ls (st.map (zcv Z))) := by
  unfold zjp at h
  split at h
  · cases h
  · next hneg =>
    obtain ⟨rfl, rfl, rfl, rfl⟩ := znx_inj h
    exact ⟨_, by omega, zk0 hT kk hT.2.2⟩

set_option maxHeartbeats 4000000 in
theorem zexec_next {ins : Instr} (hd : decode M.2.1 pc = .ok (ins, len)) (h : zexec M ins len pc lo st S = some (.inl (pc', lo', st', S'))) (hC : zC Z M p R s m args meth c d) (hT : zT Z s M S H locs ls lo) (hc : cells + (zc S' - zc S) ≤ R.cells) (hs : slots + (zs S' - zs S) ≤ R.slots)
    (kk : ∀ (H' : Heap) (locs' : List Loc) (ls' : Array Slot), zT Z s M S' H' locs' ls' lo' → W p l e R s m args below meth c H' locs' (cells + (zc S' - zc S)) (slots + (zs S' - zs S)) Q (F0 m pc' ls' (st'.map (zcv Z)))): W p l e R s m args below meth c H locs cells slots Q (F0 m pc ls (st.map (zcv Z))) := by
  obtain ⟨hx, hb, hml, hown, hts, hnm, hU, hRf, hRl, hcn, hcn2⟩ := id hC
  cases ins with
  | iconst i =>
    simp only [zexec] at h
    split at h
    · next hl =>
      subst hl
      obtain ⟨rfl, rfl, rfl, rfl⟩ := znx_inj h
      exact lv_iconst hx hb hd rfl (zk0 hT kk hT.2.2)
    · cases h
  | bipush i =>
    simp only [zexec] at h
    split at h
    · next hl =>
      subst hl
      obtain ⟨rfl, rfl, rfl, rfl⟩ := znx_inj h
      exact lv_bipush hx hb hd rfl (zk0 hT kk hT.2.2)
    · cases h
  | sipush i =>
    simp only [zexec] at h
    split at h
    · next hl =>
      subst hl
      obtain ⟨rfl, rfl, rfl, rfl⟩ := znx_inj h
      exact lv_sipush hx hb hd rfl (zk0 hT kk hT.2.2)
    · cases h
  | lconst i =>
    simp only [zexec] at h
    split at h
    · next hl =>
      subst hl
      obtain ⟨rfl, rfl, rfl, rfl⟩ := znx_inj h
      exact lv_lconst hx hb hd rfl (zk0 hT kk hT.2.2)
    · cases h
  | ldc idx =>
    simp only [zexec] at h
    split at h
    · next hl =>
      subst hl
      split at h
      · next x pp hlk =>
        obtain ⟨rfl, rfl, rfl, rfl⟩ := znx_inj h
        exact lv_ldc hx hb hown (hts _ (zki_use hlk hcn)) hd (zk0 hT kk hT.2.2)
      · cases h
    · cases h
  | ldc_w idx =>
    simp only [zexec] at h
    split at h
    · next hl =>
      subst hl
      split at h
      · next x pp hlk =>
        obtain ⟨rfl, rfl, rfl, rfl⟩ := znx_inj h
        exact lv_ldcw hx hb hown (hts _ (zki_use hlk hcn)) hd (zk0 hT kk hT.2.2)
      · cases h
    · cases h
  | ldc2_w idx =>
    simp only [zexec] at h
    split at h
    · next hl =>
      subst hl
      split at h
      · next x pp hlk =>
        obtain ⟨rfl, rfl, rfl, rfl⟩ := znx_inj h
        exact lv_ldc2 hx hb hown (hts _ (zkl_use hlk hcn)) hd (zk0 hT kk hT.2.2)
      · cases h
    · cases h
  | iload_n i =>
    simp only [zexec] at h
    split at h
    · next hl =>
      subst hl
      exact zn_ld hd (Or.inl ⟨rfl, Or.inl ⟨_, rfl, rfl, rfl, rfl⟩⟩) h hC hT hc hs kk
    · cases h
  | iload i =>
    simp only [zexec] at h
    split at h
    · next hl =>
      subst hl
      exact zn_ld hd (Or.inl ⟨rfl, Or.inr ⟨rfl, rfl, rfl⟩⟩) h hC hT hc hs kk
    · cases h
  | istore_n i =>
    simp only [zexec] at h
    split at h
    · next hl =>
      subst hl
      exact zn_so hd (Or.inl ⟨rfl, Or.inl ⟨_, rfl, rfl, rfl, rfl⟩⟩) h hC hT hc hs kk
    · cases h
  | istore i =>
    simp only [zexec] at h
    split at h
    · next hl =>
      subst hl
      exact zn_so hd (Or.inl ⟨rfl, Or.inr ⟨rfl, rfl, rfl⟩⟩) h hC hT hc hs kk
    · cases h
  | lload_n i =>
    simp only [zexec] at h
    split at h
    · next hl =>
      subst hl
      exact zn_ld hd (Or.inr (Or.inl ⟨rfl, Or.inl ⟨_, rfl, rfl, rfl, rfl⟩⟩)) h hC hT hc hs kk
    · cases h
  | lload i =>
    simp only [zexec] at h
    split at h
    · next hl =>
      subst hl
      exact zn_ld hd (Or.inr (Or.inl ⟨rfl, Or.inr ⟨rfl, rfl, rfl⟩⟩)) h hC hT hc hs kk
    · cases h
  | lstore_n i =>
    simp only [zexec] at h
    split at h
    · next hl =>
      subst hl
      exact zn_so hd (Or.inr (Or.inl ⟨rfl, Or.inl ⟨_, rfl, rfl, rfl, rfl⟩⟩)) h hC hT hc hs kk
    · cases h
  | lstore i =>
    simp only [zexec] at h
    split at h
    · next hl =>
      subst hl
      exact zn_so hd (Or.inr (Or.inl ⟨rfl, Or.inr ⟨rfl, rfl, rfl⟩⟩)) h hC hT hc hs kk
    · cases h
  | aload_n i =>
    simp only [zexec] at h
    split at h
    · next hl =>
      subst hl
      exact zn_ld hd (Or.inr (Or.inr ⟨rfl, Or.inl ⟨_, rfl, rfl, rfl, rfl⟩⟩)) h hC hT hc hs kk
    · cases h
  | aload i =>
    simp only [zexec] at h
    split at h
    · next hl =>
      subst hl
      exact zn_ld hd (Or.inr (Or.inr ⟨rfl, Or.inr ⟨rfl, rfl, rfl⟩⟩)) h hC hT hc hs kk
    · cases h
  | astore_n i =>
    simp only [zexec] at h
    split at h
    · next hl =>
      subst hl
      exact zn_so hd (Or.inr (Or.inr ⟨rfl, Or.inl ⟨_, rfl, rfl, rfl, rfl⟩⟩)) h hC hT hc hs kk
    · cases h
  | astore i =>
    simp only [zexec] at h
    split at h
    · next hl =>
      subst hl
      exact zn_so hd (Or.inr (Or.inr ⟨rfl, Or.inr ⟨rfl, rfl, rfl⟩⟩)) h hC hT hc hs kk
    · cases h
  | iinc i n =>
    simp only [zexec] at h
    split at h
    · next hl =>
      subst hl
      split at h
      · next x hv =>
        obtain ⟨rfl, rfl, rfl, rfl⟩ := znx_inj h
        have hL := hT.2.2
        have hm : (i, Value.int x) ∈ zas Z lo := zas_mem.mpr ⟨.int x, hv, by simp, rfl⟩
        obtain ⟨q, hq⟩ := List.getElem?_of_mem hm
        exact lv_iinc hx hb hd hL.2 hq rfl (by rw [← hL.1]; exact (List.getElem?_eq_some_iff.mp hv).1) rfl (fun ls' hl => zk0 hT kk (zL_st1 hL hl))
      · cases h
    · cases h
  | iadd =>
    simp only [zexec] at h
    split at h
    · next hl =>
      subst hl
      unfold zii at h
      split at h
      · obtain ⟨rfl, rfl, rfl, rfl⟩ := znx_inj h
        exact lv_iadd hx hb hd (zk0 hT kk hT.2.2)
      · cases h
    · cases h
  | isub =>
    simp only [zexec] at h
    split at h
    · next hl =>
      subst hl
      unfold zii at h
      split at h
      · obtain ⟨rfl, rfl, rfl, rfl⟩ := znx_inj h
        exact lv_isub hx hb hd (zk0 hT kk hT.2.2)
      · cases h
    · cases h
  | imul =>
    simp only [zexec] at h
    split at h
    · next hl =>
      subst hl
      unfold zii at h
      split at h
      · obtain ⟨rfl, rfl, rfl, rfl⟩ := znx_inj h
        exact lv_imul hx hb hd (zk0 hT kk hT.2.2)
      · cases h
    · cases h
  | iand =>
    simp only [zexec] at h
    split at h
    · next hl =>
      subst hl
      unfold zii at h
      split at h
      · obtain ⟨rfl, rfl, rfl, rfl⟩ := znx_inj h
        exact lv_iand hx hb hd (zk0 hT kk hT.2.2)
      · cases h
    · cases h
  | ior =>
    simp only [zexec] at h
    split at h
    · next hl =>
      subst hl
      unfold zii at h
      split at h
      · obtain ⟨rfl, rfl, rfl, rfl⟩ := znx_inj h
        exact lv_ior hx hb hd (zk0 hT kk hT.2.2)
      · cases h
    · cases h
  | ixor =>
    simp only [zexec] at h
    split at h
    · next hl =>
      subst hl
      unfold zii at h
      split at h
      · obtain ⟨rfl, rfl, rfl, rfl⟩ := znx_inj h
        exact lv_ixor hx hb hd (zk0 hT kk hT.2.2)
      · cases h
    · cases h
  | ishl =>
    simp only [zexec] at h
    split at h
    · next hl =>
      subst hl
      unfold zii at h
      split at h
      · obtain ⟨rfl, rfl, rfl, rfl⟩ := znx_inj h
        exact lv_ishl hx hb hd (zk0 hT kk hT.2.2)
      · cases h
    · cases h
  | ishr =>
    simp only [zexec] at h
    split at h
    · next hl =>
      subst hl
      unfold zii at h
      split at h
      · obtain ⟨rfl, rfl, rfl, rfl⟩ := znx_inj h
        exact lv_ishr hx hb hd (zk0 hT kk hT.2.2)
      · cases h
    · cases h
  | iushr =>
    simp only [zexec] at h
    split at h
    · next hl =>
      subst hl
      unfold zii at h
      split at h
      · obtain ⟨rfl, rfl, rfl, rfl⟩ := znx_inj h
        exact lv_iushr hx hb hd rfl (zk0 hT kk hT.2.2)
      · cases h
    · cases h
  | ladd =>
    simp only [zexec] at h
    split at h
    · next hl =>
      subst hl
      unfold zll at h
      split at h
      · obtain ⟨rfl, rfl, rfl, rfl⟩ := znx_inj h
        exact lv_ladd hx hb hd (zk0 hT kk hT.2.2)
      · cases h
    · cases h
  | lsub =>
    simp only [zexec] at h
    split at h
    · next hl =>
      subst hl
      unfold zll at h
      split at h
      · obtain ⟨rfl, rfl, rfl, rfl⟩ := znx_inj h
        exact lv_lsub hx hb hd (zk0 hT kk hT.2.2)
      · cases h
    · cases h
  | lmul =>
    simp only [zexec] at h
    split at h
    · next hl =>
      subst hl
      unfold zll at h
      split at h
      · obtain ⟨rfl, rfl, rfl, rfl⟩ := znx_inj h
        exact lv_lmul hx hb hd (zk0 hT kk hT.2.2)
      · cases h
    · cases h
  | land =>
    simp only [zexec] at h
    split at h
    · next hl =>
      subst hl
      unfold zll at h
      split at h
      · obtain ⟨rfl, rfl, rfl, rfl⟩ := znx_inj h
        exact lv_land hx hb hd (zk0 hT kk hT.2.2)
      · cases h
    · cases h
  | lor =>
    simp only [zexec] at h
    split at h
    · next hl =>
      subst hl
      unfold zll at h
      split at h
      · obtain ⟨rfl, rfl, rfl, rfl⟩ := znx_inj h
        exact lv_lor hx hb hd (zk0 hT kk hT.2.2)
      · cases h
    · cases h
  | lxor =>
    simp only [zexec] at h
    split at h
    · next hl =>
      subst hl
      unfold zll at h
      split at h
      · obtain ⟨rfl, rfl, rfl, rfl⟩ := znx_inj h
        exact lv_lxor hx hb hd (zk0 hT kk hT.2.2)
      · cases h
    · cases h
  | idiv =>
    simp only [zexec] at h
    split at h
    · next hl =>
      subst hl
      unfold ziiD at h
      split at h
      · split at h
        · cases h
        · next hne =>
          obtain ⟨rfl, rfl, rfl, rfl⟩ := znx_inj h
          exact lv_idiv hx hb hd hne (zk0 hT kk hT.2.2)
      · cases h
    · cases h
  | irem =>
    simp only [zexec] at h
    split at h
    · next hl =>
      subst hl
      unfold ziiD at h
      split at h
      · split at h
        · cases h
        · next hne =>
          obtain ⟨rfl, rfl, rfl, rfl⟩ := znx_inj h
          exact lv_irem hx hb hd hne (zk0 hT kk hT.2.2)
      · cases h
    · cases h
  | ldiv =>
    simp only [zexec] at h
    split at h
    · next hl =>
      subst hl
      unfold zllD at h
      split at h
      · split at h
        · cases h
        · next hne =>
          obtain ⟨rfl, rfl, rfl, rfl⟩ := znx_inj h
          exact lv_ldiv hx hb hd hne (zk0 hT kk hT.2.2)
      · cases h
    · cases h
  | lrem =>
    simp only [zexec] at h
    split at h
    · next hl =>
      subst hl
      unfold zllD at h
      split at h
      · split at h
        · cases h
        · next hne =>
          obtain ⟨rfl, rfl, rfl, rfl⟩ := znx_inj h
          exact lv_lrem hx hb hd hne (zk0 hT kk hT.2.2)
      · cases h
    · cases h
  | lushr =>
    simp only [zexec] at h
    split at h
    · next hl =>
      subst hl
      unfold zli at h
      split at h
      · obtain ⟨rfl, rfl, rfl, rfl⟩ := znx_inj h
        exact lv_lushr hx hb hd rfl (zk0 hT kk hT.2.2)
      · cases h
    · cases h
  | lshl =>
    simp only [zexec] at h
    split at h
    · next hl =>
      subst hl
      unfold zli at h
      split at h
      · obtain ⟨rfl, rfl, rfl, rfl⟩ := znx_inj h
        exact lv_lshl hx hb hd rfl (zk0 hT kk hT.2.2)
      · cases h
    · cases h
  | i2l =>
    simp only [zexec] at h
    split at h
    · next hl =>
      subst hl
      split at h
      · obtain ⟨rfl, rfl, rfl, rfl⟩ := znx_inj h
        exact lv_i2l hx hb hd rfl (zk0 hT kk hT.2.2)
      · cases h
    · cases h
  | l2i =>
    simp only [zexec] at h
    split at h
    · next hl =>
      subst hl
      split at h
      · obtain ⟨rfl, rfl, rfl, rfl⟩ := znx_inj h
        exact lv_l2i hx hb hd rfl (zk0 hT kk hT.2.2)
      · cases h
    · cases h
  | i2b =>
    simp only [zexec] at h
    split at h
    · next hl =>
      subst hl
      split at h
      · obtain ⟨rfl, rfl, rfl, rfl⟩ := znx_inj h
        exact lv_i2b hx hb hd rfl (zk0 hT kk hT.2.2)
      · cases h
    · cases h
  | lcmp =>
    simp only [zexec] at h
    split at h
    · next hl =>
      subst hl
      split at h
      · obtain ⟨rfl, rfl, rfl, rfl⟩ := znx_inj h
        exact W.lcmp hx hb hd (zk0 hT kk hT.2.2)
      · cases h
    · cases h
  | dup =>
    simp only [zexec] at h
    split at h
    · next hl =>
      subst hl
      split at h
      · next v st0 =>
        split at h
        · next hv =>
          obtain ⟨rfl, rfl, rfl, rfl⟩ := znx_inj h
          exact lv_dup hx hb hd ((zcv_cat Z v).trans hv) (zk0 hT kk hT.2.2)
        · cases h
      · cases h
    · cases h
  | pop =>
    simp only [zexec] at h
    split at h
    · next hl =>
      subst hl
      split at h
      · next v st0 =>
        split at h
        · next hv =>
          obtain ⟨rfl, rfl, rfl, rfl⟩ := znx_inj h
          exact lv_pop hx hb hd ((zcv_cat Z v).trans hv) (zk0 hT kk hT.2.2)
        · cases h
      · cases h
    · cases h
  | dup2 =>
    simp only [zexec] at h
    split at h
    · next hl =>
      subst hl
      split at h
      · next v st0 =>
        split at h
        · next hv =>
          obtain ⟨rfl, rfl, rfl, rfl⟩ := znx_inj h
          exact lv_dup2_2 hx hb hd ((zcv_cat Z v).trans hv) (zk0 hT kk hT.2.2)
        · next hv =>
          split at h
          · next w st1 =>
            split at h
            · next hw =>
              obtain ⟨rfl, rfl, rfl, rfl⟩ := znx_inj h
              exact lv_dup2_11 hx hb hd ((zcv_cat Z v).trans (by rcases lv_cat v with g | g; exact g; exact absurd g hv)) ((zcv_cat Z w).trans hw) (zk0 hT kk hT.2.2)
            · cases h
          · cases h
      · cases h
    · cases h
  | goto off =>
    simp only [zexec] at h
    split at h
    · next hl =>
      subst hl
      obtain ⟨tgt, ht, K⟩ := zn_jp h hT kk
      exact lv_goto hx hb hd ht K
    · cases h
  | ifCond cnd off =>
    simp only [zexec] at h
    split at h
    · next hl =>
      subst hl
      split at h
      · next x st0 =>
        exact zn_br (ins := .nop) hd h hC hT hc hs kk
      · cases h
    · cases h
  | if_icmp cnd off =>
    simp only [zexec] at h
    split at h
    · next hl =>
      subst hl
      split at h
      · next y x st0 =>
        exact zn_bri hd h hC hT hc hs kk
      · cases h
    · cases h
  | tableswitch df lw hi offs =>
    simp only [zexec] at h
    split at h
    · next x st0 =>
      split at h
      · next hr =>
        obtain ⟨tgt, ht, K⟩ := zn_jp h hT kk
        exact lv_tableOut hx hb hd hr ht K
      · next hr =>
        split at h
        · next off ho =>
          obtain ⟨tgt, ht, K⟩ := zn_jp h hT kk
          exact lv_tableIn hx hb hd (fun g => hr (Or.inl g)) (fun g => hr (Or.inr g)) ho ht K
        · cases h
    · cases h
  | lookupswitch df ps =>
    simp only [zexec] at h
    split at h
    · next x st0 =>
      split at h
      · next hr =>
        obtain ⟨tgt, ht, K⟩ := zn_jp h hT kk
        exact lv_lookup hx hb hd hr rfl ht K
      · cases h
    · cases h
  | getfield idx =>
    simp only [zexec] at h
    split at h
    · next hl =>
      subst hl
      exact zn_getf hd h hC hT hc hs kk
    · cases h
  | putfield idx =>
    simp only [zexec] at h
    split at h
    · next hl =>
      subst hl
      exact zn_putf hd h hC hT hc hs kk
    · cases h
  | getstatic idx =>
    simp only [zexec] at h
    split at h
    · next hl =>
      subst hl
      split at h
      · next k pp hlk =>
        obtain ⟨rfl, rfl, rfl, rfl⟩ := znx_inj h
        exact zn_gets hd hlk hC hT (zk0 hT kk hT.2.2)
      · cases h
    · cases h
  | iaload =>
    simp only [zexec] at h
    split at h
    · next hl =>
      subst hl
      exact zn_ald hd h hC hT hc hs kk
    · cases h
  | iastore =>
    simp only [zexec] at h
    split at h
    · next hl =>
      subst hl
      exact zn_ast hd h hC hT hc hs kk
    · cases h
  | aaload =>
    simp only [zexec] at h
    split at h
    · next hl =>
      subst hl
      exact zn_aald hd h hC hT hc hs kk
    · cases h
  | aastore =>
    simp only [zexec] at h
    split at h
    · next hl =>
      subst hl
      exact zn_aast hd h hC hT hc hs kk
    · cases h
  | arraylength =>
    simp only [zexec] at h
    split at h
    · next hl =>
      subst hl
      exact zn_alen hd h hC hT hc hs kk
    · cases h
  | new idx =>
    simp only [zexec] at h
    split at h
    · next hl =>
      subst hl
      exact zn_new hd h hC hT hc hs kk
    · cases h
  | anewarray idx =>
    simp only [zexec] at h
    split at h
    · next hl =>
      subst hl
      exact zn_anew hd h hC hT hc hs kk
    · cases h
  | newarray ty =>
    cases ty with
    | int =>
      simp only [zexec] at h
      split at h
      · next hl =>
        subst hl
        exact zn_newa hd h hC hT hc hs kk
      · cases h
    | _ => cases h
  | multianewarray idx dm =>
    cases dm with
    | zero => cases h
    | succ n =>
      cases n with
      | zero => cases h
      | succ n =>
        cases n with
        | zero =>
          simp only [zexec] at h
          split at h
          · next hl =>
            subst hl
            exact zn_mnew hd h hC hT hc hs kk
          · cases h
        | succ n => simp [zexec] at h
  | invokevirtual idx =>
    simp only [zexec] at h
    split at h
    · next hl =>
      subst hl
      exact zn_inv (Or.inl ⟨rfl, rfl⟩) hd h hC hT hc hs kk
    · cases h
  | invokestatic idx =>
    simp only [zexec] at h
    split at h
    · next hl =>
      subst hl
      exact zn_inv (Or.inr (Or.inl ⟨rfl, rfl⟩)) hd h hC hT hc hs kk
    · cases h
  | invokespecial idx =>
    simp only [zexec] at h
    split at h
    · next hl =>
      subst hl
      exact zn_inv (Or.inr (Or.inr ⟨rfl, rfl⟩)) hd h hC hT hc hs kk
    · cases h
  | ireturn =>
    simp only [zexec] at h
    split at h
    · next hl =>
      subst hl
      unfold zret at h
      split at h <;> first | (cases h; done) | (split at h <;> cases h)
    · cases h
  | lreturn =>
    simp only [zexec] at h
    split at h
    · next hl =>
      subst hl
      unfold zret at h
      split at h <;> first | (cases h; done) | (split at h <;> cases h)
    · cases h
  | return_ =>
    simp only [zexec] at h
    split at h
    · next hl =>
      subst hl
      unfold zret at h
      split at h <;> first | (cases h; done) | (split at h <;> cases h)
    · cases h
  | _ => cases h
end ZMAIN
end
section
section ZIND
variable {p : Program} {l : Launch} {e : Env} {R : Room} {s : State} {m : MethodId} {args : Array Value} {below : List Frame} {meth : Method} {c : Code} {H : Heap} {locs : List Loc} {cells slots : Nat} {Q : State → Prop} {Z : zZ} {M : zM} {d : Nat} {ls : Array Slot}
variable {len pc pc' : Nat} {lo lo' st st' : List Value} {S S' : zS}

def zPc (Z : zZ) (as : List Value) (S : zS) : Array Value → State → Prop := va_Pc (as.map (zcv Z)) (fun U => zH Z S U.heap ∧ zU Z U)
def zQc (Z : zZ) (v : Option Value) (S' : zS) : Array Value → State → Outcome → State → Prop := fun _ st o t => o = .returned (v.map (zcv Z)) ∧ zH Z S' t.heap ∧ va_F (zA Z) st t
theorem zblind (Z : zZ) (as : List Value) (S : zS) : FrameBlind (zPc Z as S) := fun a U g mk h => ⟨h.1, h.2.1, zU_moved (locs := []) h.2.2 (State.WarmedH.refl U) va_S.rf rfl⟩
theorem zpre (hU : zU Z s) (hT : zT Z s M S H locs ls lo) (as : List Value) : PreS s H (zPc Z as S) (as.map (zcv Z)) :=
  ⟨zblind Z as S, fun U hh hW => ⟨rfl, by rw [hh]; exact hT.1, zU_moved hU hW hT.2.1 hh⟩⟩
theorem zfin {rest st0 : List Value} {v : Option Value} {a : Array Value} {mc ms : Nat} (hr : va_Run p l e R s m args below meth c H locs cells slots mc ms (F0 m pc ls st0) (rest.map (zcv Z)) (zQc Z v S' a) (zA Z)) (hT : zT Z s M S H locs ls lo)
    (kk : ∀ (H' : Heap) (locs' : List Loc), zT Z s M S' H' locs' ls lo → W p l e R s m args below meth c H' locs' (cells + mc) (slots + ms) Q (F0 m (pc + 3) ls ((v.toList ++ rest).map (zcv Z)))) : W p l e R s m args below meth c H locs cells slots Q (F0 m pc ls st0) := by
  intro T hTh X
  obtain ⟨v', st₀, t, T', L, h0, X', hL, e1, e2, ⟨hv, hH, hF⟩, stp⟩ := hr T hTh X
  cases hv
  have hS := hT.2.1
  obtain ⟨t2, a1, b1⟩ := kk t.heap (locs ++ L) ⟨hH, ⟨Nat.le_trans hS.1 (by rw [← h0]; exact hF.1), fun q h1 h2 => by
      rw [hF.2 q (by rw [h0]; exact Nat.lt_of_lt_of_le h1 hS.1) h2, h0]
      exact hS.2.1 q h1 h2, fun q hq => by
      rcases List.mem_append.mp hq with h | h
      · exact hS.2.2 q h
      · exact hL q h⟩, hT.2.2⟩ T' e1 X'
  refine ⟨t2, stp t2 ?_, b1⟩
  rw [List.map_append] at a1
  cases v with
  | none => exact a1
  | some v => exact a1
theorem zcall_inv {ins : Instr} {idx kd : Nat} (hd : decode M.2.1 pc = .ok (ins, 3)) {mi' : Nat} {as rest : List Value} (hi : (kd = 0 ∧ ins = .invokevirtual idx) ∨ (kd = 1 ∧ ins = .invokestatic idx) ∨ (kd = 2 ∧ ins = .invokespecial idx)) (h : zinv M idx kd (pc + 3) lo S st = some (.inr (.inl (mi', as, pc', rest)))) (hC : zC Z M p R s m args meth c d) (hT : zT Z s M S H locs ls lo) {M' : zM} (hM' : zProg[mi']? = some M') {v : Option Value} {rm : Room} {mc ms : Nat} (hMet : mi' < 212 → Met l M'.1 (zco M' :: zWs) rm (zPc Z as S) (zQc Z v S') mc ms (zA Z))
    (hrc : rm.cells = mc) (hrs : rm.slots = ms) (hrf : rm.frames + 1 ≤ R.frames) (hrl : mi' < 212 → 8 + (M'.2.2.1 + 11) + rm.locals ≤ R.locals) (hf : cells + mc ≤ R.cells ∧ slots + ms ≤ R.slots) (kk : ∀ (H' : Heap) (locs' : List Loc), zT Z s M S' H' locs' ls lo → W p l e R s m args below meth c H' locs' (cells + mc) (slots + ms) Q (F0 m pc' ls ((v.toList ++ rest).map (zcv Z)))) : W p l e R s m args below meth c H locs cells slots Q (F0 m pc ls (st.map (zcv Z))) := by
  obtain ⟨hx, hb, hml, hown, hts, hnm, hU, hRf, hRl, hcn, hcn2⟩ := hC
  have hsz : ls.size = M.2.2.1 := hT.2.2.2.1
  unfold zinv at h
  split at h
  · next t mi ps hlk =>
    obtain ⟨p1, p2, p3, p4⟩ := ps
    obtain ⟨hfo, ho, hidx⟩ := zml_own hlk hcn
    unfold zmlP at hfo
    dsimp only at hfo
    rw [ho, hidx] at hfo
    dsimp only at hfo
    split at h
    · split at h
      · split at h <;> cases h
      · cases h
    · split at h
      · split at h
        · split at h <;> cases h
        · cases h
      · cases h
    · split at h
      · split at h <;> cases h
      · cases h
    · split at h
      · split at h <;> cases h
      · cases h
    · next n3 n4 n7 n8 =>
      split at h
      · next M2 hM2 =>
        have fix : CallFix p m c M.2.1 M.2.2.1 s args zWs M.1.cls := ⟨hx, hb, hml, hown, hts⟩
        split at hfo
        · exact absurd rfl n3
        · exact absurd rfl n4
        · exact absurd rfl n7
        · exact absurd rfl n8
        rw [hM2] at hfo
        dsimp only at hfo
        simp only [Bool.and_eq_true, decide_eq_true_eq] at hfo
        obtain ⟨hlt, hini, hfo⟩ := hfo
        have hpr := zpr_at hM2 hlt
        unfold zprP at hpr
        simp only [Bool.and_eq_true, decide_eq_true_eq] at hpr
        obtain ⟨-, hmh, -, -⟩ := hpr
        have hG : GoodIn zWs (zco M2 :: zWs) := fun w hw => by
          rcases List.mem_cons.mp hw with rfl | hw
          · exact zWs_good _ (zco_ok hM2 hlt)
          · exact zWs_good w hw
        have CB : ∀ (y : MethodName), (Cond.methodLink M.1.cls idx M2.1).before args s = true → rm.frames + 1 ≤ R.frames ∧ 8 + (M2.2.2.1 + 11) + rm.locals ≤ R.locals → CallB R s args M.1.cls idx M2.1 M2.2.1 M2.2.2.1 M2.2.2.2.1 (zco M2 :: zWs) rm mc ms M2.2.2.2.2.2.2 := fun _ hl hR => callB_of M2.2.2.2.2.2.2 hts hG rfl hrc hrs (hts _ (zat_mem hini)) hl hmh hR
        split at h
        · split at h
          · next k rest0 hdrop =>
            split at h
            · next ci rs he =>
              split at h
              · next hcd =>
                obtain ⟨rfl, hcls, hci, hcat⟩ := hcd
                cases h
                cases hM'.symm.trans hM2
                simp only [Bool.and_eq_true] at hfo
                have hn : M'.2.2.2.2.2.2 < st.length := by
                  rcases Nat.lt_or_ge M'.2.2.2.2.2.2 st.length with g | g
                  · exact g
                  · rw [List.drop_eq_nil_of_le g] at hdrop; cases hdrop
                have hst : st.map (zcv Z) = (((st.take M'.2.2.2.2.2.2).reverse).map (zcv Z)).reverse ++ .ref (zadr Z k) :: rest.map (zcv Z) := by
                  rw [← List.map_reverse, List.reverse_reverse, show Value.ref (zadr Z k) :: rest.map (zcv Z) = (Value.ref k :: rest).map (zcv Z) from rfl, ← hdrop, ← List.map_append, List.take_append_drop]
                have h3 := zI0_k3 hT.1.2.2 he (zI0_ci hci)
                obtain ⟨q, hq⟩ : ∃ q, vwCl[ci]? = some q := by
                  match ci, hci with
                  | 0, _ => exact ⟨_, rfl⟩
                  | 1, _ => exact ⟨_, rfl⟩
                  | 2, _ => exact ⟨_, rfl⟩
                  | 3, _ => exact ⟨_, rfl⟩
                  | 4, _ => exact ⟨_, rfl⟩
                obtain ⟨_, -, -, -, -, -, -, -, hcq⟩ := zcl_ok hq
                have hqc : q.1 = M'.1.cls := Option.some.inj (hcq.symm.trans hcls)
                have hrcv := va_recv hU.1 (zP1 (hT.1.1 k _ h3 he)) (q0 := 0) hq rfl
                rw [hqc] at hrcv
                rcases hi with ⟨-, rfl⟩ | ⟨g, -⟩ | ⟨g, -⟩
                · have hp := zpre hU hT (.ref k :: (st.take M'.2.2.2.2.2.2).reverse)
                  exact zfin (a := (Value.ref (zadr Z k) :: ((st.take M'.2.2.2.2.2.2).reverse).map (zcv Z)).toArray) (va_runV (C := M'.1.cls) (g := F0 m pc ls (st.map (zcv Z))) fix (hMet hlt) ⟨CB M'.1 (hts _ (zat_mem hfo.1)) ⟨hrf, hrl hlt⟩, hts _ (zat_mem hfo.2.1), hts _ (zat_mem hfo.2.2)⟩ ⟨hp.1, hrcv, hp.2⟩ rfl (by simp; omega) hsz hst (by show 2 * 0 + _ ≤ 8; rw [zcat_map]; omega) hd hf) hT kk
                · cases g
                · cases g
              · cases h
            · cases h
          · cases h
        · split at h
          · next hcd =>
            obtain ⟨rfl, hcat, hn⟩ := hcd
            cases h
            cases hM'.symm.trans hM2
            simp only [Bool.and_eq_true] at hfo
            have hst : st.map (zcv Z) = (((st.take M'.2.2.2.2.2.2).reverse).map (zcv Z)).reverse ++ (st.drop M'.2.2.2.2.2.2).map (zcv Z) := by
              rw [← List.map_reverse, List.reverse_reverse, ← List.map_append, List.take_append_drop]
            rcases hi with ⟨g, -⟩ | ⟨-, rfl⟩ | ⟨g, -⟩
            · cases g
            · exact zfin (a := (((st.take M'.2.2.2.2.2.2).reverse).map (zcv Z)).toArray) (va_runS (g := F0 m pc ls (st.map (zcv Z))) fix (hMet hlt) ⟨CB M'.1 (hts _ (zat_mem hfo.1)) ⟨hrf, hrl hlt⟩, hts _ (zat_mem hfo.2)⟩ (zpre hU hT _) rfl (by simp; omega) hsz hst (by show 2 * 0 + _ ≤ 8; rw [zcat_map]; omega) hd hf) hT kk
            · cases g
          · cases h
        · split at h
          · next hcd =>
            obtain ⟨rfl, hcat, hn⟩ := hcd
            cases h
            cases hM'.symm.trans hM2
            simp only [Bool.and_eq_true, decide_eq_true_eq] at hfo
            have hst : st.map (zcv Z) = (((st.take M'.2.2.2.2.2.2).reverse).map (zcv Z)).reverse ++ (st.drop M'.2.2.2.2.2.2).map (zcv Z) := by
              rw [← List.map_reverse, List.reverse_reverse, ← List.map_append, List.take_append_drop]
            have hnw : va_Nw (.methodLinkNest M.1.cls idx M'.1 "CubeHops") s := hU.2.2.2.2.2.2.2.2.2.1 _ (List.mem_filter.mpr ⟨List.mem_of_getElem? hfo.1, rfl⟩)
            rcases hi with ⟨g, -⟩ | ⟨-, rfl⟩ | ⟨g, -⟩
            · cases g
            · exact zfin (a := (((st.take M'.2.2.2.2.2.2).reverse).map (zcv Z)).toArray) (va_runSN (g := F0 m pc ls (st.map (zcv Z))) (host := "CubeHops") fix (hMet hlt) ⟨va_cnB M'.2.2.2.2.2.2 hts hG rfl hrc hrs hnw (hts _ (zat_mem hini)) hmh ⟨hrf, hrl hlt⟩, hts _ (zat_mem hfo.2), trivial⟩ (zpre hU hT _) rfl (by simp; omega) hsz hst (by show 2 * 0 + _ ≤ 8; rw [zcat_map]; omega) hd hf) hT kk
            · cases g
          · cases h
        · split at h
          · next k rest0 hdrop =>
            split at h
            · next hcd =>
              obtain ⟨rfl, hcat⟩ := hcd
              cases h
              cases hM'.symm.trans hM2
              simp only [Bool.and_eq_true, decide_eq_true_eq] at hfo
              have hn : M'.2.2.2.2.2.2 < st.length := by
                rcases Nat.lt_or_ge M'.2.2.2.2.2.2 st.length with g | g
                · exact g
                · rw [List.drop_eq_nil_of_le g] at hdrop; cases hdrop
              have hst : st.map (zcv Z) = (((st.take M'.2.2.2.2.2.2).reverse).map (zcv Z)).reverse ++ .ref (zadr Z k) :: rest.map (zcv Z) := by
                rw [← List.map_reverse, List.reverse_reverse, show Value.ref (zadr Z k) :: rest.map (zcv Z) = (Value.ref k :: rest).map (zcv Z) from rfl, ← hdrop, ← List.map_append, List.take_append_drop]
              have CB2 := CB M'.1 (hts _ (zat_mem hfo.1)) ⟨hrf, hrl hlt⟩
              rw [hfo.2.2.2] at CB2
              rcases hi with ⟨g, -⟩ | ⟨g, -⟩ | ⟨-, rfl⟩
              · cases g
              · cases g
              · exact zfin (a := (Value.ref (zadr Z k) :: ((st.take M'.2.2.2.2.2.2).reverse).map (zcv Z)).toArray) (va_runI (g := F0 m pc ls (st.map (zcv Z))) fix (hMet hlt) ⟨CB2, hfo.2.2.1, hts _ (zat_mem hfo.2.1)⟩ (zpre hU hT (.ref k :: (st.take M'.2.2.2.2.2.2).reverse)) rfl (by simp; omega) hsz hst (by show 2 * 0 + _ ≤ 8; rw [zcat_map]; omega) hd hf) hT kk
            · cases h
          · cases h
        · split at h
          · next k rest0 hdrop =>
            split at h
            · next hcd =>
              obtain ⟨rfl, hcat⟩ := hcd
              cases h
              cases hM'.symm.trans hM2
              simp only [Bool.and_eq_true, decide_eq_true_eq] at hfo
              have hn : M'.2.2.2.2.2.2 < st.length := by
                rcases Nat.lt_or_ge M'.2.2.2.2.2.2 st.length with g | g
                · exact g
                · rw [List.drop_eq_nil_of_le g] at hdrop; cases hdrop
              have hst : st.map (zcv Z) = (((st.take M'.2.2.2.2.2.2).reverse).map (zcv Z)).reverse ++ .ref (zadr Z k) :: rest.map (zcv Z) := by
                rw [← List.map_reverse, List.reverse_reverse, show Value.ref (zadr Z k) :: rest.map (zcv Z) = (Value.ref k :: rest).map (zcv Z) from rfl, ← hdrop, ← List.map_append, List.take_append_drop]
              have hnw : va_Nw (.methodLinkNest M.1.cls idx M'.1 "CubeHops") s := hU.2.2.2.2.2.2.2.2.2.1 _ (List.mem_filter.mpr ⟨List.mem_of_getElem? hfo.1, rfl⟩)
              have hret : M'.2.2.2.1 = none := hfo.2.2.2
              have hw : zco M' :: zWs = Cond.code M'.1 M'.2.1 M'.2.2.1 none :: zWs := by unfold zco; rw [hret]
              rcases hi with ⟨g, -⟩ | ⟨g, -⟩ | ⟨-, rfl⟩
              · cases g
              · cases g
              · exact zfin (a := (Value.ref (zadr Z k) :: ((st.take M'.2.2.2.2.2.2).reverse).map (zcv Z)).toArray) (va_runIN (g := F0 m pc ls (st.map (zcv Z))) (host := "CubeHops") fix (hMet hlt) ⟨va_cnB M'.2.2.2.2.2.2 hts hG hw hrc hrs hnw (hts _ (zat_mem hini)) hmh ⟨hrf, hrl hlt⟩, hfo.2.2.1, hts _ (zat_mem hfo.2.1)⟩ (zpre hU hT (.ref k :: (st.take M'.2.2.2.2.2.2).reverse)) rfl (by simp; omega) hsz hst (by show 2 * 0 + _ ≤ 8; rw [zcat_map]; omega) hd hf) hT kk
            · cases h
          · cases h
        · cases h
      · cases h
  · cases h
def zNC (r : Option zR) : Prop := ∀ x, r ≠ some (.inr x)
theorem zNC_none : zNC none := fun x h => by cases h
theorem zNC_nx {pc : Nat} {lo st : List Value} {S : zS} : zNC (znx pc lo st S) := fun x h => by unfold znx at h; cases h
theorem zNC_zii {f : Int32 → Int32 → Int32} {pc : Nat} {lo st : List Value} {S : zS} : zNC (zii f pc lo S st) := by
  unfold zii
  repeat' split
  all_goals first | exact zNC_none | exact zNC_nx
theorem zNC_zll {f : Int64 → Int64 → Int64} {pc : Nat} {lo st : List Value} {S : zS} : zNC (zll f pc lo S st) := by
  unfold zll
  repeat' split
  all_goals first | exact zNC_none | exact zNC_nx
theorem zNC_ziiD {f : Int32 → Int32 → Int32} {pc : Nat} {lo st : List Value} {S : zS} : zNC (ziiD f pc lo S st) := by
  unfold ziiD
  repeat' split
  all_goals first | exact zNC_none | exact zNC_nx
theorem zNC_zllD {f : Int64 → Int64 → Int64} {pc : Nat} {lo st : List Value} {S : zS} : zNC (zllD f pc lo S st) := by
  unfold zllD
  repeat' split
  all_goals first | exact zNC_none | exact zNC_nx
theorem zNC_zli {f : Int64 → Int32 → Int64} {pc : Nat} {lo st : List Value} {S : zS} : zNC (zli f pc lo S st) := by
  unfold zli
  repeat' split
  all_goals first | exact zNC_none | exact zNC_nx
theorem zNC_zjp {pc : Nat} {off : Int} {lo st : List Value} {S : zS} : zNC (zjp pc off lo st S) := by
  unfold zjp
  repeat' split
  all_goals first | exact zNC_none | exact zNC_nx
theorem zNC_zbr {b : Bool} {pc : Nat} {off : Int} {lo st : List Value} {S : zS} : zNC (zbr b pc off lo st S) := by
  unfold zbr
  repeat' split
  all_goals first | exact zNC_none | exact zNC_nx
theorem zNC_zld {i pc t : Nat} {lo st : List Value} {S : zS} : zNC (zld i pc t lo st S) := by
  unfold zld
  repeat' split
  all_goals first | exact zNC_none | exact zNC_nx
theorem zNC_zso {i pc t : Nat} {lo st : List Value} {S : zS} : zNC (zso i pc t lo S st) := by
  unfold zso
  repeat' split
  all_goals first | exact zNC_none | exact zNC_nx
theorem zNC_zgetf {i pc : Nat} {lo st : List Value} {S : zS} : zNC (zgetf M i pc lo S st) := by
  unfold zgetf
  repeat' split
  all_goals first | exact zNC_none | exact zNC_nx
theorem zNC_zputf {i pc : Nat} {lo st : List Value} {S : zS} : zNC (zputf M i pc lo S st) := by
  unfold zputf
  repeat' split
  all_goals first | exact zNC_none | exact zNC_nx
theorem zNC_zald {pc : Nat} {lo st : List Value} {S : zS} : zNC (zald pc lo S st) := by
  unfold zald
  repeat' split
  all_goals first | exact zNC_none | exact zNC_nx
theorem zNC_zast {pc : Nat} {lo st : List Value} {S : zS} : zNC (zast pc lo S st) := by
  unfold zast
  repeat' split
  all_goals first | exact zNC_none | exact zNC_nx
theorem zNC_zaald {pc : Nat} {lo st : List Value} {S : zS} : zNC (zaald pc lo S st) := by
  unfold zaald
  repeat' split
  all_goals first | exact zNC_none | exact zNC_nx
theorem zNC_zaast {pc : Nat} {lo st : List Value} {S : zS} : zNC (zaast pc lo S st) := by
  unfold zaast
  repeat' split
  all_goals first | exact zNC_none | exact zNC_nx
theorem zNC_zalen {pc : Nat} {lo st : List Value} {S : zS} : zNC (zalen pc lo S st) := by
  unfold zalen
  repeat' split
  all_goals first | exact zNC_none | exact zNC_nx
theorem zNC_znew {i pc : Nat} {lo st : List Value} {S : zS} : zNC (znew M i pc lo st S) := by
  unfold znew
  repeat' split
  all_goals first | exact zNC_none | exact zNC_nx
theorem zNC_znewa {pc : Nat} {lo st : List Value} {S : zS} : zNC (znewa pc lo S st) := by
  unfold znewa
  repeat' split
  all_goals first | exact zNC_none | exact zNC_nx
theorem zNC_zanew {i pc : Nat} {lo st : List Value} {S : zS} : zNC (zanew M i pc lo S st) := by
  unfold zanew
  repeat' split
  all_goals first | exact zNC_none | exact zNC_nx
theorem zNC_zmnew {i pc : Nat} {lo st : List Value} {S : zS} : zNC (zmnew M i pc lo S st) := by
  unfold zmnew
  repeat' split
  all_goals first | exact zNC_none | exact zNC_nx
theorem zNC_zret {i : Nat} {st : List Value} (x : Nat × List Value × Nat × List Value) : zret M i st ≠ some (.inr (.inl x)) := by
  unfold zret
  repeat' split
  all_goals (intro h; cases h)
theorem zNR_zinv {i kd pc : Nat} {lo st : List Value} {S : zS} (x : Option Value) : zinv M i kd pc lo S st ≠ some (.inr (.inr x)) := by
  unfold zinv
  repeat' split
  all_goals (intro h; first | (cases h; done) | exact absurd h (zNC_nx _))
theorem zexec_call {ins : Instr} (hd : decode M.2.1 pc = .ok (ins, len)) {mi' : Nat} {as rest : List Value} (h : zexec M ins len pc lo st S = some (.inr (.inl (mi', as, pc', rest)))) (hC : zC Z M p R s m args meth c d) (hT : zT Z s M S H locs ls lo) {M' : zM} (hM' : zProg[mi']? = some M') {v : Option Value} {rm : Room} {mc ms : Nat} (hMet : mi' < 212 → Met l M'.1 (zco M' :: zWs) rm (zPc Z as S) (zQc Z v S') mc ms (zA Z))
    (hrc : rm.cells = mc) (hrs : rm.slots = ms) (hrf : rm.frames + 1 ≤ R.frames) (hrl : mi' < 212 → 8 + (M'.2.2.1 + 11) + rm.locals ≤ R.locals) (hf : cells + mc ≤ R.cells ∧ slots + ms ≤ R.slots) (kk : ∀ (H' : Heap) (locs' : List Loc), zT Z s M S' H' locs' ls lo → W p l e R s m args below meth c H' locs' (cells + mc) (slots + ms) Q (F0 m pc' ls ((v.toList ++ rest).map (zcv Z)))) : W p l e R s m args below meth c H locs cells slots Q (F0 m pc ls (st.map (zcv Z))) := by
  cases ins
  case newarray ty =>
    cases ty <;> first | (cases h; done) | (simp only [zexec] at h; split at h; exact absurd h (zNC_znewa _); cases h)
  case multianewarray idx dm =>
    cases dm with
    | zero => cases h
    | succ n =>
      cases n with
      | zero => cases h
      | succ n =>
        cases n with
        | zero => simp only [zexec] at h; split at h; exact absurd h (zNC_zmnew _); cases h
        | succ n => simp [zexec] at h
  all_goals simp only [zexec] at h
  case invokevirtual idx =>
    split at h
    · next hl =>
      subst hl
      exact zcall_inv hd (Or.inl ⟨rfl, rfl⟩) h hC hT hM' hMet hrc hrs hrf hrl hf kk
    · cases h
  case invokestatic idx =>
    split at h
    · next hl =>
      subst hl
      exact zcall_inv hd (Or.inr (Or.inl ⟨rfl, rfl⟩)) h hC hT hM' hMet hrc hrs hrf hrl hf kk
    · cases h
  case invokespecial idx =>
    split at h
    · next hl =>
      subst hl
      exact zcall_inv hd (Or.inr (Or.inr ⟨rfl, rfl⟩)) h hC hT hM' hMet hrc hrs hrf hrl hf kk
    · cases h
  all_goals first
    | (cases h; done)
    | (exact absurd h (zNC_zjp _))
    | (repeat' split at h) <;> first | (cases h; done) | exact absurd h (zNC_none _) | exact absurd h (zNC_nx _) | exact absurd h (zNC_zii _) | exact absurd h (zNC_zll _) | exact absurd h (zNC_ziiD _) | exact absurd h (zNC_zllD _) | exact absurd h (zNC_zli _) | exact absurd h (zNC_zjp _) | exact absurd h (zNC_zbr _) | exact absurd h (zNC_zld _) | exact absurd h (zNC_zso _) | exact absurd h (zNC_zgetf _) | exact absurd h (zNC_zputf _) | exact absurd h (zNC_zald _) | exact absurd h (zNC_zast _) | exact absurd h (zNC_zaald _) | exact absurd h (zNC_zaast _) | exact absurd h (zNC_zalen _) | exact absurd h (zNC_znew _) | exact absurd h (zNC_znewa _) | exact absurd h (zNC_zanew _) | exact absurd h (zNC_zmnew _) | exact absurd h (zNC_zret _)
/-- where a method ends -/
def zRt (M : zM) (pc : Nat) (v : Option Value) : Prop := (∃ x : Int32, v = some (.int x) ∧ decode M.2.1 pc = .ok (.ireturn, 1) ∧ (M.2.2.2.1 = some .int ∨ (M.2.2.2.1 = some .boolean ∧ (x = 0 ∨ x = 1)))) ∨ (∃ x : Int64, v = some (.long x) ∧ decode M.2.1 pc = .ok (.lreturn, 1) ∧ M.2.2.2.1 = some .long) ∨ (v = none ∧ decode M.2.1 pc = .ok (.return_, 1) ∧ M.2.2.2.1 = none)
theorem zexec_ret {ins : Instr} (hd : decode M.2.1 pc = .ok (ins, len)) {v : Option Value} (h : zexec M ins len pc lo st S = some (.inr (.inr v))) : zRt M pc v ∧ st = v.toList := by
  cases ins
  case newarray ty =>
    cases ty <;> first | (cases h; done) | (simp only [zexec] at h; split at h; exact absurd h (zNC_znewa _); cases h)
  case multianewarray idx dm =>
    cases dm with
    | zero => cases h
    | succ n =>
      cases n with
      | zero => cases h
      | succ n =>
        cases n with
        | zero => simp only [zexec] at h; split at h; exact absurd h (zNC_zmnew _); cases h
        | succ n => simp [zexec] at h
  all_goals simp only [zexec] at h
  case ireturn =>
    split at h
    · next hl =>
      subst hl
      unfold zret at h
      split at h
      · next hr => cases h; exact ⟨Or.inl ⟨_, rfl, hd, Or.inl hr⟩, rfl⟩
      · next hr =>
        split at h
        · next h01 => cases h; exact ⟨Or.inl ⟨_, rfl, hd, Or.inr ⟨hr, h01⟩⟩, rfl⟩
        · cases h
      all_goals first | (cases h; done) | (next g _ => cases g)
    · cases h
  case lreturn =>
    split at h
    · next hl =>
      subst hl
      unfold zret at h
      split at h
      all_goals first | (exfalso; omega) | (cases h; done) | (next hr => cases h; exact ⟨Or.inr (Or.inl ⟨_, rfl, hd, hr⟩), rfl⟩)
    · cases h
  case return_ =>
    split at h
    · next hl =>
      subst hl
      unfold zret at h
      split at h
      all_goals first | (exfalso; omega) | (cases h; done) | (next hr => cases h; exact ⟨Or.inr (Or.inr ⟨rfl, hd, hr⟩), rfl⟩)
    · cases h
  case invokevirtual idx =>
    split at h
    · exact absurd h (zNR_zinv _)
    · cases h
  case invokestatic idx =>
    split at h
    · exact absurd h (zNR_zinv _)
    · cases h
  case invokespecial idx =>
    split at h
    · exact absurd h (zNR_zinv _)
    · cases h
  all_goals first
    | (cases h; done)
    | (exact absurd h (zNC_zjp _))
    | (repeat' split at h) <;> first | (cases h; done) | exact absurd h (zNC_none _) | exact absurd h (zNC_nx _) | exact absurd h (zNC_zii _) | exact absurd h (zNC_zll _) | exact absurd h (zNC_ziiD _) | exact absurd h (zNC_zllD _) | exact absurd h (zNC_zli _) | exact absurd h (zNC_zjp _) | exact absurd h (zNC_zbr _) | exact absurd h (zNC_zld _) | exact absurd h (zNC_zso _) | exact absurd h (zNC_zgetf _) | exact absurd h (zNC_zputf _) | exact absurd h (zNC_zald _) | exact absurd h (zNC_zast _) | exact absurd h (zNC_zaald _) | exact absurd h (zNC_zaast _) | exact absurd h (zNC_zalen _) | exact absurd h (zNC_znew _) | exact absurd h (zNC_znewa _) | exact absurd h (zNC_zanew _) | exact absurd h (zNC_zmnew _)
end ZIND
end
section
section ZFIN
variable {l : Launch} {Z : zZ}
theorem zrun_mono {f : Nat} : ∀ {d mi pc : Nat} {lo st : List Value} {S : zS} {r : Option Value × zS}, zrun f d mi pc lo st S = some r → zc S ≤ zc r.2 ∧ zs S ≤ zs r.2 := by
  induction f with
  | zero => intro d mi pc lo st S r h; cases h
  | succ f ih =>
    intro d mi pc lo st S r h
    rw [zrun] at h
    split at h
    · cases h
    · split at h
      · next hz =>
        have h1 := ih h
        unfold zle at hz
        simp only [Bool.and_eq_true, decide_eq_true_eq] at hz
        exact ⟨Nat.le_trans hz.1 h1.1, Nat.le_trans hz.2 h1.2⟩
      · cases h
    · cases h
      exact ⟨Nat.le_refl _, Nat.le_refl _⟩
    · split at h
      · cases h
      · split at h
        · split at h
          · cases h
          · next hc =>
            have h1 := ih hc
            have h2 := ih h
            exact ⟨Nat.le_trans h1.1 h2.1, Nat.le_trans h1.2 h2.2⟩
        · cases h
def zRm (d mc ms : Nat) : Room := { frames := d + 1, cells := mc, slots := ms, locals := 64 * (d + 1) }
theorem zstep_at {mi pc : Nat} {lo st : List Value} {S : zS} {r : zR} {M : zM} (hM : zProg[mi]? = some M) (h : zstep mi pc lo st S = some r) : ∃ ins len, decode M.2.1 pc = .ok (ins, len) ∧ zexec M ins len pc lo st S = some r := by
  unfold zstep at h
  rw [hM] at h
  dsimp only at h
  split at h
  · next ins len hd => exact ⟨ins, len, hd, h⟩
  · cases h
/-- THE MACHINE FOLLOWS: what the machine in small comes to, the machine comes to -/
theorem zsound (f : Nat) : ∀ {d mi : Nat} {M : zM} {pc : Nat} {lo st : List Value} {S : zS} {v : Option Value} {S' : zS}, zrun f d mi pc lo st S = some (v, S') → zProg[mi]? = some M →
    ∀ {p : Program} {e : Env} {R : Room} {s : State} {m : MethodId} {args : Array Value} {below : List Frame} {meth : Method} {c : Code} {H : Heap} {locs : List Loc} {cells slots : Nat} {Q : State → Prop} {ls : Array Slot} {mc ms : Nat}, zC Z M p R s m args meth c d → zT Z s M S H locs ls lo → cells + zc S' = mc + zc S → slots + zs S' = ms + zs S → mc ≤ R.cells → ms ≤ R.slots →
    (∀ (pc : Nat) (ls : Array Slot) (H : Heap) (locs : List Loc), zRt M pc v → va_S (zA Z) s.heap H locs → zH Z S' H → W p l e R s m args below meth c H locs mc ms Q (F0 m pc ls v.toList)) →
    W p l e R s m args below meth c H locs cells slots Q (F0 m pc ls (st.map (zcv Z))) := by
  induction f with
  | zero => intro d mi M pc lo st S v S' h; cases h
  | succ f ih =>
    intro d mi M pc lo st S v S' h hM p e R s m args below meth c H locs cells slots Q ls mc ms hC hT hcc hss hRc hRs kr
    have hmono := zrun_mono h
    rw [zrun] at h
    split at h
    · cases h
    · next pc1 lo1 st1 S1 hst =>
      split at h
      · next hz =>
        obtain ⟨ins, len, hd, hx⟩ := zstep_at hM hst
        have h1 := zrun_mono h
        unfold zle at hz
        simp only [Bool.and_eq_true, decide_eq_true_eq] at hz
        dsimp only at h1
        refine zexec_next hd hx hC hT (by omega) (by omega) (fun H' locs' ls' hT' => ?_)
        exact ih h hM hC hT' (by omega) (by omega) hRc hRs kr
      · cases h
    · next v1 hst =>
      cases h
      obtain ⟨ins, len, hd, hx⟩ := zstep_at hM hst
      obtain ⟨hr, rfl⟩ := zexec_ret hd hx
      have e1 : cells = mc := by omega
      have e2 : slots = ms := by omega
      subst e1
      subst e2
      have K := kr pc ls H locs hr hT.2.1 hT.1
      have e3 : v.toList.map (zcv Z) = v.toList := by
        rcases hr with ⟨x, rfl, -⟩ | ⟨x, rfl, -⟩ | ⟨rfl, -⟩ <;> rfl
      rw [e3]
      exact K
    · next mi' as pc1 rest hst =>
      split at h
      · cases h
      · next d' =>
        split at h
        · next hpl =>
          split at h
          · cases h
          · next v1 S1 hcall =>
            obtain ⟨ins, len, hd, hx⟩ := zstep_at hM hst
            have h1 := zrun_mono hcall
            have h2 := zrun_mono h
            dsimp only at h1 h2
            cases hM' : zProg[mi']? with
            | none =>
              cases f with
              | zero => cases hcall
              | succ f =>
                rw [zrun] at hcall
                unfold zstep at hcall
                rw [hM'] at hcall
                cases hcall
            | some M' =>
              have hmx : zmax mi' = M'.2.2.1 := by unfold zmax; rw [hM']
              rw [hmx] at hpl hcall
              have hRf := hC.2.2.2.2.2.2.2.1
              have hRl := hC.2.2.2.2.2.2.2.2.1
              refine zexec_call (v := v1) (S' := S1) (mc := zc S1 - zc S) (ms := zs S1 - zs S) (rm := zRm d' (zc S1 - zc S) (zs S1 - zs S)) hd hx hC hT hM' (fun hlt => ?_) rfl rfl (by show d' + 1 + 1 ≤ _; omega) ?_ ⟨by omega, by omega⟩ (fun H' locs' hT' => ?_)
              · have hpr := zpr_at hM' hlt
                unfold zprP at hpr
                simp only [Bool.and_eq_true, decide_eq_true_eq] at hpr
                obtain ⟨hpn, hmh, hml20, hcn, hcn2⟩ := hpr
                refine Met.ofW (cc := M'.2.1) (maxL := M'.2.2.1) (ret := M'.2.2.2.1) hpn rfl ?_
                intro p' e' s' m' args' below' meth' c' s₁ B hml hv
                obtain ⟨hargs, hH, hU⟩ := hv
                subst hargs
                have hts' : ∀ w ∈ zco M' :: zWs, w.before ((as.map (zcv Z)).toArray) s' = true := atoms_spec (ws := zco M' :: zWs) B.pre
                have hC' : zC Z M' p' (headSpec (zco M' :: zWs) (zRm d' (zc S1 - zc S) (zs S1 - zs S))).room s' m' ((as.map (zcv Z)).toArray) meth' c' d' := by
                  refine ⟨B.exec, B.bytes, hml, findClass_of_methodNamed B.named, fun w hw => hts' w (List.mem_cons_of_mem _ hw), fun g => (name_of_methodNamed B.named B.method).1.trans g, hU, Nat.le_refl _, Nat.le_refl _, hcn, hcn2⟩
                have hlk : meth'.locks = false := B.notSynchronized
                have hrt := B.returns
                have hl := lv_entry (as.map (zcv Z)) (n := M'.2.2.1) (by rw [zplace_len]; exact hpl)
                rw [lg_entry_eq]
                generalize (lg_sl (as.map (zcv Z)) ++ List.replicate (M'.2.2.1 - (lg_sl (as.map (zcv Z))).length) Slot.unset).toArray = ls' at hl ⊢
                refine ih (cells := 0) (slots := 0) (mc := zc S1 - zc S) (ms := zs S1 - zs S) (Q := MQ below' (zQc Z v1 S1) ((as.map (zcv Z)).toArray) s' (zc S1 - zc S) (zs S1 - zs S) (zA Z)) (st := []) hcall hM' hC' ⟨hH, va_S.rf, zL_ent hl hpl⟩ (by omega) (by omega) (Nat.le_refl _) (Nat.le_refl _) ?_
                intro pc2 ls2 H2 locs2 hr hS2 hH2
                rcases hr with ⟨x, rfl, hdr, hty⟩ | ⟨x, rfl, hdr, hty⟩ | ⟨rfl, hdr, hty⟩
                · rcases hty with hty | ⟨hty, h01⟩
                  · exact W.iret B.exec B.bytes (hrt.trans hty) (fun t ht hW => ⟨rfl, by rw [ht]; exact hH2, hS2.F ht⟩) hS2.2.2 hdr
                  · exact W.zret B.exec B.bytes (hrt.trans hty) (by rcases h01 with rfl | rfl <;> rfl) (fun t ht hW => ⟨rfl, by rw [ht]; exact hH2, hS2.F ht⟩) hS2.2.2 hdr
                · exact W.lret B.exec B.bytes (hrt.trans hty) (fun t ht hW => ⟨rfl, by rw [ht]; exact hH2, hS2.F ht⟩) hS2.2.2 hdr
                · exact W.vret B.exec B.bytes (hrt.trans hty) (fun t ht hW => ⟨rfl, by rw [ht]; exact hH2, hS2.F ht⟩) hS2.2.2 hdr
              · intro hlt
                have hpr := zpr_at hM' hlt
                unfold zprP at hpr
                simp only [Bool.and_eq_true, decide_eq_true_eq] at hpr
                obtain ⟨-, -, hml20, -, -⟩ := hpr
                show 8 + (M'.2.2.1 + 11) + 64 * (d' + 1) ≤ R.locals
                omega
              · exact ih h hM hC hT' (by omega) (by omega) hRc hRs kr
        · cases h
end ZFIN
end
section
section ZGO
variable {l : Launch} {Z : zZ}
/-- the contract of a method, out of its run in small -/
theorem zmet {f d' mi' : Nat} {as : List Value} {S S1 : zS} {v1 : Option Value} {M' : zM} (hM' : zProg[mi']? = some M') (hlt : mi' < 212) (hpl : (zplace as).length ≤ M'.2.2.1) (hcall : zrun f d' mi' 0 (zent M'.2.2.1 as) [] S = some (v1, S1)) (h1 : zc S ≤ zc S1 ∧ zs S ≤ zs S1) : Met l M'.1 (zco M' :: zWs) (zRm d' (zc S1 - zc S) (zs S1 - zs S)) (zPc Z as S) (zQc Z v1 S1) (zc S1 - zc S) (zs S1 - zs S) (zA Z) := by
  have hpr := zpr_at hM' hlt
  unfold zprP at hpr
  simp only [Bool.and_eq_true, decide_eq_true_eq] at hpr
  obtain ⟨hpn, hmh, hml20, hcn, hcn2⟩ := hpr
  refine Met.ofW (cc := M'.2.1) (maxL := M'.2.2.1) (ret := M'.2.2.2.1) hpn rfl ?_
  intro p' e' s' m' args' below' meth' c' s₁ B hml hv
  obtain ⟨hargs, hH, hU⟩ := hv
  subst hargs
  have hts' : ∀ w ∈ zco M' :: zWs, w.before ((as.map (zcv Z)).toArray) s' = true := atoms_spec (ws := zco M' :: zWs) B.pre
  have hC' : zC Z M' p' (headSpec (zco M' :: zWs) (zRm d' (zc S1 - zc S) (zs S1 - zs S))).room s' m' ((as.map (zcv Z)).toArray) meth' c' d' := by
    refine ⟨B.exec, B.bytes, hml, findClass_of_methodNamed B.named, fun w hw => hts' w (List.mem_cons_of_mem _ hw), fun g => (name_of_methodNamed B.named B.method).1.trans g, hU, Nat.le_refl _, Nat.le_refl _, hcn, hcn2⟩
  have hlk : meth'.locks = false := B.notSynchronized
  have hrt := B.returns
  have hl := lv_entry (as.map (zcv Z)) (n := M'.2.2.1) (by rw [zplace_len]; exact hpl)
  rw [lg_entry_eq]
  generalize (lg_sl (as.map (zcv Z)) ++ List.replicate (M'.2.2.1 - (lg_sl (as.map (zcv Z))).length) Slot.unset).toArray = ls' at hl ⊢
  refine zsound f (cells := 0) (slots := 0) (mc := zc S1 - zc S) (ms := zs S1 - zs S) (Q := MQ below' (zQc Z v1 S1) ((as.map (zcv Z)).toArray) s' (zc S1 - zc S) (zs S1 - zs S) (zA Z)) (st := []) hcall hM' hC' ⟨hH, va_S.rf, zL_ent hl hpl⟩ (by omega) (by omega) (Nat.le_refl _) (Nat.le_refl _) ?_
  intro pc2 ls2 H2 locs2 hr hS2 hH2
  rcases hr with ⟨x, rfl, hdr, hty⟩ | ⟨x, rfl, hdr, hty⟩ | ⟨rfl, hdr, hty⟩
  · rcases hty with hty | ⟨hty, h01⟩
    · exact W.iret B.exec B.bytes (hrt.trans hty) (fun t ht hW => ⟨rfl, by rw [ht]; exact hH2, hS2.F ht⟩) hS2.2.2 hdr
    · exact W.zret B.exec B.bytes (hrt.trans hty) (by rcases h01 with rfl | rfl <;> rfl) (fun t ht hW => ⟨rfl, by rw [ht]; exact hH2, hS2.F ht⟩) hS2.2.2 hdr
  · exact W.lret B.exec B.bytes (hrt.trans hty) (fun t ht hW => ⟨rfl, by rw [ht]; exact hH2, hS2.F ht⟩) hS2.2.2 hdr
  · exact W.vret B.exec B.bytes (hrt.trans hty) (fun t ht hW => ⟨rfl, by rw [ht]; exact hH2, hS2.F ht⟩) hS2.2.2 hdr
/-- a run within one frame, up to a place -/
def zgo : Nat → Nat → Nat → Nat → Nat → List Value → List Value → zS → Option (List Value × List Value × zS)
  | 0, _, _, _, _, _, _, _ => none
  | f + 1, d, mi, tgt, pc, lo, st, S => if pc = tgt then some (lo, st, S) else match zstep mi pc lo st S with
    | some (.inl (pc', lo', st', S')) => if zle S S' then zgo f d mi tgt pc' lo' st' S' else none
    | some (.inr (.inl (mi', as, pc', rest))) => (match d with
      | 0 => none
      | d' + 1 => if (zplace as).length ≤ zmax mi' then (match zrun f d' mi' 0 (zent (zmax mi') as) [] S with
        | none => none
        | some (v, S') => zgo f (d' + 1) mi tgt pc' lo (v.toList ++ rest) S') else none)
    | _ => none
theorem zgo_mono {f : Nat} : ∀ {d mi tgt pc : Nat} {lo st : List Value} {S : zS} {r : List Value × List Value × zS}, zgo f d mi tgt pc lo st S = some r → zc S ≤ zc r.2.2 ∧ zs S ≤ zs r.2.2 := by
  induction f with
  | zero => intro d mi tgt pc lo st S r h; cases h
  | succ f ih =>
    intro d mi tgt pc lo st S r h
    rw [zgo] at h
    split at h
    · cases h
      exact ⟨Nat.le_refl _, Nat.le_refl _⟩
    · split at h
      · split at h
        · next hz =>
          have h1 := ih h
          unfold zle at hz
          simp only [Bool.and_eq_true, decide_eq_true_eq] at hz
          exact ⟨Nat.le_trans hz.1 h1.1, Nat.le_trans hz.2 h1.2⟩
        · cases h
      · split at h
        · cases h
        · split at h
          · split at h
            · cases h
            · next hc =>
              have h1 := zrun_mono hc
              have h2 := ih h
              exact ⟨Nat.le_trans h1.1 h2.1, Nat.le_trans h1.2 h2.2⟩
          · cases h
      · cases h
theorem zgo_sound (f : Nat) : ∀ {d mi : Nat} {M : zM} {tgt pc : Nat} {lo st : List Value} {S : zS} {lo' st' : List Value} {S' : zS}, zgo f d mi tgt pc lo st S = some (lo', st', S') → zProg[mi]? = some M →
    ∀ {p : Program} {e : Env} {R : Room} {s : State} {m : MethodId} {args : Array Value} {below : List Frame} {meth : Method} {c : Code} {H : Heap} {locs : List Loc} {cells slots : Nat} {Q : State → Prop} {ls : Array Slot} {mc ms : Nat}, zC Z M p R s m args meth c d → zT Z s M S H locs ls lo → cells + zc S' = mc + zc S → slots + zs S' = ms + zs S → mc ≤ R.cells → ms ≤ R.slots →
    (∀ (ls : Array Slot) (H : Heap) (locs : List Loc), zT Z s M S' H locs ls lo' → W p l e R s m args below meth c H locs mc ms Q (F0 m tgt ls (st'.map (zcv Z)))) →
    W p l e R s m args below meth c H locs cells slots Q (F0 m pc ls (st.map (zcv Z))) := by
  induction f with
  | zero => intro d mi M tgt pc lo st S lo' st' S' h; cases h
  | succ f ih =>
    intro d mi M tgt pc lo st S lo' st' S' h hM p e R s m args below meth c H locs cells slots Q ls mc ms hC hT hcc hss hRc hRs kr
    have hmono := zgo_mono h
    rw [zgo] at h
    split at h
    · next hpc =>
      cases h
      subst hpc
      have e1 : cells = mc := by omega
      have e2 : slots = ms := by omega
      subst e1
      subst e2
      exact kr ls H locs hT
    · split at h
      · next pc1 lo1 st1 S1 hst =>
        split at h
        · next hz =>
          obtain ⟨ins, len, hd, hx⟩ := zstep_at hM hst
          have h1 := zgo_mono h
          unfold zle at hz
          simp only [Bool.and_eq_true, decide_eq_true_eq] at hz
          dsimp only at h1
          refine zexec_next hd hx hC hT (by omega) (by omega) (fun H' locs' ls' hT' => ?_)
          exact ih h hM hC hT' (by omega) (by omega) hRc hRs kr
        · cases h
      · next mi' as pc1 rest hst =>
        split at h
        · cases h
        · next d' =>
          split at h
          · next hpl =>
            split at h
            · cases h
            · next v1 S1 hcall =>
              obtain ⟨ins, len, hd, hx⟩ := zstep_at hM hst
              have h1 := zrun_mono hcall
              have h2 := zgo_mono h
              dsimp only at h1 h2
              cases hM' : zProg[mi']? with
              | none =>
                cases f with
                | zero => cases hcall
                | succ f =>
                  rw [zrun] at hcall
                  unfold zstep at hcall
                  rw [hM'] at hcall
                  cases hcall
              | some M' =>
                have hmx : zmax mi' = M'.2.2.1 := by unfold zmax; rw [hM']
                rw [hmx] at hpl hcall
                have hRf := hC.2.2.2.2.2.2.2.1
                have hRl := hC.2.2.2.2.2.2.2.2.1
                refine zexec_call (v := v1) (S' := S1) (mc := zc S1 - zc S) (ms := zs S1 - zs S) (rm := zRm d' (zc S1 - zc S) (zs S1 - zs S)) hd hx hC hT hM' (fun hlt => zmet hM' hlt hpl hcall h1) rfl rfl (by show d' + 1 + 1 ≤ _; omega) ?_ ⟨by omega, by omega⟩ (fun H' locs' hT' => ?_)
                · intro hlt
                  have hpr := zpr_at hM' hlt
                  unfold zprP at hpr
                  simp only [Bool.and_eq_true, decide_eq_true_eq] at hpr
                  obtain ⟨-, -, hml20, -, -⟩ := hpr
                  show 8 + (M'.2.2.1 + 11) + 64 * (d' + 1) ≤ R.locals
                  omega
                · exact ih h hM hC hT' (by omega) (by omega) hRc hRs kr
          · cases h
      · cases h
end ZGO
end
section
-- ===== end of PART A; then your names; then what follows =====
/-! THE CLAIM OUT OF ONE WALK OF THE LAW'S BODY. Your part is whole_start (and what it stands on); all else here is the same for every law, but numbers. -/
def R_law : String := "CubeHopsLaw"
def lw_P (b : Addr) (xs : List Int32) (args : Array Value) (s : State) : Prop := args = #[.ref b] ∧ s.IntsAt b xs ∧ xs.length ≤ 3072 ∧ (Jvm.Cond.and given_1 narrow_1).before args s = true
def lw_Q (_ : Array Value) (s : State) (o : Outcome) (t : State) : Prop := o = .returned (some (.int 1)) ∧ Framed s o t [] 600000 7302250
def lw_Z (below : List Frame) (a : Array Value) (s : State) : State → Prop := fun t => ∃ o, t.status = .running ∧ Ended t below o ∧ lw_Q a s o t
/-- the law's own end, with 1 on the stack, nothing written that was there before, its room as the claim has it -/
theorem lw_ret {p : Program} {l : Launch} {e : Env} {s : State} {m : MethodId} {below : List Frame} {meth : Method} {c : Code} {b : Nat} (hx : p.tables.exec = Jvm.exec) (hb : c.code = code) (hr : meth.sig.returnType = ret) (hlocks : meth.locks = false) {pc : Nat} {H : Heap} {ls : Array Slot} (hdg : decode code pc = .ok (.ireturn, 1)) : W p l e room_1 s m #[Value.ref b] below meth c H [] 600000 7302250 (lw_Z below #[Value.ref b] s) (F0 m pc ls [.int 1]) := by
  intro T hT X
  obtain ⟨fs, hret, hrun, hended, hW, hframe⟩ := X.leave (v := some (.int 1)) (hlocks := hlocks) (fun h => by rw [hr] at h; cases h)
  have hmeth' : T.vm.method? m = some meth := X.method'
  refine ⟨T.setFrames fs, ?_, .returned (some (.int 1)), hrun, hended, rfl, ⟨_, rfl⟩, hW, hframe⟩
  jvm_step X.here [X.here.top, hx, hb, hdg, hmeth', hr, ret, narrow_b1]
  (try refine ⟨rfl, ?_⟩); (try refine ⟨rfl, ?_⟩)
  first | (intro acts; rw [hret _ acts rfl rfl rfl]) | rw [hret _ _ rfl rfl rfl]
  exact Steps.refl _
/-- what holds at the law's entry: the machine, the code, the tables' words (any of lw_tbl by 'hts w (by decide +kernel)'), the script of L ints xs at the cell b, what the Statement gives of the start (any of its parts by flat_of_before) -/
def lw_At (p : Program) (s : State) (m : MethodId) (meth : Method) (c : Code) (b L : Nat) (xs : Nat → Int32) : Prop :=
  p.tables.exec = Jvm.exec ∧ c.code = code ∧ meth.sig.returnType = ret ∧ c.maxLocals = 4 ∧ s.vm.findClass R_law = some m.cls ∧ (∀ w ∈ lw_tbl, w.before #[Value.ref b] s = true) ∧ va_X b L xs s s.heap ∧ b < s.heap.size ∧ meth.locks = false ∧ (Jvm.Cond.and given_1 narrow_1).before #[Value.ref b] s = true
/-- the law's start, in small: the script hidden -/
def zS0 : zS := ([.inr (.inr (99, [])), .inl 6, .inl 4], fun k j => if k = 1 then zKL6 j else if k = 2 then zLE4 j else 0, fun _ _ => 0)
/-- all cells, once both objects are made -/
def zSHt : List zE := [
  .inl 6,
  .inl 4,
  .inr (.inr (3, [some 4, some 5, some 6, some 8, some 9, some 14, some 19, some 24, some 27, some 28, some 35, none, none, none, none])),
  .inr (.inl (0, [some 36, some 38, some 40, some 42, some 44, some 46])),
  .inr (.inl (0, [some 48, some 50, some 52, some 54])),
  .inr (.inr (2, [some 7, none])),
  .inl 40,
  .inr (.inl (0, [some 56, some 58, some 60])),
  .inr (.inr (0, [some 10, some 11, some 12, some 13, none, none, none, none, none, none])),
  .inl 7,
  .inl 7,
  .inl 7,
  .inl 7,
  .inr (.inr (0, [some 15, some 16, some 17, some 18, none, none, none, none, none, none])),
  .inl 7,
  .inl 7,
  .inl 7,
  .inl 7,
  .inr (.inr (0, [some 20, some 21, some 22, some 23, none, none, none, none, none, none])),
  .inl 7,
  .inl 7,
  .inl 7,
  .inl 7,
  .inr (.inr (1, [some 25, some 26, none])),
  .inl 16,
  .inl 16,
  .inl 32,
  .inr (.inl (1, [some 29, some 30, some 31, some 32, some 33, some 34])),
  .inl 20,
  .inl 20,
  .inl 20,
  .inl 20,
  .inl 20,
  .inl 20,
  .inl 6,
  .inr (.inr (2, [some 37, none])),
  .inl 40,
  .inr (.inr (2, [some 39, none])),
  .inl 40,
  .inr (.inr (2, [some 41, none])),
  .inl 40,
  .inr (.inr (2, [some 43, none])),
  .inl 40,
  .inr (.inr (2, [some 45, none])),
  .inl 40,
  .inr (.inr (2, [some 47, none])),
  .inl 40,
  .inr (.inr (2, [some 49, none])),
  .inl 60,
  .inr (.inr (2, [some 51, none])),
  .inl 60,
  .inr (.inr (2, [some 53, none])),
  .inl 60,
  .inr (.inr (2, [some 55, none])),
  .inl 60,
  .inr (.inr (2, [some 57, none])),
  .inl 40,
  .inr (.inr (2, [some 59, none])),
  .inl 40,
  .inr (.inr (2, [some 61, none])),
  .inl 40,
  .inr (.inr (4, [some 63, some 64, some 65, some 66, none, some 67, none, none, none, none, none, none, none, some 68, none, some 69, some 70, some 71, none, some 72, some 73, some 74, some 75, some 76, some 77, some 78, some 79, some 80, some 81, some 82, none])),
  .inl 6,
  .inl 240,
  .inl 4,
  .inl 240,
  .inl 6,
  .inl 21,
  .inl 7,
  .inl 24,
  .inl 960,
  .inl 72,
  .inl 2880,
  .inl 3,
  .inl 24,
  .inl 7,
  .inl 32,
  .inl 16,
  .inl 16,
  .inl 32,
  .inl 16,
  .inl 120]
def zSH (x : zE) : List zE := x :: zSHt
/-- what the first ints are, where they are not free -/
def zI1 (k j : Nat) : Int32 := if k = 62 then 0 else if (k = 63 ∧ j < 6) ∨ (k = 65 ∧ j < 4) ∨ (k = 74 ∧ j < 3) then -1 else if (j = 1 ∧ 36 ≤ k ∧ k ≤ 61 ∧ k % 2 = 0) then -1 else 0
def zL1 (k j : Nat) : Int64 := if (k = 3 ∧ j = 14) ∨ (k = 62 ∧ j = 8) then 1 else 0
def zok1 : Bool := match zgo 4000 30 212 18 0 [.ref 0, .null, .null, .null] [] zS0 with
  | some (lo, st, S) => decide (lo = [.ref 0, .ref 3, .ref 62, .int 0]) && (decide (st = []) && (decide (S.1 = zSH (.inr (.inr (99, [])))) && ((List.range 80).all (fun k => (List.range 32).all fun j => decide (S.2.1 (k + 3) j = zI1 (k + 3) j)) && ((List.range 80).all (fun k => (List.range 16).all fun j => decide (S.2.2 (k + 3) j = zL1 (k + 3) j))))))
  | none => false
set_option maxRecDepth 100000 in
theorem zok1_ok : zok1 = true := by decide +kernel
/-- what the law's own loop starts with -/
def zInit (I : Nat → Nat → Int32) (L : Nat → Nat → Int64) : Prop := ∀ k j, 3 ≤ k → k < 83 → (j < 32 → I k j = zI1 k j) ∧ (j < 16 → L k j = zL1 k j)
def zLaw : Prop := ∀ (n : Nat) (xs : Nat → Int32) (I : Nat → Nat → Int32) (L : Nat → Nat → Int64), n ≤ 3072 → (∀ j, I 0 j = xs j) → (∀ j, j < 6 → I 1 j = zKL6 j) → (∀ j, j < 4 → I 2 j = zLE4 j) → zInit I L → zW 30 212 18 [.ref 0, .ref 3, .ref 62, .int 0] [] (zSH (.inl n), I, L) (fun v S' => v = some (.int 1) ∧ S'.1 = zSH (.inl n))
set_option maxRecDepth 100000 in
set_option maxHeartbeats 4000000 in
theorem zstart (zlaw : zLaw) {p : Program} {e : Env} {s : State} {m : MethodId} {below : List Frame} {meth : Method} {c : Code} (l : Launch) {b L : Nat} {xs : Nat → Int32} (hL : L ≤ 3072) (C0 : lw_At p s m meth c b L xs) : W p l e room_1 s m #[Value.ref b] below meth c s.heap [] 0 0 (lw_Z below #[Value.ref b] s) (entryFrame m ([Value.ref b] : List Value).toArray 4) := by
  obtain ⟨hx, hb, hr, hml, hown, hts, hX, hbl, hlocks, hgv⟩ := id C0
  have hs := flat_of_before _ hgv
  have htz : ∀ w ∈ zWs, w.before #[Value.ref b] s = true := fun w hw => hts w (List.mem_filter.mp hw).1
  have hA : ∀ a : Nat, a < s.heap.size → ¬ (fun q : Nat => s.heap.size ≤ q) a := fun a h => Nat.not_le.mpr h
  obtain ⟨t1, ht1, hT1⟩ := va_Tof (tm := .static "CubeHops" "KIND_LETTERS" "[I") (ty := .int) (N := 6) (f := fun j => .int (zKL6 j)) (A := fun q : Nat => s.heap.size ≤ q) (by decide) (hs _ (by decide +kernel)) (va_eqt (hs _ (by decide +kernel)))
    (fun j hj => by
      rcases (show j = 0 ∨ j = 1 ∨ j = 2 ∨ j = 3 ∨ j = 4 ∨ j = 5 by omega) with rfl | rfl | rfl | rfl | rfl | rfl <;> exact va_eqt (hs _ (by decide +kernel))) hA
  obtain ⟨t2, ht2, hT2⟩ := va_Tof (tm := .static "CubeHops$Web" "LOWER_ENDS" "[I") (ty := .int) (N := 4) (f := fun j => .int (zLE4 j)) (A := fun q : Nat => s.heap.size ≤ q) (by decide) (hs _ (by decide +kernel)) (va_eqt (hs _ (by decide +kernel)))
    (fun j hj => by
      rcases (show j = 0 ∨ j = 1 ∨ j = 2 ∨ j = 3 by omega) with rfl | rfl | rfl | rfl <;> exact va_eqt (hs _ (by decide +kernel))) hA
  have hZ1 := va_Zref (A := fun q : Nat => s.heap.size ≤ q) (hts (.laysStatic "CubeHops" "KIND_LETTERS" "[I") (by decide +kernel)) (hts (.initialized "CubeHops") (by decide +kernel)) ht1 hA
  have hZ2 := va_Zref (A := fun q : Nat => s.heap.size ≤ q) (hts (.laysStatic "CubeHops$Web" "LOWER_ENDS" "[I") (by decide +kernel)) (hts (.initialized "CubeHops$Web") (by decide +kernel)) ht2 hA
  obtain ⟨scr, x1, x2, x3, x4, x5⟩ := hX
  have hT0 : va_T .int b L (fun j => .int (xs j)) (fun q : Nat => s.heap.size ≤ q) s s.heap := ⟨scr, x1, x2, x3, by omega, by rw [x4], x5, hA b hbl⟩
  obtain ⟨cI, kI, compI, i1, i2, i3⟩ := Cond.arrayClass_spec (htz _ zmem_arr.1)
  obtain ⟨compQ, cQ, kQ, q1, q2, q3, q4, q5⟩ := Cond.arrayOver_spec (hts _ zmem_over.1)
  have hao : zAOA s := hts _ zmem_over.2
  obtain ⟨compG, cG, kG, g1, g2, g3, g4, g5⟩ := zaoa_spec hao
  obtain ⟨ty0, n0, -, -, -, -, m0, -, -⟩ := zcl_0
  obtain ⟨ty1, n1, -, -, -, -, m1, -, -⟩ := zcl_1
  obtain ⟨ty2, n2, -, -, -, -, m2, -, -⟩ := zcl_2
  obtain ⟨ty3, n3, -, -, -, -, m3, -, -⟩ := zcl_3
  obtain ⟨ty4, n4, -, -, -, -, m4, -, -⟩ := zcl_4
  obtain ⟨c0, iS0, hK0⟩ := u_known htz n0 (htz _ m0)
  obtain ⟨c1, iS1, hK1⟩ := u_known htz n1 (htz _ m1)
  obtain ⟨c2, iS2, hK2⟩ := u_known htz n2 (htz _ m2)
  obtain ⟨c3, iS3, hK3⟩ := u_known htz n3 (htz _ m3)
  obtain ⟨c4, iS4, hK4⟩ := u_known htz n4 (htz _ m4)
  obtain ⟨D, hKc⟩ : ∃ D : va_G, ∀ (k : Nat) (q : vw_C), vwCl[k]? = some q → u_Kn s q.1 q.2.1 q.2.2 (D.1 k) (D.2 k) := by
    refine ⟨(fun k => if k = 0 then c0 else if k = 1 then c1 else if k = 2 then c2 else if k = 3 then c3 else c4, fun k => if k = 0 then iS0 else if k = 1 then iS1 else if k = 2 then iS2 else if k = 3 then iS3 else iS4), ?_⟩
    intro k q hq
    match k, hq with
    | 0, hq => cases hq; exact hK0
    | 1, hq => cases hq; exact hK1
    | 2, hq => cases hq; exact hK2
    | 3, hq => cases hq; exact hK3
    | 4, hq => cases hq; exact hK4
    | k + 5, hq => simp [vwCl] at hq
  obtain ⟨Z, hZ⟩ : ∃ Z : zZ, Z = (D, (cI, cQ, cG), (s.heap.size, b, t1, t2), L, xs) := ⟨_, rfl⟩
  have hK : va_K Z.1 vwCl (ztys Z) s := by
    subst hZ
    refine ⟨hKc, fun k q hq => ?_⟩
    match k, hq with
    | 0, hq => cases hq; exact ⟨fun n z => ⟨fun k h => (by cases h), kI, i2, compI, i3⟩, i1⟩
    | 1, hq => cases hq; exact ⟨fun n z => ⟨fun k h => (by cases h), kQ, q3, compQ, q4⟩, kQ, compQ, q3, q4, q1, q5⟩
    | 2, hq => cases hq; exact ⟨fun n z => ⟨fun k h => (by cases h), kG, g3, compG, g4⟩, g5⟩
    | k + 3, hq => simp [ztys] at hq
  have hU : zU Z s := by
    subst hZ
    refine ⟨hK, hT0, hT1, hT2, hZ1, hZ2, Nat.le_refl _, va_AO.of (hts _ zmem_over.1), hao, fun w hw => ?_, hL⟩
    have hm := List.mem_filter.mp hw
    cases w <;> first | exact va_Nw.of rfl (hts _ hm.1) | (simp at hm; done)
  have hadr : zcv Z (.ref 0) = .ref b := by subst hZ; rfl
  have hM : zProg[212]? = some (⟨"CubeHopsLaw", "law", "([I)Z"⟩, code, 4, some .boolean, 6, 0, 1) := rfl
  have hC : zC Z (⟨"CubeHopsLaw", "law", "([I)Z"⟩, code, 4, some .boolean, 6, 0, 1) p room_1 s m #[Value.ref b] meth c 30 := by
    refine ⟨hx, hb, hml, hown, htz, fun g => ?_, hU, by decide, by decide, by decide, by decide⟩
    exact absurd g (by decide)
  have hl := lv_entry ([.ref b]) (n := 4) (Nat.le_of_ble_eq_true rfl)
  rw [lg_entry_eq]
  generalize (lg_sl ([.ref b]) ++ List.replicate (4 - (lg_sl ([.ref b])).length) Slot.unset).toArray = ls at hl ⊢
  have hl2 : zL Z ls 4 (zent 4 [.ref 0]) := zL_ent (by rw [List.map_cons, hadr]; exact hl) (by decide)
  have hok := zok1_ok
  unfold zok1 at hok
  split at hok
  rotate_left
  · cases hok
  next lo1 st1 S1 hgo =>
  obtain ⟨Sh1, I1, L1⟩ := S1
  simp only [Bool.and_eq_true, decide_eq_true_eq, List.all_eq_true, List.mem_range] at hok
  obtain ⟨rfl, rfl, rfl, hI, hLl⟩ := hok
  have hz0 : zc zS0 = 3 := rfl
  have hz1 : zs zS0 = 10 := rfl
  have hzc : ∀ x : zE, ((zSH x).length = 83) := fun x => rfl
  have hzs : ∀ x : zE, ((zSH x).map zsz).sum = zsz x + 5776 := fun x => congrArg (zsz x + ·) (by decide +kernel : (zSHt.map zsz).sum = 5776)
  refine zgo_sound (Z := Z) (st := []) (mc := 80) (ms := 5766) 4000 hgo hM hC ⟨⟨?_, ?_, ?_⟩, va_S.rf, hl2⟩ ?_ ?_ (by decide) (by decide) ?_
  · intro k x h3 hk
    have := (List.getElem?_eq_some_iff.mp hk).1
    simp only [zS0, List.length_cons, List.length_nil] at this
    omega
  · subst hZ
    rfl
  · subst hZ
    exact ⟨Nat.le_refl _, Or.inr rfl, rfl, rfl, fun j _ => rfl, fun j _ => rfl⟩
  · show 0 + (zSH _).length = 80 + zc zS0
    rw [hzc, hz0]
  · show 0 + ((zSH _).map zsz).sum = 5766 + zs zS0
    rw [hzs, hz1]
    rfl
  · intro ls1 H1 locs1 hT1
    obtain ⟨⟨hP1, hs1, h01⟩, hS1, hL1⟩ := hT1
    obtain ⟨I2, hI2⟩ : ∃ I2 : Nat → Nat → Int32, I2 = fun k j => if k = 0 then xs j else I1 k j := ⟨_, rfl⟩
    have hI2k : ∀ k j, k ≠ 0 → I2 k j = I1 k j := fun k j g => by rw [hI2]; exact if_neg g
    have hT2 : zT Z s (⟨"CubeHopsLaw", "law", "([I)Z"⟩, code, 4, some .boolean, 6, 0, 1) (zSH (.inl L), I2, L1) H1 locs1 ls1 [.ref 0, .ref 3, .ref 62, .int 0] := by
      refine ⟨⟨fun k x h3 hk => ?_, hs1, ?_⟩, hS1, hL1⟩
      · have hk2 : (zSH (.inr (.inr (99, []))))[k]? = some x := by
          match k, h3, hk with
          | k + 1, h3, hk => exact hk
        rw [zcell_congr (S := (zSH (.inr (.inr (99, []))), I1, L1)) (S' := (zSH (.inl L), I2, L1)) (fun j => hI2k k j (by omega)) (fun j => rfl)]
        exact hP1 k x h3 hk2
      · obtain ⟨a1, -, a3, a4, a5, a6⟩ := h01
        refine ⟨Nat.le_of_ble_eq_true rfl, Or.inl ⟨?_, fun j hj => ?_⟩, rfl, rfl, fun j hj => by rw [← a5 j hj]; exact hI2k 1 j (by decide), fun j hj => by rw [← a6 j hj]; exact hI2k 2 j (by decide)⟩
        · subst hZ
          rfl
        · subst hZ
          rw [hI2]
          rfl
    obtain ⟨-, -, -, -, a5, a6⟩ := h01
    obtain ⟨f, v, S', hrun, rfl, hcS⟩ := zlaw L xs I2 L1 hL (fun j => by rw [hI2]; rfl) (fun j hj => by rw [← a5 j hj]; exact hI2k 1 j (by decide)) (fun j hj => by rw [← a6 j hj]; exact hI2k 2 j (by decide)) (fun k j h3 hk => ⟨fun hj => by
        have := hI (k - 3) (by omega) j hj
        rw [show k - 3 + 3 = k by omega] at this
        rw [← this]
        exact hI2k k j (by omega), fun hj => by
        have := hLl (k - 3) (by omega) j hj
        rw [show k - 3 + 3 = k by omega] at this
        exact this⟩)
    refine zsound (Z := Z) (st := []) (mc := 80) (ms := 5766) f hrun hM hC hT2 ?_ ?_ (by decide) (by decide) ?_
    · show 80 + S'.1.length = 80 + (zSH _).length
      rw [hcS]
    · show 5766 + (S'.1.map zsz).sum = 5766 + ((zSH _).map zsz).sum
      rw [hcS]
    · intro pc ls2 H2 locs2 hrt hS2 hH2
      rcases hrt with ⟨x, hxv, hdr, -⟩ | ⟨x, hxv, -⟩ | ⟨hxv, -⟩
      · cases hxv
        refine va_forget (fun q hq => ?_) ?_
        · have h9 := hS2.2.2 q hq
          subst hZ
          exact h9
        · refine W.widen (k := 600000) (n := 7302250) (by omega) (by omega) ?_
          exact lw_ret hx hb hr hlocks hdr
      · cases hxv
      · cases hxv
end
section
/-! RUNS OVER THE FIXED HEAP: cells as zSH has them, ints and longs alone change -/
abbrev zi : Type := Nat → Nat → Int32
abbrev zl : Type := Nat → Nat → Int64
def zrun2 (n : Nat) : Nat → Nat → Nat → Nat → List Value → List Value → zi → zl → Option (Option Value × zi × zl)
  | 0, _, _, _, _, _, _, _ => none
  | f + 1, d, mi, pc, lo, st, I, L => match zstep mi pc lo st (zSH (.inl n), I, L) with
    | none => none
    | some (.inl (pc', lo', st', S')) => if S'.1 = zSH (.inl n) then zrun2 n f d mi pc' lo' st' S'.2.1 S'.2.2 else none
    | some (.inr (.inr v)) => some (v, I, L)
    | some (.inr (.inl (mi', as, pc', rest))) => (match d with
      | 0 => none
      | d' + 1 => if (zplace as).length ≤ zmax mi' then (match zrun2 n f d' mi' 0 (zent (zmax mi') as) [] I L with
        | none => none
        | some (v, I', L') => zrun2 n f (d' + 1) mi pc' lo (v.toList ++ rest) I' L') else none)
theorem zrun2_run {n f : Nat} : ∀ {d mi pc : Nat} {lo st : List Value} {I : zi} {L : zl} {v : Option Value} {I' : zi} {L' : zl}, zrun2 n f d mi pc lo st I L = some (v, I', L') → zrun f d mi pc lo st (zSH (.inl n), I, L) = some (v, (zSH (.inl n), I', L')) := by
  induction f with
  | zero => intro d mi pc lo st I L v I' L' h; cases h
  | succ f ih =>
    intro d mi pc lo st I L v I' L' h
    rw [zrun2] at h
    rw [zrun]
    split at h
    · cases h
    · next pc1 lo1 st1 S1 hst =>
      split at h
      · next hS =>
        obtain ⟨a, b, c⟩ := S1
        dsimp only at hS h
        subst hS
        rw [hst]
        dsimp only
        rw [if_pos (show zle (zSH (.inl n), I, L) (zSH (.inl n), b, c) = true from zle_same rfl)]
        exact ih h
      · cases h
    · next hst =>
      rw [hst]
      cases h
      rfl
    · next hst =>
      rw [hst]
      dsimp only
      split at h
      · cases h
      · split at h
        · next hz =>
          dsimp only
          rw [if_pos hz]
          split at h
          · cases h
          · next hc =>
            rw [ih hc]
            exact ih h
        · cases h
theorem zrun2_up {n f : Nat} : ∀ {d mi pc : Nat} {lo st : List Value} {I : zi} {L : zl} {r : Option Value × zi × zl}, zrun2 n f d mi pc lo st I L = some r → zrun2 n (f + 1) d mi pc lo st I L = some r := by
  induction f with
  | zero => intro d mi pc lo st I L r h; cases h
  | succ f ih =>
    intro d mi pc lo st I L r h
    rw [zrun2] at h ⊢
    split at h
    · cases h
    · split at h
      · next hz =>
        rw [if_pos hz]
        exact ih h
      · cases h
    · exact h
    · split at h
      · cases h
      · split at h
        · next hz =>
          split at h
          · cases h
          · next hc =>
            rw [if_pos hz, ih hc]
            exact ih h
        · cases h
theorem zrun2_le {n f g : Nat} (hfg : f ≤ g) {d mi pc : Nat} {lo st : List Value} {I : zi} {L : zl} {r : Option Value × zi × zl} (h : zrun2 n f d mi pc lo st I L = some r) : zrun2 n g d mi pc lo st I L = some r := by
  induction hfg with
  | refl => exact h
  | step _ ih => exact zrun2_up ih
abbrev zq : Type := Option Value → zi → zl → Prop
def zV (n d mi pc : Nat) (lo st : List Value) (I : zi) (L : zl) (Q : zq) : Prop := ∃ f v I' L', zrun2 n f d mi pc lo st I L = some (v, I', L') ∧ Q v I' L'
theorem zV_W {n d mi pc : Nat} {lo st : List Value} {I : zi} {L : zl} {Q : zq} (h : zV n d mi pc lo st I L Q) : zW d mi pc lo st (zSH (.inl n), I, L) (fun v S' => Q v S'.2.1 S'.2.2 ∧ S'.1 = zSH (.inl n)) := by
  obtain ⟨f, v, I', L', h1, h2⟩ := h
  exact ⟨f, v, _, zrun2_run h1, h2, rfl⟩
section
variable {n d mi pc pc' : Nat} {lo lo' st st' : List Value} {I I' : zi} {L L' : zl} {Q : zq} {M : zM}
theorem zV_nx (h : zstep mi pc lo st (zSH (.inl n), I, L) = some (.inl (pc', lo', st', (zSH (.inl n), I', L')))) : zV n d mi pc lo st I L Q ↔ zV n d mi pc' lo' st' I' L' Q := by
  constructor
  · rintro ⟨f, v, I2, L2, hr, hq⟩
    cases f with
    | zero => cases hr
    | succ f =>
      rw [zrun2, h] at hr
      dsimp only at hr
      rw [if_pos rfl] at hr
      exact ⟨f, v, I2, L2, hr, hq⟩
  · rintro ⟨f, v, I2, L2, hr, hq⟩
    refine ⟨f + 1, v, I2, L2, ?_, hq⟩
    rw [zrun2, h]
    dsimp only
    rw [if_pos rfl]
    exact hr
theorem zV_no (h : zstep mi pc lo st (zSH (.inl n), I, L) = none) : ¬ zV n d mi pc lo st I L Q := by
  rintro ⟨f, v, I2, L2, hr, hq⟩
  cases f with
  | zero => cases hr
  | succ f =>
    rw [zrun2, h] at hr
    cases hr
theorem zV_ret {v : Option Value} (h : zstep mi pc lo st (zSH (.inl n), I, L) = some (.inr (.inr v))) : zV n d mi pc lo st I L Q ↔ Q v I L := by
  constructor
  · rintro ⟨f, v', I2, L2, hr, hq⟩
    cases f with
    | zero => cases hr
    | succ f =>
      rw [zrun2, h] at hr
      cases hr
      exact hq
  · intro hq
    refine ⟨1, v, I, L, ?_, hq⟩
    rw [zrun2, h]
def zpush : Option Value → List Value → List Value
  | none, st => st
  | some v, st => v :: st
theorem zpush_some {v : Value} {st : List Value} : zpush (some v) st = v :: st := rfl
theorem zpush_none {st : List Value} : zpush none st = st := rfl
theorem zV_call {mi' : Nat} {as rest lo1 : List Value} (h : zstep mi pc lo st (zSH (.inl n), I, L) = some (.inr (.inl (mi', as, pc', rest)))) (hz : (zplace as).length ≤ zmax mi') (hl : zent (zmax mi') as = lo1) :
    zV n (d + 1) mi pc lo st I L Q ↔ zV n d mi' 0 lo1 [] I L (fun v I' L' => zV n (d + 1) mi pc' lo (zpush v rest) I' L' Q) := by
  have hp : ∀ v : Option Value, v.toList ++ rest = zpush v rest := fun v => by cases v <;> rfl
  subst hl
  constructor
  · rintro ⟨f, v', I2, L2, hr, hq⟩
    cases f with
    | zero => cases hr
    | succ f =>
      rw [zrun2, h] at hr
      dsimp only at hr
      rw [if_pos hz] at hr
      split at hr
      · cases hr
      · next hc =>
        rw [hp] at hr
        exact ⟨f, _, _, _, hc, f, v', I2, L2, hr, hq⟩
  · rintro ⟨f, v, I1, L1, hc, g, v', I2, L2, hr, hq⟩
    refine ⟨max f g + 1, v', I2, L2, ?_, hq⟩
    rw [zrun2, h]
    dsimp only
    rw [if_pos hz, zrun2_le (Nat.le_max_left f g) hc]
    dsimp only
    rw [hp]
    exact zrun2_le (Nat.le_max_right f g) hr
theorem zso_of {ins : Instr} {len : Nat} {r : Option zR} {S : zS} (hM : zProg[mi]? = some M) (hd : decode M.2.1 pc = .ok (ins, len)) (h : zexec M ins len pc lo st S = r) : zstep mi pc lo st S = r := by
  unfold zstep
  rw [hM]
  dsimp only
  rw [hd]
  exact h
/-- the heap's shape, by functions -/
def zobj (k : Nat) : Nat := match zSHt[k - 1]? with
  | some (.inr (.inr (ci, _))) => ci
  | _ => 99
def zint (k : Nat) : Bool := match k, zSHt[k - 1]? with
  | _ + 1, some (.inl _) => true
  | _, _ => false
def zra (k : Nat) : Bool := match k, zSHt[k - 1]? with
  | _ + 1, some (.inr (.inl _)) => true
  | _, _ => false
def zlen (k : Nat) : Nat := match zSHt[k - 1]? with
  | some (.inl n) => n
  | some (.inr (.inl (_, rs))) => rs.length
  | _ => 0
def zref (k j : Nat) : Nat := match zSHt[k - 1]? with
  | some (.inr (.inl (_, rs))) => (rs.getD j none).getD 0
  | some (.inr (.inr (_, rs))) => (rs.getD j none).getD 0
  | _ => 0
theorem zobj_at {k ci : Nat} (h : zobj k = ci) (hc : ci < 5) (hk : k ≠ 0) : ∃ rs, (zSH (.inl n))[k]? = some (.inr (.inr (ci, rs))) := by
  unfold zobj at h
  split at h
  · next ci' rs hs =>
    subst h
    refine ⟨rs, ?_⟩
    cases k with
    | zero => exact absurd rfl hk
    | succ k => exact hs
  · omega
theorem zint_at {k : Nat} (h : zint k = true) : (zSH (.inl n))[k]? = some (.inl (zlen k)) := by
  unfold zint at h
  split at h
  · next k0 n0 hs =>
    unfold zlen
    rw [hs]
    exact hs
  · cases h
end
end
section
/-! one rewriting row an instruction -/
section
variable {n d mi pc pc' : Nat} {lo lo' st st' : List Value} {I I' : zi} {L L' : zl} {Q : zq} {M : zM}
theorem r_nx {ins : Instr} {len : Nat} (hM : zProg[mi]? = some M) (hd : decode M.2.1 pc = .ok (ins, len)) (h : zexec M ins len pc lo st (zSH (.inl n), I, L) = some (.inl (pc', lo', st', (zSH (.inl n), I', L')))) : zV n d mi pc lo st I L Q ↔ zV n d mi pc' lo' st' I' L' Q := zV_nx (zso_of hM hd h)
def zshP (k : Nat) : Bool := match zSHt[k - 1]? with
  | some (.inr (.inr (ci, rs))) => decide (ci < 5) && (decide (rs.length = (zFK.getD ci []).length) && (List.range rs.length).all fun j => decide ((zFK.getD ci []).getD j 2 = 2 → rs.getD j none = some (zref k j)))
  | some (.inr (.inl (_, rs))) => (List.range rs.length).all fun j => decide (rs.getD j none = some (zref k j))
  | _ => true
theorem zsh_ok : (List.range 83).all zshP = true := by decide +kernel
theorem zsh_at {k : Nat} : zshP k = true := by
  by_cases hk : k < 83
  · exact List.all_eq_true.mp zsh_ok k (List.mem_range.mpr hk)
  · unfold zshP
    rw [List.getElem?_eq_none (by show 82 ≤ k - 1; omega)]
theorem zobj_is {k ci : Nat} (h : zobj k = ci) (hc : ci < 5) : ∃ rs, (zSH (.inl n))[k]? = some (.inr (.inr (ci, rs))) ∧ rs.length = (zFK.getD ci []).length ∧ ∀ j, j < rs.length → (zFK.getD ci []).getD j 2 = 2 → rs.getD j none = some (zref k j) := by
  have hk : k ≠ 0 := by
    intro e
    subst e
    have : zobj 0 = 99 := by decide +kernel
    omega
  obtain ⟨rs, hrs⟩ := zobj_at (n := n) h hc hk
  refine ⟨rs, hrs, ?_⟩
  have hz := zsh_at (k := k)
  unfold zshP at hz
  have h2 : zSHt[k - 1]? = some (.inr (.inr (ci, rs))) := by
    cases k with
    | zero => exact absurd rfl hk
    | succ k => exact hrs
  rw [h2] at hz
  simp only [Bool.and_eq_true, decide_eq_true_eq, List.all_eq_true, List.mem_range] at hz
  exact ⟨hz.2.1, hz.2.2⟩
theorem r_gf0 {idx ci j fin pp k : Nat} (hM : zProg[mi]? = some M) (hd : decode M.2.1 pc = .ok (.getfield idx, 3)) (hl : zFL.lookup (zky M idx) = some (ci, j, 0, fin, pp)) (hc : ci < 5 ∧ j < (zFK.getD ci []).length) (hk : zobj k = ci) : zV n d mi pc lo (.ref k :: st) I L Q ↔ zV n d mi (pc + 3) lo (.int (I k j) :: st) I L Q := by
  obtain ⟨rs, h1, h2, h3⟩ := zobj_is (n := n) hk hc.1
  refine r_nx hM hd ?_
  simp only [zexec, zgetf, hl, h1, h2, hc.2, and_self, if_true, znx]
theorem r_gf1 {idx ci j fin pp k : Nat} (hM : zProg[mi]? = some M) (hd : decode M.2.1 pc = .ok (.getfield idx, 3)) (hl : zFL.lookup (zky M idx) = some (ci, j, 1, fin, pp)) (hc : ci < 5 ∧ j < (zFK.getD ci []).length) (hk : zobj k = ci) : zV n d mi pc lo (.ref k :: st) I L Q ↔ zV n d mi (pc + 3) lo (.long (L k j) :: st) I L Q := by
  obtain ⟨rs, h1, h2, h3⟩ := zobj_is (n := n) hk hc.1
  refine r_nx hM hd ?_
  simp only [zexec, zgetf, hl, h1, h2, hc.2, and_self, if_true, znx]
theorem r_gf2 {idx ci j fin pp k : Nat} (hM : zProg[mi]? = some M) (hd : decode M.2.1 pc = .ok (.getfield idx, 3)) (hl : zFL.lookup (zky M idx) = some (ci, j, 2, fin, pp)) (hc : ci < 5 ∧ j < (zFK.getD ci []).length ∧ (zFK.getD ci []).getD j 2 = 2) (hk : zobj k = ci) : zV n d mi pc lo (.ref k :: st) I L Q ↔ zV n d mi (pc + 3) lo (.ref (zref k j) :: st) I L Q := by
  obtain ⟨rs, h1, h2, h3⟩ := zobj_is (n := n) hk hc.1
  have h4 := h3 j (by rw [h2]; exact hc.2.1) hc.2.2
  refine r_nx hM hd ?_
  simp only [zexec, zgetf, hl, h1, h2, hc.2.1, and_self, if_true, h4, znx]
theorem r_pf0 {idx ci j pp k : Nat} {x : Int32} (hM : zProg[mi]? = some M) (hd : decode M.2.1 pc = .ok (.putfield idx, 3)) (hl : zFL.lookup (zky M idx) = some (ci, j, 0, 0, pp)) (hc : ci < 5 ∧ j < (zFK.getD ci []).length) (hk : zobj k = ci) : zV n d mi pc lo (.int x :: .ref k :: st) I L Q ↔ zV n d mi (pc + 3) lo st (zup I k j x) L Q := by
  obtain ⟨rs, h1, h2, h3⟩ := zobj_is (n := n) hk hc.1
  refine r_nx hM hd ?_
  simp only [zexec, zputf, hl, h1, h2, hc.2, and_self, true_or, if_true, znx]
theorem r_pf1 {idx ci j pp k : Nat} {x : Int64} (hM : zProg[mi]? = some M) (hd : decode M.2.1 pc = .ok (.putfield idx, 3)) (hl : zFL.lookup (zky M idx) = some (ci, j, 1, 0, pp)) (hc : ci < 5 ∧ j < (zFK.getD ci []).length) (hk : zobj k = ci) : zV n d mi pc lo (.long x :: .ref k :: st) I L Q ↔ zV n d mi (pc + 3) lo st I (zup L k j x) Q := by
  obtain ⟨rs, h1, h2, h3⟩ := zobj_is (n := n) hk hc.1
  refine r_nx hM hd ?_
  simp only [zexec, zputf, hl, h1, h2, hc.2, and_self, true_or, if_true, znx]
theorem r_ald {k : Nat} {i : Int32} (hM : zProg[mi]? = some M) (hd : decode M.2.1 pc = .ok (.iaload, 1)) (hk : zint k = true) : zV n d mi pc lo (.int i :: .ref k :: st) I L Q ↔ (zin i (zlen k) = true ∧ zV n d mi (pc + 1) lo (.int (I k i.toNatClampNeg) :: st) I L Q) := by
  have h1 := zint_at (n := n) hk
  by_cases hi : zin i (zlen k) = true
  · rw [r_nx (pc' := pc + 1) (lo' := lo) (st' := .int (I k i.toNatClampNeg) :: st) (I' := I) (L' := L) hM hd (by simp only [zexec, zald, h1, hi, if_true, znx])]
    exact ⟨fun h => ⟨hi, h⟩, fun h => h.2⟩
  · exact ⟨fun h => absurd h (zV_no (zso_of hM hd (by simp only [zexec, zald, h1, hi, if_true, Bool.false_eq_true, if_false]))), fun h => absurd h.1 hi⟩
theorem r_ald0 {i : Int32} (hM : zProg[mi]? = some M) (hd : decode M.2.1 pc = .ok (.iaload, 1)) : zV n d mi pc lo (.int i :: .ref 0 :: st) I L Q ↔ (zin i n = true ∧ zV n d mi (pc + 1) lo (.int (I 0 i.toNatClampNeg) :: st) I L Q) := by
  have h1 : (zSH (.inl n))[0]? = some (.inl n) := rfl
  by_cases hi : zin i n = true
  · rw [r_nx (pc' := pc + 1) (lo' := lo) (st' := .int (I 0 i.toNatClampNeg) :: st) (I' := I) (L' := L) hM hd (by simp only [zexec, zald, h1, hi, if_true, znx])]
    exact ⟨fun h => ⟨hi, h⟩, fun h => h.2⟩
  · exact ⟨fun h => absurd h (zV_no (zso_of hM hd (by simp only [zexec, zald, h1, hi, if_true, Bool.false_eq_true, if_false]))), fun h => absurd h.1 hi⟩
def zwr (k : Nat) : Bool := zint k && decide (3 ≤ k)
theorem r_ast {k : Nat} {i x : Int32} (hM : zProg[mi]? = some M) (hd : decode M.2.1 pc = .ok (.iastore, 1)) (hw : zwr k = true) : zV n d mi pc lo (.int x :: .int i :: .ref k :: st) I L Q ↔ (zin i (zlen k) = true ∧ zV n d mi (pc + 1) lo st (zup I k i.toNatClampNeg x) L Q) := by
  unfold zwr at hw
  simp only [Bool.and_eq_true, decide_eq_true_eq] at hw
  obtain ⟨hk, h3⟩ := hw
  have h1 := zint_at (n := n) hk
  by_cases hi : zin i (zlen k) = true
  · rw [r_nx (pc' := pc + 1) (lo' := lo) (st' := st) (I' := zup I k i.toNatClampNeg x) (L' := L) hM hd (by simp only [zexec, zast, h1, hi, h3, and_self, if_true, znx])]
    exact ⟨fun h => ⟨hi, h⟩, fun h => h.2⟩
  · exact ⟨fun h => absurd h (zV_no (zso_of hM hd (by simp only [zexec, zast, h1, hi, h3, if_true, Bool.false_eq_true, false_and, if_false]))), fun h => absurd h.1 hi⟩
theorem zra_at {k : Nat} (h : zra k = true) : ∃ t rs, (zSH (.inl n))[k]? = some (.inr (.inl (t, rs))) ∧ rs.length = zlen k ∧ ∀ j, j < rs.length → rs.getD j none = some (zref k j) := by
  have hz := zsh_at (k := k)
  unfold zshP at hz
  unfold zra at h
  split at h
  · next k0 t0 hs =>
    obtain ⟨t0, rs⟩ := t0
    rw [hs] at hz
    simp only [List.all_eq_true, List.mem_range, decide_eq_true_eq] at hz
    exact ⟨t0, rs, hs, by unfold zlen; rw [hs], hz⟩
  · cases h
theorem r_aald {k : Nat} {i : Int32} (hM : zProg[mi]? = some M) (hd : decode M.2.1 pc = .ok (.aaload, 1)) (hk : zra k = true) : zV n d mi pc lo (.int i :: .ref k :: st) I L Q ↔ (zin i (zlen k) = true ∧ zV n d mi (pc + 1) lo (.ref (zref k i.toNatClampNeg) :: st) I L Q) := by
  obtain ⟨t, rs, h1, h2, h3⟩ := zra_at (n := n) hk
  rw [← h2]
  by_cases hi : zin i rs.length = true
  · have hj : i.toNatClampNeg < rs.length := by
      have := zin_in hi
      exact Nat.not_le.mp fun q => this (Or.inr q)
    have h4 := h3 _ hj
    rw [r_nx (pc' := pc + 1) (lo' := lo) (st' := .ref (zref k i.toNatClampNeg) :: st) (I' := I) (L' := L) hM hd (by simp only [zexec, zaald, h1, hi, h4, if_true, znx])]
    exact ⟨fun h => ⟨hi, h⟩, fun h => h.2⟩
  · exact ⟨fun h => absurd h (zV_no (zso_of hM hd (by simp only [zexec, zaald, h1, hi, if_true, Bool.false_eq_true, if_false]))), fun h => absurd h.1 hi⟩
theorem r_alen {k : Nat} (hM : zProg[mi]? = some M) (hd : decode M.2.1 pc = .ok (.arraylength, 1)) (hk : zint k = true) : zV n d mi pc lo (.ref k :: st) I L Q ↔ zV n d mi (pc + 1) lo (.int (nI (zlen k)) :: st) I L Q := by
  have h1 := zint_at (n := n) hk
  exact r_nx hM hd (by simp only [zexec, zalen, h1, if_true, znx]; rfl)
theorem r_alenq {k : Nat} (hM : zProg[mi]? = some M) (hd : decode M.2.1 pc = .ok (.arraylength, 1)) (hk : zra k = true) : zV n d mi pc lo (.ref k :: st) I L Q ↔ zV n d mi (pc + 1) lo (.int (nI (zlen k)) :: st) I L Q := by
  obtain ⟨t, rs, h1, h2, h3⟩ := zra_at (n := n) hk
  exact r_nx hM hd (by simp only [zexec, zalen, h1, h2, if_true, znx]; rfl)
theorem r_gs {idx k pp : Nat} (hM : zProg[mi]? = some M) (hd : decode M.2.1 pc = .ok (.getstatic idx, 3)) (hl : zSL.lookup (zky M idx) = some (k, pp)) : zV n d mi pc lo st I L Q ↔ zV n d mi (pc + 3) lo (.ref k :: st) I L Q := r_nx hM hd (by simp only [zexec, hl, if_true, znx])
theorem r_ki {idx pp : Nat} {x : Int32} (hM : zProg[mi]? = some M) (hd : decode M.2.1 pc = .ok (.ldc idx, 2)) (hl : zKI.lookup (zky M idx) = some (x, pp)) : zV n d mi pc lo st I L Q ↔ zV n d mi (pc + 2) lo (.int x :: st) I L Q := r_nx hM hd (by simp only [zexec, hl, if_true, znx])
theorem r_kiw {idx pp : Nat} {x : Int32} (hM : zProg[mi]? = some M) (hd : decode M.2.1 pc = .ok (.ldc_w idx, 3)) (hl : zKI.lookup (zky M idx) = some (x, pp)) : zV n d mi pc lo st I L Q ↔ zV n d mi (pc + 3) lo (.int x :: st) I L Q := r_nx hM hd (by simp only [zexec, hl, if_true, znx])
theorem r_kl {idx pp : Nat} {x : Int64} (hM : zProg[mi]? = some M) (hd : decode M.2.1 pc = .ok (.ldc2_w idx, 3)) (hl : zKL.lookup (zky M idx) = some (x, pp)) : zV n d mi pc lo st I L Q ↔ zV n d mi (pc + 3) lo (.long x :: st) I L Q := r_nx hM hd (by simp only [zexec, hl, if_true, znx])
theorem r_div {x y : Int32} (hM : zProg[mi]? = some M) (hd : decode M.2.1 pc = .ok (.idiv, 1)) (hy : ¬ y = 0) : zV n d mi pc lo (.int y :: .int x :: st) I L Q ↔ zV n d mi (pc + 1) lo (.int (x / y) :: st) I L Q := r_nx hM hd (by simp only [zexec, ziiD, hy, if_true, if_false, znx])
theorem r_rem {x y : Int32} (hM : zProg[mi]? = some M) (hd : decode M.2.1 pc = .ok (.irem, 1)) (hy : ¬ y = 0) : zV n d mi pc lo (.int y :: .int x :: st) I L Q ↔ zV n d mi (pc + 1) lo (.int (x - x / y * y) :: st) I L Q := r_nx hM hd (by simp only [zexec, ziiD, hy, if_true, if_false, znx])
theorem r_ldiv {x y : Int64} (hM : zProg[mi]? = some M) (hd : decode M.2.1 pc = .ok (.ldiv, 1)) (hy : ¬ y = 0) : zV n d mi pc lo (.long y :: .long x :: st) I L Q ↔ zV n d mi (pc + 1) lo (.long (x / y) :: st) I L Q := r_nx hM hd (by simp only [zexec, zllD, hy, if_true, if_false, znx])
theorem r_lrem {x y : Int64} (hM : zProg[mi]? = some M) (hd : decode M.2.1 pc = .ok (.lrem, 1)) (hy : ¬ y = 0) : zV n d mi pc lo (.long y :: .long x :: st) I L Q ↔ zV n d mi (pc + 1) lo (.long (x - x / y * y) :: st) I L Q := r_nx hM hd (by simp only [zexec, zllD, hy, if_true, if_false, znx])
theorem r_bra {ins : Instr} {b : Bool} {st1 : List Value} {t : Nat} (hM : zProg[mi]? = some M) (hd : decode M.2.1 pc = .ok (ins, 3)) {off : Int} (hx : zexec M ins 3 pc lo st (zSH (.inl n), I, L) = zbr b pc off lo st1 (zSH (.inl n), I, L)) (ht : (pc : Int) + off = (t : Int)) {c : Prop} [Decidable c] (hb : b = decide c) : zV n d mi pc lo st I L Q ↔ (if c then zV n d mi t lo st1 I L Q else zV n d mi (pc + 3) lo st1 I L Q) := by
  have h0 : ¬ (pc : Int) + off < 0 := by omega
  have h1 : ((pc : Int) + off).toNat = t := by omega
  by_cases hc : c
  · rw [if_pos hc]
    exact r_nx hM hd (by rw [hx, zbr, if_neg h0, hb, decide_eq_true hc, h1]; rfl)
  · rw [if_neg hc]
    exact r_nx hM hd (by rw [hx, zbr, if_neg h0, hb, decide_eq_false hc]; rfl)
theorem r_goto {off : Int} {t : Nat} (hM : zProg[mi]? = some M) (hd : decode M.2.1 pc = .ok (.goto off, 3)) (ht : (pc : Int) + off = (t : Int)) : zV n d mi pc lo st I L Q ↔ zV n d mi t lo st I L Q := by
  have h0 : ¬ (pc : Int) + off < 0 := by omega
  have h1 : ((pc : Int) + off).toNat = t := by omega
  exact r_nx hM hd (by simp only [zexec, zjp, if_true, if_neg h0, h1, znx])
theorem r_jp {ins : Instr} {len : Nat} {st1 : List Value} {off : Int} {t : Nat} (hM : zProg[mi]? = some M) (hd : decode M.2.1 pc = .ok (ins, len)) (hx : zexec M ins len pc lo st (zSH (.inl n), I, L) = zjp pc off lo st1 (zSH (.inl n), I, L)) (ht : (pc : Int) + off = (t : Int)) : zV n d mi pc lo st I L Q ↔ zV n d mi t lo st1 I L Q := by
  have h0 : ¬ (pc : Int) + off < 0 := by omega
  have h1 : ((pc : Int) + off).toNat = t := by omega
  exact r_nx hM hd (by rw [hx, zjp, if_neg h0, h1]; rfl)
theorem r_re {ins : Instr} {len : Nat} {v : Option Value} (hM : zProg[mi]? = some M) (hd : decode M.2.1 pc = .ok (ins, len)) (hx : zexec M ins len pc lo st (zSH (.inl n), I, L) = some (.inr (.inr v))) : zV n d mi pc lo st I L Q ↔ Q v I L := zV_ret (zso_of hM hd hx)
theorem r_rez {x : Int32} (hM : zProg[mi]? = some M) (hd : decode M.2.1 pc = .ok (.ireturn, 1)) (hr : M.2.2.2.1 = some .boolean) : zV n d mi pc lo [.int x] I L Q ↔ ((x = 0 ∨ x = 1) ∧ Q (some (.int x)) I L) := by
  by_cases hx : x = 0 ∨ x = 1
  · rw [r_re (v := some (.int x)) hM hd (by simp only [zexec, zret, hr, hx, if_true])]
    exact ⟨fun h => ⟨hx, h⟩, fun h => h.2⟩
  · exact ⟨fun h => absurd h (zV_no (zso_of hM hd (by simp only [zexec, zret, hr, hx, if_true, if_false]))), fun h => absurd h.1 hx⟩
theorem r_cs {idx mi' t mx : Nat} {ps : Nat × Nat × Nat × Nat} {M' : zM} {as rest lo1 : List Value} (hM : zProg[mi]? = some M) (hd : decode M.2.1 pc = .ok (.invokestatic idx, 3)) (hl : zML.lookup (zky M idx) = some (t, mi', ps)) (ht : t = 1 ∨ t = 5) (hM' : zProg[mi']? = some M') (hn : M'.2.2.2.2.2.2 = as.length) (hst : st = as.reverse ++ rest) (hc : zcat rest ≤ 8) (hmx : M'.2.2.1 = mx) (hz : (zplace as).length ≤ mx) (he : zent mx as = lo1) :
    zV n (d + 1) mi pc lo st I L Q ↔ zV n d mi' 0 lo1 [] I L (fun v I' L' => zV n (d + 1) mi (pc + 3) lo (zpush v rest) I' L' Q) := by
  have hm : zmax mi' = mx := by unfold zmax; rw [hM']; exact hmx
  have h1 : as.length = as.reverse.length := List.length_reverse.symm
  refine zV_call (as := as) (zso_of hM hd ?_) (by rw [hm]; exact hz) (by rw [hm]; exact he)
  have e1 : st.take M'.2.2.2.2.2.2 = as.reverse := by rw [hst, hn, h1, List.take_left]
  have e2 : st.drop M'.2.2.2.2.2.2 = rest := by rw [hst, hn, h1, List.drop_left]
  have e3 : M'.2.2.2.2.2.2 ≤ st.length := by rw [hst, hn, List.length_append, List.length_reverse]; omega
  rcases ht with rfl | rfl <;> simp only [zexec, zinv, hl, hM', e1, e2, e3, hc, and_self, if_true, List.reverse_reverse]
theorem r_cv {idx mi' mx ci k : Nat} {ps : Nat × Nat × Nat × Nat} {M' : zM} {as rest lo1 : List Value} (hM : zProg[mi]? = some M) (hd : decode M.2.1 pc = .ok (.invokevirtual idx, 3)) (hl : zML.lookup (zky M idx) = some (0, mi', ps)) (hM' : zProg[mi']? = some M') (hn : M'.2.2.2.2.2.2 = as.length) (hst : st = as.reverse ++ .ref k :: rest) (hc : zcat rest ≤ 8) (hmx : M'.2.2.1 = mx) (hz : (zplace (.ref k :: as)).length ≤ mx) (he : zent mx (.ref k :: as) = lo1) (hcl : zCN[ci]? = some M'.1.cls) (hci : ci < 5) (hk : zobj k = ci) :
    zV n (d + 1) mi pc lo st I L Q ↔ zV n d mi' 0 lo1 [] I L (fun v I' L' => zV n (d + 1) mi (pc + 3) lo (zpush v rest) I' L' Q) := by
  have hm : zmax mi' = mx := by unfold zmax; rw [hM']; exact hmx
  have h1 : as.length = as.reverse.length := List.length_reverse.symm
  obtain ⟨rs, hrs, -, -⟩ := zobj_is (n := n) hk hci
  refine zV_call (as := .ref k :: as) (zso_of hM hd ?_) (by rw [hm]; exact hz) (by rw [hm]; exact he)
  have e1 : st.take M'.2.2.2.2.2.2 = as.reverse := by rw [hst, hn, h1, List.take_left]
  have e2 : st.drop M'.2.2.2.2.2.2 = .ref k :: rest := by rw [hst, hn, h1, List.drop_left]
  simp only [zexec, zinv, hl, hM', e1, e2, hrs, hc, hcl, hci, and_self, if_true, List.reverse_reverse]
theorem r_mx {idx : Nat} {mi' : Nat} {ps : Nat × Nat × Nat × Nat} {x y : Int32} (hM : zProg[mi]? = some M) (hd : decode M.2.1 pc = .ok (.invokestatic idx, 3)) (hl : zML.lookup (zky M idx) = some (7, mi', ps)) (hc : zcat st ≤ 8) : zV n d mi pc lo (.int y :: .int x :: st) I L Q ↔ zV n d mi (pc + 3) lo (.int (if x < y then y else x) :: st) I L Q := r_nx hM hd (by simp only [zexec, zinv, hl, hc, and_self, if_true, znx])
theorem r_mn {idx : Nat} {mi' : Nat} {ps : Nat × Nat × Nat × Nat} {x y : Int32} (hM : zProg[mi]? = some M) (hd : decode M.2.1 pc = .ok (.invokestatic idx, 3)) (hl : zML.lookup (zky M idx) = some (8, mi', ps)) (hc : zcat st ≤ 8) : zV n d mi pc lo (.int y :: .int x :: st) I L Q ↔ zV n d mi (pc + 3) lo (.int (if y < x then y else x) :: st) I L Q := r_nx hM hd (by simp only [zexec, zinv, hl, hc, and_self, if_true, znx])
end
end
section
theorem i_vc : Claimed_1_1 ∧ Claimed_1_2 := sorry
end
