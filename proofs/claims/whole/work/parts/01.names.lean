-- ===== PART A: goes FIRST, ahead of the names: the tables' words, and 'selects' of the private methods out of them =====
/-- a private method of a class that the tables say can be made, by its rows of tables_1 -/
def lw_okq (q : MethodName × Nat) : Prop := (q.1.cls ≠ "java/lang/invoke/MethodHandle" ∧ q.1.cls ≠ "java/lang/invoke/VarHandle") ∧ Cond.instantiable q.1.cls q.2 ∈ tables_1 ∧ Cond.privateMethod q.1 ∈ tables_1 ∧ Cond.instanceMethod q.1 ∈ tables_1
theorem lw_p0 : lw_okq (⟨"CoatRings", "changed", "()V"⟩, 12) := ⟨⟨by decide +kernel, by decide +kernel⟩, List.mem_of_getElem? (i := 19) (by decide +kernel), List.mem_of_getElem? (i := 381) (by decide +kernel), List.mem_of_getElem? (i := 382) (by decide +kernel)⟩
theorem lw_p1 : lw_okq (⟨"CoatRings", "take", "(III)I"⟩, 12) := ⟨⟨by decide +kernel, by decide +kernel⟩, List.mem_of_getElem? (i := 19) (by decide +kernel), List.mem_of_getElem? (i := 430) (by decide +kernel), List.mem_of_getElem? (i := 431) (by decide +kernel)⟩
theorem lw_p2 : lw_okq (⟨"CoatRings$Planner", "chooseInns", "()V"⟩, 15) := ⟨⟨by decide +kernel, by decide +kernel⟩, List.mem_of_getElem? (i := 183) (by decide +kernel), List.mem_of_getElem? (i := 574) (by decide +kernel), List.mem_of_getElem? (i := 575) (by decide +kernel)⟩
theorem lw_p3 : lw_okq (⟨"CoatRings$Planner", "reach", "(IIII)V"⟩, 15) := ⟨⟨by decide +kernel, by decide +kernel⟩, List.mem_of_getElem? (i := 183) (by decide +kernel), List.mem_of_getElem? (i := 584) (by decide +kernel), List.mem_of_getElem? (i := 585) (by decide +kernel)⟩
theorem lw_p4 : lw_okq (⟨"CoatRings$Heap", "rise", "(II)V"⟩, 4) := ⟨⟨by decide +kernel, by decide +kernel⟩, List.mem_of_getElem? (i := 189) (by decide +kernel), List.mem_of_getElem? (i := 596) (by decide +kernel), List.mem_of_getElem? (i := 597) (by decide +kernel)⟩
theorem lw_p5 : lw_okq (⟨"CoatRings$Heap", "put", "(II)V"⟩, 4) := ⟨⟨by decide +kernel, by decide +kernel⟩, List.mem_of_getElem? (i := 189) (by decide +kernel), List.mem_of_getElem? (i := 600) (by decide +kernel), List.mem_of_getElem? (i := 601) (by decide +kernel)⟩
theorem lw_p6 : lw_okq (⟨"CoatRings$Planner", "isEarlier", "(IIII)Z"⟩, 15) := ⟨⟨by decide +kernel, by decide +kernel⟩, List.mem_of_getElem? (i := 183) (by decide +kernel), List.mem_of_getElem? (i := 608) (by decide +kernel), List.mem_of_getElem? (i := 609) (by decide +kernel)⟩
theorem lw_p7 : lw_okq (⟨"CoatRings$Heap", "sink", "(I)V"⟩, 4) := ⟨⟨by decide +kernel, by decide +kernel⟩, List.mem_of_getElem? (i := 189) (by decide +kernel), List.mem_of_getElem? (i := 617) (by decide +kernel), List.mem_of_getElem? (i := 618) (by decide +kernel)⟩
theorem lw_p8 : lw_okq (⟨"CoatRings$Planner", "arrive", "(I)V"⟩, 15) := ⟨⟨by decide +kernel, by decide +kernel⟩, List.mem_of_getElem? (i := 183) (by decide +kernel), List.mem_of_getElem? (i := 621) (by decide +kernel), List.mem_of_getElem? (i := 622) (by decide +kernel)⟩
theorem lw_p9 : lw_okq (⟨"CoatRings$Planner", "goByPairs", "(I)V"⟩, 15) := ⟨⟨by decide +kernel, by decide +kernel⟩, List.mem_of_getElem? (i := 183) (by decide +kernel), List.mem_of_getElem? (i := 625) (by decide +kernel), List.mem_of_getElem? (i := 626) (by decide +kernel)⟩
theorem lw_p10 : lw_okq (⟨"CoatRings$Planner", "goByInns", "(I)V"⟩, 15) := ⟨⟨by decide +kernel, by decide +kernel⟩, List.mem_of_getElem? (i := 183) (by decide +kernel), List.mem_of_getElem? (i := 634) (by decide +kernel), List.mem_of_getElem? (i := 635) (by decide +kernel)⟩
theorem lw_p11 : lw_okq (⟨"CoatRings$Planner", "goByPosts", "(I)V"⟩, 15) := ⟨⟨by decide +kernel, by decide +kernel⟩, List.mem_of_getElem? (i := 183) (by decide +kernel), List.mem_of_getElem? (i := 639) (by decide +kernel), List.mem_of_getElem? (i := 640) (by decide +kernel)⟩
theorem lw_p12 : lw_okq (⟨"CoatRings$Planner", "tell", "()V"⟩, 15) := ⟨⟨by decide +kernel, by decide +kernel⟩, List.mem_of_getElem? (i := 183) (by decide +kernel), List.mem_of_getElem? (i := 648) (by decide +kernel), List.mem_of_getElem? (i := 649) (by decide +kernel)⟩
theorem lw_p13 : lw_okq (⟨"CoatRings$Days", "lessen", "(III)V"⟩, 5) := ⟨⟨by decide +kernel, by decide +kernel⟩, List.mem_of_getElem? (i := 260) (by decide +kernel), List.mem_of_getElem? (i := 665) (by decide +kernel), List.mem_of_getElem? (i := 666) (by decide +kernel)⟩
theorem lw_p14 : lw_okq (⟨"CoatRings$Tape", "readClauses", "(LCoatRings$Night;)I"⟩, 4) := ⟨⟨by decide +kernel, by decide +kernel⟩, List.mem_of_getElem? (i := 128) (by decide +kernel), List.mem_of_getElem? (i := 699) (by decide +kernel), List.mem_of_getElem? (i := 700) (by decide +kernel)⟩
theorem lw_p15 : lw_okq (⟨"CoatRings$Tape", "readClause", "(LCoatRings$Night;)Z"⟩, 4) := ⟨⟨by decide +kernel, by decide +kernel⟩, List.mem_of_getElem? (i := 128) (by decide +kernel), List.mem_of_getElem? (i := 703) (by decide +kernel), List.mem_of_getElem? (i := 704) (by decide +kernel)⟩
def lw_privs_1 : List (MethodName × Nat) := [(⟨"CoatRings", "changed", "()V"⟩, 12), (⟨"CoatRings", "take", "(III)I"⟩, 12), (⟨"CoatRings$Planner", "chooseInns", "()V"⟩, 15), (⟨"CoatRings$Planner", "reach", "(IIII)V"⟩, 15), (⟨"CoatRings$Heap", "rise", "(II)V"⟩, 4), (⟨"CoatRings$Heap", "put", "(II)V"⟩, 4), (⟨"CoatRings$Planner", "isEarlier", "(IIII)Z"⟩, 15), (⟨"CoatRings$Heap", "sink", "(I)V"⟩, 4), (⟨"CoatRings$Planner", "arrive", "(I)V"⟩, 15), (⟨"CoatRings$Planner", "goByPairs", "(I)V"⟩, 15), (⟨"CoatRings$Planner", "goByInns", "(I)V"⟩, 15), (⟨"CoatRings$Planner", "goByPosts", "(I)V"⟩, 15), (⟨"CoatRings$Planner", "tell", "()V"⟩, 15), (⟨"CoatRings$Days", "lessen", "(III)V"⟩, 5), (⟨"CoatRings$Tape", "readClauses", "(LCoatRings$Night;)I"⟩, 4), (⟨"CoatRings$Tape", "readClause", "(LCoatRings$Night;)Z"⟩, 4)]
theorem lw_r1 : ∀ q ∈ lw_privs_1, lw_okq q := List.forall_mem_cons.mpr ⟨lw_p0, List.forall_mem_cons.mpr ⟨lw_p1, List.forall_mem_cons.mpr ⟨lw_p2, List.forall_mem_cons.mpr ⟨lw_p3, List.forall_mem_cons.mpr ⟨lw_p4, List.forall_mem_cons.mpr ⟨lw_p5, List.forall_mem_cons.mpr ⟨lw_p6, List.forall_mem_cons.mpr ⟨lw_p7, List.forall_mem_cons.mpr ⟨lw_p8, List.forall_mem_cons.mpr ⟨lw_p9, List.forall_mem_cons.mpr ⟨lw_p10, List.forall_mem_cons.mpr ⟨lw_p11, List.forall_mem_cons.mpr ⟨lw_p12, List.forall_mem_cons.mpr ⟨lw_p13, List.forall_mem_cons.mpr ⟨lw_p14, List.forall_mem_cons.mpr ⟨lw_p15, fun _ h => absurd h List.not_mem_nil⟩⟩⟩⟩⟩⟩⟩⟩⟩⟩⟩⟩⟩⟩⟩⟩
theorem lw_p16 : lw_okq (⟨"CoatRings$Tape", "look", "()I"⟩, 4) := ⟨⟨by decide +kernel, by decide +kernel⟩, List.mem_of_getElem? (i := 128) (by decide +kernel), List.mem_of_getElem? (i := 707) (by decide +kernel), List.mem_of_getElem? (i := 708) (by decide +kernel)⟩
theorem lw_p17 : lw_okq (⟨"CoatRings$Givings", "worldsWith", "(LCoatRings$Night;II)I"⟩, 2) := ⟨⟨by decide +kernel, by decide +kernel⟩, List.mem_of_getElem? (i := 170) (by decide +kernel), List.mem_of_getElem? (i := 729) (by decide +kernel), List.mem_of_getElem? (i := 730) (by decide +kernel)⟩
theorem lw_p18 : lw_okq (⟨"CoatRings$Givings", "number", "(I)I"⟩, 2) := ⟨⟨by decide +kernel, by decide +kernel⟩, List.mem_of_getElem? (i := 170) (by decide +kernel), List.mem_of_getElem? (i := 735) (by decide +kernel), List.mem_of_getElem? (i := 736) (by decide +kernel)⟩
theorem lw_p19 : lw_okq (⟨"CoatRings$Givings", "giveOneMore", "(II)V"⟩, 2) := ⟨⟨by decide +kernel, by decide +kernel⟩, List.mem_of_getElem? (i := 170) (by decide +kernel), List.mem_of_getElem? (i := 741) (by decide +kernel), List.mem_of_getElem? (i := 742) (by decide +kernel)⟩
theorem lw_p20 : lw_okq (⟨"CoatRings", "slipsOf", "(I)LCoatRings$Slips;"⟩, 12) := ⟨⟨by decide +kernel, by decide +kernel⟩, List.mem_of_getElem? (i := 19) (by decide +kernel), List.mem_of_getElem? (i := 770) (by decide +kernel), List.mem_of_getElem? (i := 771) (by decide +kernel)⟩
theorem lw_p21 : lw_okq (⟨"CoatRings$Slips", "gather", "()V"⟩, 7) := ⟨⟨by decide +kernel, by decide +kernel⟩, List.mem_of_getElem? (i := 773) (by decide +kernel), List.mem_of_getElem? (i := 806) (by decide +kernel), List.mem_of_getElem? (i := 807) (by decide +kernel)⟩
theorem lw_p22 : lw_okq (⟨"CoatRings$Slips", "spread", "(I[II)I"⟩, 7) := ⟨⟨by decide +kernel, by decide +kernel⟩, List.mem_of_getElem? (i := 773) (by decide +kernel), List.mem_of_getElem? (i := 820) (by decide +kernel), List.mem_of_getElem? (i := 821) (by decide +kernel)⟩
theorem lw_p23 : lw_okq (⟨"CoatRings$Slips", "firstTowards", "(I)I"⟩, 7) := ⟨⟨by decide +kernel, by decide +kernel⟩, List.mem_of_getElem? (i := 773) (by decide +kernel), List.mem_of_getElem? (i := 840) (by decide +kernel), List.mem_of_getElem? (i := 841) (by decide +kernel)⟩
theorem lw_p24 : lw_okq (⟨"CoatRings$Rail", "weigh", "(LCoatRings$Night;)V"⟩, 6) := ⟨⟨by decide +kernel, by decide +kernel⟩, List.mem_of_getElem? (i := 299) (by decide +kernel), List.mem_of_getElem? (i := 873) (by decide +kernel), List.mem_of_getElem? (i := 874) (by decide +kernel)⟩
theorem lw_p25 : lw_okq (⟨"CoatRings$Rail", "goOn", "(I)Z"⟩, 6) := ⟨⟨by decide +kernel, by decide +kernel⟩, List.mem_of_getElem? (i := 299) (by decide +kernel), List.mem_of_getElem? (i := 880) (by decide +kernel), List.mem_of_getElem? (i := 881) (by decide +kernel)⟩
theorem lw_p26 : lw_okq (⟨"CoatRings$Rail", "exchange", "(II)V"⟩, 6) := ⟨⟨by decide +kernel, by decide +kernel⟩, List.mem_of_getElem? (i := 299) (by decide +kernel), List.mem_of_getElem? (i := 884) (by decide +kernel), List.mem_of_getElem? (i := 885) (by decide +kernel)⟩
theorem lw_p27 : lw_okq (⟨"CoatRings", "tradedCoat", "(I)I"⟩, 12) := ⟨⟨by decide +kernel, by decide +kernel⟩, List.mem_of_getElem? (i := 19) (by decide +kernel), List.mem_of_getElem? (i := 892) (by decide +kernel), List.mem_of_getElem? (i := 893) (by decide +kernel)⟩
theorem lw_p28 : lw_okq (⟨"CoatRings", "pointedAt", "(I)I"⟩, 12) := ⟨⟨by decide +kernel, by decide +kernel⟩, List.mem_of_getElem? (i := 19) (by decide +kernel), List.mem_of_getElem? (i := 896) (by decide +kernel), List.mem_of_getElem? (i := 897) (by decide +kernel)⟩
theorem lw_p29 : lw_okq (⟨"CoatRings", "hasMostLiked", "(II)I"⟩, 12) := ⟨⟨by decide +kernel, by decide +kernel⟩, List.mem_of_getElem? (i := 19) (by decide +kernel), List.mem_of_getElem? (i := 901) (by decide +kernel), List.mem_of_getElem? (i := 902) (by decide +kernel)⟩
theorem lw_p30 : lw_okq (⟨"CoatRingsModel", "isPerson", "(I)Z"⟩, 46) := ⟨⟨by decide +kernel, by decide +kernel⟩, List.mem_of_getElem? (i := 961) (by decide +kernel), List.mem_of_getElem? (i := 1124) (by decide +kernel), List.mem_of_getElem? (i := 1125) (by decide +kernel)⟩
theorem lw_p31 : lw_okq (⟨"CoatRingsModel", "holder", "(I)I"⟩, 46) := ⟨⟨by decide +kernel, by decide +kernel⟩, List.mem_of_getElem? (i := 961) (by decide +kernel), List.mem_of_getElem? (i := 1129) (by decide +kernel), List.mem_of_getElem? (i := 1130) (by decide +kernel)⟩
def lw_privs_2 : List (MethodName × Nat) := [(⟨"CoatRings$Tape", "look", "()I"⟩, 4), (⟨"CoatRings$Givings", "worldsWith", "(LCoatRings$Night;II)I"⟩, 2), (⟨"CoatRings$Givings", "number", "(I)I"⟩, 2), (⟨"CoatRings$Givings", "giveOneMore", "(II)V"⟩, 2), (⟨"CoatRings", "slipsOf", "(I)LCoatRings$Slips;"⟩, 12), (⟨"CoatRings$Slips", "gather", "()V"⟩, 7), (⟨"CoatRings$Slips", "spread", "(I[II)I"⟩, 7), (⟨"CoatRings$Slips", "firstTowards", "(I)I"⟩, 7), (⟨"CoatRings$Rail", "weigh", "(LCoatRings$Night;)V"⟩, 6), (⟨"CoatRings$Rail", "goOn", "(I)Z"⟩, 6), (⟨"CoatRings$Rail", "exchange", "(II)V"⟩, 6), (⟨"CoatRings", "tradedCoat", "(I)I"⟩, 12), (⟨"CoatRings", "pointedAt", "(I)I"⟩, 12), (⟨"CoatRings", "hasMostLiked", "(II)I"⟩, 12), (⟨"CoatRingsModel", "isPerson", "(I)Z"⟩, 46), (⟨"CoatRingsModel", "holder", "(I)I"⟩, 46)]
theorem lw_r2 : ∀ q ∈ lw_privs_2, lw_okq q := List.forall_mem_cons.mpr ⟨lw_p16, List.forall_mem_cons.mpr ⟨lw_p17, List.forall_mem_cons.mpr ⟨lw_p18, List.forall_mem_cons.mpr ⟨lw_p19, List.forall_mem_cons.mpr ⟨lw_p20, List.forall_mem_cons.mpr ⟨lw_p21, List.forall_mem_cons.mpr ⟨lw_p22, List.forall_mem_cons.mpr ⟨lw_p23, List.forall_mem_cons.mpr ⟨lw_p24, List.forall_mem_cons.mpr ⟨lw_p25, List.forall_mem_cons.mpr ⟨lw_p26, List.forall_mem_cons.mpr ⟨lw_p27, List.forall_mem_cons.mpr ⟨lw_p28, List.forall_mem_cons.mpr ⟨lw_p29, List.forall_mem_cons.mpr ⟨lw_p30, List.forall_mem_cons.mpr ⟨lw_p31, fun _ h => absurd h List.not_mem_nil⟩⟩⟩⟩⟩⟩⟩⟩⟩⟩⟩⟩⟩⟩⟩⟩
theorem lw_p32 : lw_okq (⟨"CoatRingsModel", "takes", "(III)I"⟩, 46) := ⟨⟨by decide +kernel, by decide +kernel⟩, List.mem_of_getElem? (i := 961) (by decide +kernel), List.mem_of_getElem? (i := 1153) (by decide +kernel), List.mem_of_getElem? (i := 1154) (by decide +kernel)⟩
theorem lw_p33 : lw_okq (⟨"CoatRingsModel", "finds", "(IIII)I"⟩, 46) := ⟨⟨by decide +kernel, by decide +kernel⟩, List.mem_of_getElem? (i := 961) (by decide +kernel), List.mem_of_getElem? (i := 1165) (by decide +kernel), List.mem_of_getElem? (i := 1166) (by decide +kernel)⟩
theorem lw_p34 : lw_okq (⟨"CoatRingsModel", "strangers", "()I"⟩, 46) := ⟨⟨by decide +kernel, by decide +kernel⟩, List.mem_of_getElem? (i := 961) (by decide +kernel), List.mem_of_getElem? (i := 1169) (by decide +kernel), List.mem_of_getElem? (i := 1170) (by decide +kernel)⟩
theorem lw_p35 : lw_okq (⟨"CoatRingsModel", "whoMeets", "([III)I"⟩, 46) := ⟨⟨by decide +kernel, by decide +kernel⟩, List.mem_of_getElem? (i := 961) (by decide +kernel), List.mem_of_getElem? (i := 1190) (by decide +kernel), List.mem_of_getElem? (i := 1191) (by decide +kernel)⟩
theorem lw_p36 : lw_okq (⟨"CoatRingsModel", "isThere", "(I)Z"⟩, 46) := ⟨⟨by decide +kernel, by decide +kernel⟩, List.mem_of_getElem? (i := 961) (by decide +kernel), List.mem_of_getElem? (i := 1194) (by decide +kernel), List.mem_of_getElem? (i := 1195) (by decide +kernel)⟩
theorem lw_p37 : lw_okq (⟨"CoatRingsModel", "unwilling", "()I"⟩, 46) := ⟨⟨by decide +kernel, by decide +kernel⟩, List.mem_of_getElem? (i := 961) (by decide +kernel), List.mem_of_getElem? (i := 1201) (by decide +kernel), List.mem_of_getElem? (i := 1202) (by decide +kernel)⟩
theorem lw_p38 : lw_okq (⟨"CoatRingsModel", "milesOf", "([IIII)I"⟩, 46) := ⟨⟨by decide +kernel, by decide +kernel⟩, List.mem_of_getElem? (i := 961) (by decide +kernel), List.mem_of_getElem? (i := 1205) (by decide +kernel), List.mem_of_getElem? (i := 1206) (by decide +kernel)⟩
theorem lw_p39 : lw_okq (⟨"CoatRingsModel", "far", "(II)I"⟩, 46) := ⟨⟨by decide +kernel, by decide +kernel⟩, List.mem_of_getElem? (i := 961) (by decide +kernel), List.mem_of_getElem? (i := 1209) (by decide +kernel), List.mem_of_getElem? (i := 1210) (by decide +kernel)⟩
theorem lw_p40 : lw_okq (⟨"CoatRingsModel", "meets", "([IIII[II)V"⟩, 46) := ⟨⟨by decide +kernel, by decide +kernel⟩, List.mem_of_getElem? (i := 961) (by decide +kernel), List.mem_of_getElem? (i := 1216) (by decide +kernel), List.mem_of_getElem? (i := 1217) (by decide +kernel)⟩
theorem lw_p41 : lw_okq (⟨"CoatRingsModel", "isWell", "([II)Z"⟩, 46) := ⟨⟨by decide +kernel, by decide +kernel⟩, List.mem_of_getElem? (i := 961) (by decide +kernel), List.mem_of_getElem? (i := 1227) (by decide +kernel), List.mem_of_getElem? (i := 1228) (by decide +kernel)⟩
theorem lw_p42 : lw_okq (⟨"CoatRingsModel", "settles", "(Z)V"⟩, 46) := ⟨⟨by decide +kernel, by decide +kernel⟩, List.mem_of_getElem? (i := 961) (by decide +kernel), List.mem_of_getElem? (i := 1235) (by decide +kernel), List.mem_of_getElem? (i := 1236) (by decide +kernel)⟩
theorem lw_p43 : lw_okq (⟨"CoatRingsModel", "laysSteps", "()V"⟩, 46) := ⟨⟨by decide +kernel, by decide +kernel⟩, List.mem_of_getElem? (i := 961) (by decide +kernel), List.mem_of_getElem? (i := 1239) (by decide +kernel), List.mem_of_getElem? (i := 1240) (by decide +kernel)⟩
theorem lw_p44 : lw_okq (⟨"CoatRingsModel", "lays", "(I)V"⟩, 46) := ⟨⟨by decide +kernel, by decide +kernel⟩, List.mem_of_getElem? (i := 961) (by decide +kernel), List.mem_of_getElem? (i := 1243) (by decide +kernel), List.mem_of_getElem? (i := 1244) (by decide +kernel)⟩
theorem lw_p45 : lw_okq (⟨"CoatRingsModel", "meetingAt", "(I)I"⟩, 46) := ⟨⟨by decide +kernel, by decide +kernel⟩, List.mem_of_getElem? (i := 961) (by decide +kernel), List.mem_of_getElem? (i := 1247) (by decide +kernel), List.mem_of_getElem? (i := 1248) (by decide +kernel)⟩
theorem lw_p46 : lw_okq (⟨"CoatRingsModel", "stepBy", "(II)I"⟩, 46) := ⟨⟨by decide +kernel, by decide +kernel⟩, List.mem_of_getElem? (i := 961) (by decide +kernel), List.mem_of_getElem? (i := 1251) (by decide +kernel), List.mem_of_getElem? (i := 1252) (by decide +kernel)⟩
theorem lw_p47 : lw_okq (⟨"CoatRingsModel", "costOf", "(II)I"⟩, 46) := ⟨⟨by decide +kernel, by decide +kernel⟩, List.mem_of_getElem? (i := 961) (by decide +kernel), List.mem_of_getElem? (i := 1258) (by decide +kernel), List.mem_of_getElem? (i := 1259) (by decide +kernel)⟩
def lw_privs_3 : List (MethodName × Nat) := [(⟨"CoatRingsModel", "takes", "(III)I"⟩, 46), (⟨"CoatRingsModel", "finds", "(IIII)I"⟩, 46), (⟨"CoatRingsModel", "strangers", "()I"⟩, 46), (⟨"CoatRingsModel", "whoMeets", "([III)I"⟩, 46), (⟨"CoatRingsModel", "isThere", "(I)Z"⟩, 46), (⟨"CoatRingsModel", "unwilling", "()I"⟩, 46), (⟨"CoatRingsModel", "milesOf", "([IIII)I"⟩, 46), (⟨"CoatRingsModel", "far", "(II)I"⟩, 46), (⟨"CoatRingsModel", "meets", "([IIII[II)V"⟩, 46), (⟨"CoatRingsModel", "isWell", "([II)Z"⟩, 46), (⟨"CoatRingsModel", "settles", "(Z)V"⟩, 46), (⟨"CoatRingsModel", "laysSteps", "()V"⟩, 46), (⟨"CoatRingsModel", "lays", "(I)V"⟩, 46), (⟨"CoatRingsModel", "meetingAt", "(I)I"⟩, 46), (⟨"CoatRingsModel", "stepBy", "(II)I"⟩, 46), (⟨"CoatRingsModel", "costOf", "(II)I"⟩, 46)]
theorem lw_r3 : ∀ q ∈ lw_privs_3, lw_okq q := List.forall_mem_cons.mpr ⟨lw_p32, List.forall_mem_cons.mpr ⟨lw_p33, List.forall_mem_cons.mpr ⟨lw_p34, List.forall_mem_cons.mpr ⟨lw_p35, List.forall_mem_cons.mpr ⟨lw_p36, List.forall_mem_cons.mpr ⟨lw_p37, List.forall_mem_cons.mpr ⟨lw_p38, List.forall_mem_cons.mpr ⟨lw_p39, List.forall_mem_cons.mpr ⟨lw_p40, List.forall_mem_cons.mpr ⟨lw_p41, List.forall_mem_cons.mpr ⟨lw_p42, List.forall_mem_cons.mpr ⟨lw_p43, List.forall_mem_cons.mpr ⟨lw_p44, List.forall_mem_cons.mpr ⟨lw_p45, List.forall_mem_cons.mpr ⟨lw_p46, List.forall_mem_cons.mpr ⟨lw_p47, fun _ h => absurd h List.not_mem_nil⟩⟩⟩⟩⟩⟩⟩⟩⟩⟩⟩⟩⟩⟩⟩⟩
theorem lw_p48 : lw_okq (⟨"CoatRingsModel", "betters", "(IZ)Z"⟩, 46) := ⟨⟨by decide +kernel, by decide +kernel⟩, List.mem_of_getElem? (i := 961) (by decide +kernel), List.mem_of_getElem? (i := 1263) (by decide +kernel), List.mem_of_getElem? (i := 1264) (by decide +kernel)⟩
theorem lw_p49 : lw_okq (⟨"CoatRingsModel", "tableNow", "()I"⟩, 46) := ⟨⟨by decide +kernel, by decide +kernel⟩, List.mem_of_getElem? (i := 961) (by decide +kernel), List.mem_of_getElem? (i := 1267) (by decide +kernel), List.mem_of_getElem? (i := 1268) (by decide +kernel)⟩
theorem lw_p50 : lw_okq (⟨"CoatRingsModel", "firstFrom", "(I)I"⟩, 46) := ⟨⟨by decide +kernel, by decide +kernel⟩, List.mem_of_getElem? (i := 961) (by decide +kernel), List.mem_of_getElem? (i := 1275) (by decide +kernel), List.mem_of_getElem? (i := 1276) (by decide +kernel)⟩
theorem lw_p51 : lw_okq (⟨"CoatRingsModel", "isPairs", "(I)Z"⟩, 46) := ⟨⟨by decide +kernel, by decide +kernel⟩, List.mem_of_getElem? (i := 961) (by decide +kernel), List.mem_of_getElem? (i := 1283) (by decide +kernel), List.mem_of_getElem? (i := 1284) (by decide +kernel)⟩
theorem lw_p52 : lw_okq (⟨"CoatRingsModel", "changes", "(I[I[I)V"⟩, 46) := ⟨⟨by decide +kernel, by decide +kernel⟩, List.mem_of_getElem? (i := 961) (by decide +kernel), List.mem_of_getElem? (i := 1287) (by decide +kernel), List.mem_of_getElem? (i := 1288) (by decide +kernel)⟩
theorem lw_p53 : lw_okq (⟨"CoatRingsModel", "pairMiles", "(I)I"⟩, 46) := ⟨⟨by decide +kernel, by decide +kernel⟩, List.mem_of_getElem? (i := 961) (by decide +kernel), List.mem_of_getElem? (i := 1291) (by decide +kernel), List.mem_of_getElem? (i := 1292) (by decide +kernel)⟩
theorem lw_p54 : lw_okq (⟨"CoatRingsModel", "clause", "()V"⟩, 46) := ⟨⟨by decide +kernel, by decide +kernel⟩, List.mem_of_getElem? (i := 961) (by decide +kernel), List.mem_of_getElem? (i := 1307) (by decide +kernel), List.mem_of_getElem? (i := 1308) (by decide +kernel)⟩
theorem lw_p55 : lw_okq (⟨"CoatRingsModel", "one", "(II)I"⟩, 46) := ⟨⟨by decide +kernel, by decide +kernel⟩, List.mem_of_getElem? (i := 961) (by decide +kernel), List.mem_of_getElem? (i := 1311) (by decide +kernel), List.mem_of_getElem? (i := 1312) (by decide +kernel)⟩
theorem lw_p56 : lw_okq (⟨"CoatRingsModel", "here", "()I"⟩, 46) := ⟨⟨by decide +kernel, by decide +kernel⟩, List.mem_of_getElem? (i := 961) (by decide +kernel), List.mem_of_getElem? (i := 1315) (by decide +kernel), List.mem_of_getElem? (i := 1316) (by decide +kernel)⟩
theorem lw_p57 : lw_okq (⟨"CoatRingsModel", "worldMany", "()I"⟩, 46) := ⟨⟨by decide +kernel, by decide +kernel⟩, List.mem_of_getElem? (i := 961) (by decide +kernel), List.mem_of_getElem? (i := 1327) (by decide +kernel), List.mem_of_getElem? (i := 1328) (by decide +kernel)⟩
theorem lw_p58 : lw_okq (⟨"CoatRingsModel", "mayBe", "(I)I"⟩, 46) := ⟨⟨by decide +kernel, by decide +kernel⟩, List.mem_of_getElem? (i := 961) (by decide +kernel), List.mem_of_getElem? (i := 1331) (by decide +kernel), List.mem_of_getElem? (i := 1332) (by decide +kernel)⟩
theorem lw_p59 : lw_okq (⟨"CoatRingsModel", "spreads", "(II)V"⟩, 46) := ⟨⟨by decide +kernel, by decide +kernel⟩, List.mem_of_getElem? (i := 961) (by decide +kernel), List.mem_of_getElem? (i := 1351) (by decide +kernel), List.mem_of_getElem? (i := 1352) (by decide +kernel)⟩
theorem lw_p60 : lw_okq (⟨"CoatRingsModel", "isSlip", "(III)Z"⟩, 46) := ⟨⟨by decide +kernel, by decide +kernel⟩, List.mem_of_getElem? (i := 961) (by decide +kernel), List.mem_of_getElem? (i := 1355) (by decide +kernel), List.mem_of_getElem? (i := 1356) (by decide +kernel)⟩
theorem lw_p61 : lw_okq (⟨"CoatRingsModel", "slips", "(I[II[I)V"⟩, 46) := ⟨⟨by decide +kernel, by decide +kernel⟩, List.mem_of_getElem? (i := 961) (by decide +kernel), List.mem_of_getElem? (i := 1359) (by decide +kernel), List.mem_of_getElem? (i := 1360) (by decide +kernel)⟩
theorem lw_p62 : lw_okq (⟨"CoatRingsModel", "between", "(II)I"⟩, 46) := ⟨⟨by decide +kernel, by decide +kernel⟩, List.mem_of_getElem? (i := 961) (by decide +kernel), List.mem_of_getElem? (i := 1363) (by decide +kernel), List.mem_of_getElem? (i := 1364) (by decide +kernel)⟩
theorem lw_p63 : lw_okq (⟨"CoatRingsModel", "harmOf", "(I[II)I"⟩, 46) := ⟨⟨by decide +kernel, by decide +kernel⟩, List.mem_of_getElem? (i := 961) (by decide +kernel), List.mem_of_getElem? (i := 1375) (by decide +kernel), List.mem_of_getElem? (i := 1376) (by decide +kernel)⟩
def lw_privs_4 : List (MethodName × Nat) := [(⟨"CoatRingsModel", "betters", "(IZ)Z"⟩, 46), (⟨"CoatRingsModel", "tableNow", "()I"⟩, 46), (⟨"CoatRingsModel", "firstFrom", "(I)I"⟩, 46), (⟨"CoatRingsModel", "isPairs", "(I)Z"⟩, 46), (⟨"CoatRingsModel", "changes", "(I[I[I)V"⟩, 46), (⟨"CoatRingsModel", "pairMiles", "(I)I"⟩, 46), (⟨"CoatRingsModel", "clause", "()V"⟩, 46), (⟨"CoatRingsModel", "one", "(II)I"⟩, 46), (⟨"CoatRingsModel", "here", "()I"⟩, 46), (⟨"CoatRingsModel", "worldMany", "()I"⟩, 46), (⟨"CoatRingsModel", "mayBe", "(I)I"⟩, 46), (⟨"CoatRingsModel", "spreads", "(II)V"⟩, 46), (⟨"CoatRingsModel", "isSlip", "(III)Z"⟩, 46), (⟨"CoatRingsModel", "slips", "(I[II[I)V"⟩, 46), (⟨"CoatRingsModel", "between", "(II)I"⟩, 46), (⟨"CoatRingsModel", "harmOf", "(I[II)I"⟩, 46)]
theorem lw_r4 : ∀ q ∈ lw_privs_4, lw_okq q := List.forall_mem_cons.mpr ⟨lw_p48, List.forall_mem_cons.mpr ⟨lw_p49, List.forall_mem_cons.mpr ⟨lw_p50, List.forall_mem_cons.mpr ⟨lw_p51, List.forall_mem_cons.mpr ⟨lw_p52, List.forall_mem_cons.mpr ⟨lw_p53, List.forall_mem_cons.mpr ⟨lw_p54, List.forall_mem_cons.mpr ⟨lw_p55, List.forall_mem_cons.mpr ⟨lw_p56, List.forall_mem_cons.mpr ⟨lw_p57, List.forall_mem_cons.mpr ⟨lw_p58, List.forall_mem_cons.mpr ⟨lw_p59, List.forall_mem_cons.mpr ⟨lw_p60, List.forall_mem_cons.mpr ⟨lw_p61, List.forall_mem_cons.mpr ⟨lw_p62, List.forall_mem_cons.mpr ⟨lw_p63, fun _ h => absurd h List.not_mem_nil⟩⟩⟩⟩⟩⟩⟩⟩⟩⟩⟩⟩⟩⟩⟩⟩
theorem lw_p64 : lw_okq (⟨"CoatRingsModel", "trades", "()V"⟩, 46) := ⟨⟨by decide +kernel, by decide +kernel⟩, List.mem_of_getElem? (i := 961) (by decide +kernel), List.mem_of_getElem? (i := 1389) (by decide +kernel), List.mem_of_getElem? (i := 1390) (by decide +kernel)⟩
theorem lw_p65 : lw_okq (⟨"CoatRingsModel", "point", "(I)V"⟩, 46) := ⟨⟨by decide +kernel, by decide +kernel⟩, List.mem_of_getElem? (i := 961) (by decide +kernel), List.mem_of_getElem? (i := 1393) (by decide +kernel), List.mem_of_getElem? (i := 1394) (by decide +kernel)⟩
theorem lw_p66 : lw_okq (⟨"CoatRingsModel", "doesBlock", "(I)Z"⟩, 46) := ⟨⟨by decide +kernel, by decide +kernel⟩, List.mem_of_getElem? (i := 961) (by decide +kernel), List.mem_of_getElem? (i := 1401) (by decide +kernel), List.mem_of_getElem? (i := 1402) (by decide +kernel)⟩
def lw_privs_5 : List (MethodName × Nat) := [(⟨"CoatRingsModel", "trades", "()V"⟩, 46), (⟨"CoatRingsModel", "point", "(I)V"⟩, 46), (⟨"CoatRingsModel", "doesBlock", "(I)Z"⟩, 46)]
theorem lw_r5 : ∀ q ∈ lw_privs_5, lw_okq q := List.forall_mem_cons.mpr ⟨lw_p64, List.forall_mem_cons.mpr ⟨lw_p65, List.forall_mem_cons.mpr ⟨lw_p66, fun _ h => absurd h List.not_mem_nil⟩⟩⟩
def lw_privs : List (MethodName × Nat) := lw_privs_1 ++ (lw_privs_2 ++ (lw_privs_3 ++ (lw_privs_4 ++ (lw_privs_5))))
def lw_tbl : List Cond := k2_sels lw_privs ++ tables_1
theorem lw_privs_ok : ∀ q ∈ lw_privs, lw_okq q := by
  show ∀ q ∈ lw_privs_1 ++ (lw_privs_2 ++ (lw_privs_3 ++ (lw_privs_4 ++ (lw_privs_5)))), lw_okq q
  exact List.forall_mem_append.mpr ⟨lw_r1, List.forall_mem_append.mpr ⟨lw_r2, List.forall_mem_append.mpr ⟨lw_r3, List.forall_mem_append.mpr ⟨lw_r4, lw_r5⟩⟩⟩⟩
-- ===== end of PART A; then your names; then what follows =====
/-! THE CLAIM OUT OF ONE WALK OF THE LAW'S BODY. Your part is whole_start (and what it stands on); all else here is the same for every law, but numbers. -/
def R_law : String := "CoatRingsLaw"
def lw_P (b : Addr) (xs : List Int32) (args : Array Value) (s : State) : Prop := args = #[.ref b] ∧ s.IntsAt b xs ∧ xs.length ≤ 384 ∧ (Jvm.Cond.and given_1 narrow_1).before args s = true
def lw_Q (_ : Array Value) (s : State) (o : Outcome) (t : State) : Prop := o = .returned (some (.int 1)) ∧ Framed s o t [] 600000 7302250
def lw_Z (below : List Frame) (a : Array Value) (s : State) : State → Prop := fun t => ∃ o, t.status = .running ∧ Ended t below o ∧ lw_Q a s o t
/-- the law's own end, with 1 on the stack, nothing written that was there before, its room as the claim has it -/
theorem lw_ret {p : Program} {l : Launch} {e : Env} {s : State} {m : MethodId} {below : List Frame} {meth : Method} {c : Code} {b : Nat} (hx : p.tables.exec = Jvm.exec) (hb : c.code = code) (hr : meth.sig.returnType = ret) (hlocks : meth.locks = false) {pc : Nat} {H : Heap} {ls : Array Slot} (hdg : decode code pc = .ok (.ireturn, 1)) : W p l e room_1 s m #[Value.ref b] below meth c H [] 600000 7302250 (lw_Z below #[Value.ref b] s) (F0 m pc ls [.int 1]) := by
  intro T hT X
  obtain ⟨fs, hret, hrun, hended, hW, hframe⟩ := X.leave (v := some (.int 1)) (hlocks := hlocks) (fun h => by rw [hr] at h; cases h)
  have hmeth' : T.vm.method? m = some meth := X.method'
  refine ⟨T.setFrames fs, ?_, .returned (some (.int 1)), hrun, hended, rfl, ⟨_, rfl⟩, hW, hframe⟩
  jvm_step X.here [X.here.top, hx, hb, hdg, hmeth', hr, ret, narrow_b1]
  (try refine ⟨rfl, ?_⟩); (try refine ⟨rfl, ?_⟩)
  first | (intro acts; rw [hret _ acts rfl rfl rfl]) | rw [hret _ _ rfl rfl rfl]
  exact Steps.refl _
/-- what holds at the law's entry: the machine, the code, the tables' words (any of lw_tbl by 'hts w (by decide +kernel)'), the script of L ints xs at the cell b, what the Statement gives of the start (any of its parts by flat_of_before) -/
def lw_At (p : Program) (s : State) (m : MethodId) (meth : Method) (c : Code) (b L : Nat) (xs : Nat → Int32) : Prop :=
  p.tables.exec = Jvm.exec ∧ c.code = code ∧ meth.sig.returnType = ret ∧ c.maxLocals = 4 ∧ s.vm.findClass R_law = some m.cls ∧ (∀ w ∈ lw_tbl, w.before #[Value.ref b] s = true) ∧ va_X b L xs s s.heap ∧ b < s.heap.size ∧ meth.locks = false ∧ (Jvm.Cond.and given_1 narrow_1).before #[Value.ref b] s = true
/-! the classes whose objects are made: their fields in the order of the slots -/
def tf_Coat : u_T := fun k => match k with
  | 0 => ("CoatRings", "night", "LCoatRings$Night;", true)
  | 1 => ("CoatRings", "kept", "LCoatRings$Night;", true)
  | 2 => ("CoatRings", "isKept", "Z", false)
  | 3 => ("CoatRings", "tape", "LCoatRings$Tape;", true)
  | 4 => ("CoatRings", "sheets", "LCoatRings$Sheets;", true)
  | 5 => ("CoatRings", "taken", "[I", true)
  | 6 => ("CoatRings", "givings", "LCoatRings$Givings;", true)
  | 7 => ("CoatRings", "planner", "LCoatRings$Planner;", true)
  | 8 => ("CoatRings", "days", "LCoatRings$Days;", true)
  | 9 => ("CoatRings", "rail", "LCoatRings$Rail;", true)
  | 10 => ("CoatRings", "slips", "[LCoatRings$Slips;", true)
  | _ => ("CoatRings", "slipQueue", "[I", true)
def ty_Coat : Nat → FieldType := fun k => match k with
  | 0 => .object "CoatRings$Night"
  | 1 => .object "CoatRings$Night"
  | 2 => .boolean
  | 3 => .object "CoatRings$Tape"
  | 4 => .object "CoatRings$Sheets"
  | 5 => .array .int
  | 6 => .object "CoatRings$Givings"
  | 7 => .object "CoatRings$Planner"
  | 8 => .object "CoatRings$Days"
  | 9 => .object "CoatRings$Rail"
  | 10 => .array (.object "CoatRings$Slips")
  | _ => .array .int
theorem nm_Coat : ∀ a, a < 12 → ∀ b, b < 12 → a ≠ b → (tf_Coat a).2.1 ≠ (tf_Coat b).2.1 := by decide +kernel
theorem tk_Coat : ∀ k, k < 12 → parseFieldDescriptor (tf_Coat k).2.2.1 = some (ty_Coat k) := by decide +kernel
theorem in_Coat : ∀ w ∈ u_ws "CoatRings" tf_Coat 12, w ∈ lw_tbl ∧ goodWord w = true := by decide +kernel
def tf_Night : u_T := fun k => match k with
  | 0 => ("CoatRings$Night", "people", "I", false)
  | 1 => ("CoatRings$Night", "x", "[I", true)
  | 2 => ("CoatRings$Night", "y", "[I", true)
  | 3 => ("CoatRings$Night", "marks", "[I", true)
  | 4 => ("CoatRings$Night", "likes", "[I", true)
  | 5 => ("CoatRings$Night", "may", "[I", true)
  | 6 => ("CoatRings$Night", "table", "I", false)
  | 7 => ("CoatRings$Night", "wont", "I", false)
  | 8 => ("CoatRings$Night", "inns", "I", false)
  | 9 => ("CoatRings$Night", "innX", "[I", true)
  | 10 => ("CoatRings$Night", "innY", "[I", true)
  | 11 => ("CoatRings$Night", "rate", "I", false)
  | 12 => ("CoatRings$Night", "seats", "I", false)
  | 13 => ("CoatRings$Night", "meetings", "I", false)
  | 14 => ("CoatRings$Night", "miles", "I", false)
  | 15 => ("CoatRings$Night", "feared", "I", false)
  | _ => ("CoatRings$Night", "fears", "[I", true)
def ty_Night : Nat → FieldType := fun k => match k with
  | 0 => .int
  | 1 => .array .int
  | 2 => .array .int
  | 3 => .array .int
  | 4 => .array .int
  | 5 => .array .int
  | 6 => .int
  | 7 => .int
  | 8 => .int
  | 9 => .array .int
  | 10 => .array .int
  | 11 => .int
  | 12 => .int
  | 13 => .int
  | 14 => .int
  | 15 => .int
  | _ => .array .int
theorem nm_Night : ∀ a, a < 17 → ∀ b, b < 17 → a ≠ b → (tf_Night a).2.1 ≠ (tf_Night b).2.1 := by decide +kernel
theorem tk_Night : ∀ k, k < 17 → parseFieldDescriptor (tf_Night k).2.2.1 = some (ty_Night k) := by decide +kernel
theorem in_Night : ∀ w ∈ u_ws "CoatRings$Night" tf_Night 17, w ∈ lw_tbl ∧ goodWord w = true := by decide +kernel
def tf_Tape : u_T := fun k => match k with
  | 0 => ("CoatRings$Tape", "length", "I", false)
  | 1 => ("CoatRings$Tape", "place", "I", false)
  | 2 => ("CoatRings$Tape", "signs", "[I", true)
  | _ => ("CoatRings$Tape", "draft", "[I", true)
def ty_Tape : Nat → FieldType := fun k => match k with
  | 0 => .int
  | 1 => .int
  | 2 => .array .int
  | _ => .array .int
theorem nm_Tape : ∀ a, a < 4 → ∀ b, b < 4 → a ≠ b → (tf_Tape a).2.1 ≠ (tf_Tape b).2.1 := by decide +kernel
theorem tk_Tape : ∀ k, k < 4 → parseFieldDescriptor (tf_Tape k).2.2.1 = some (ty_Tape k) := by decide +kernel
theorem in_Tape : ∀ w ∈ u_ws "CoatRings$Tape" tf_Tape 4, w ∈ lw_tbl ∧ goodWord w = true := by decide +kernel
def tf_Sheets : u_T := fun k => match k with
  | 0 => ("CoatRings$Sheets", "items", "[[I", true)
  | 1 => ("CoatRings$Sheets", "lanes", "[I", true)
  | _ => ("CoatRings$Sheets", "sizes", "[I", true)
def ty_Sheets : Nat → FieldType := fun k => match k with
  | 0 => .array (.array .int)
  | 1 => .array .int
  | _ => .array .int
theorem nm_Sheets : ∀ a, a < 3 → ∀ b, b < 3 → a ≠ b → (tf_Sheets a).2.1 ≠ (tf_Sheets b).2.1 := by decide +kernel
theorem tk_Sheets : ∀ k, k < 3 → parseFieldDescriptor (tf_Sheets k).2.2.1 = some (ty_Sheets k) := by decide +kernel
theorem in_Sheets : ∀ w ∈ u_ws "CoatRings$Sheets" tf_Sheets 3, w ∈ lw_tbl ∧ goodWord w = true := by decide +kernel
def tf_Givings : u_T := fun k => match k with
  | 0 => ("CoatRings$Givings", "allowed", "[I", true)
  | _ => ("CoatRings$Givings", "ways", "[I", true)
def ty_Givings : Nat → FieldType := fun k => match k with
  | 0 => .array .int
  | _ => .array .int
theorem nm_Givings : ∀ a, a < 2 → ∀ b, b < 2 → a ≠ b → (tf_Givings a).2.1 ≠ (tf_Givings b).2.1 := by decide +kernel
theorem tk_Givings : ∀ k, k < 2 → parseFieldDescriptor (tf_Givings k).2.2.1 = some (ty_Givings k) := by decide +kernel
theorem in_Givings : ∀ w ∈ u_ws "CoatRings$Givings" tf_Givings 2, w ∈ lw_tbl ∧ goodWord w = true := by decide +kernel
def tf_Planner : u_T := fun k => match k with
  | 0 => ("CoatRings$Planner", "known", "Z", false)
  | 1 => ("CoatRings$Planner", "miles", "I", false)
  | 2 => ("CoatRings$Planner", "meetings", "I", false)
  | 3 => ("CoatRings$Planner", "steps", "[I", true)
  | 4 => ("CoatRings$Planner", "night", "LCoatRings$Night;", false)
  | 5 => ("CoatRings$Planner", "bound", "I", false)
  | 6 => ("CoatRings$Planner", "goal", "I", false)
  | 7 => ("CoatRings$Planner", "limit", "I", false)
  | 8 => ("CoatRings$Planner", "gone", "[I", true)
  | 9 => ("CoatRings$Planner", "rows", "[I", true)
  | 10 => ("CoatRings$Planner", "from", "[I", true)
  | 11 => ("CoatRings$Planner", "by", "[I", true)
  | 12 => ("CoatRings$Planner", "heap", "LCoatRings$Heap;", true)
  | 13 => ("CoatRings$Planner", "innMiles", "[I", true)
  | _ => ("CoatRings$Planner", "innMeeting", "[I", true)
def ty_Planner : Nat → FieldType := fun k => match k with
  | 0 => .boolean
  | 1 => .int
  | 2 => .int
  | 3 => .array .int
  | 4 => .object "CoatRings$Night"
  | 5 => .int
  | 6 => .int
  | 7 => .int
  | 8 => .array .int
  | 9 => .array .int
  | 10 => .array .int
  | 11 => .array .int
  | 12 => .object "CoatRings$Heap"
  | 13 => .array .int
  | _ => .array .int
theorem nm_Planner : ∀ a, a < 15 → ∀ b, b < 15 → a ≠ b → (tf_Planner a).2.1 ≠ (tf_Planner b).2.1 := by decide +kernel
theorem tk_Planner : ∀ k, k < 15 → parseFieldDescriptor (tf_Planner k).2.2.1 = some (ty_Planner k) := by decide +kernel
theorem in_Planner : ∀ w ∈ u_ws "CoatRings$Planner" tf_Planner 15, w ∈ lw_tbl ∧ goodWord w = true := by decide +kernel
def tf_Heap : u_T := fun k => match k with
  | 0 => ("CoatRings$Heap", "size", "I", false)
  | 1 => ("CoatRings$Heap", "keys", "[I", true)
  | 2 => ("CoatRings$Heap", "tables", "[I", true)
  | _ => ("CoatRings$Heap", "places", "[I", true)
def ty_Heap : Nat → FieldType := fun k => match k with
  | 0 => .int
  | 1 => .array .int
  | 2 => .array .int
  | _ => .array .int
theorem nm_Heap : ∀ a, a < 4 → ∀ b, b < 4 → a ≠ b → (tf_Heap a).2.1 ≠ (tf_Heap b).2.1 := by decide +kernel
theorem tk_Heap : ∀ k, k < 4 → parseFieldDescriptor (tf_Heap k).2.2.1 = some (ty_Heap k) := by decide +kernel
theorem in_Heap : ∀ w ∈ u_ws "CoatRings$Heap" tf_Heap 4, w ∈ lw_tbl ∧ goodWord w = true := by decide +kernel
def tf_Days : u_T := fun k => match k with
  | 0 => ("CoatRings$Days", "known", "Z", false)
  | 1 => ("CoatRings$Days", "days", "I", false)
  | 2 => ("CoatRings$Days", "miles", "I", false)
  | 3 => ("CoatRings$Days", "matchings", "[I", true)
  | _ => ("CoatRings$Days", "milesOf", "[I", true)
def ty_Days : Nat → FieldType := fun k => match k with
  | 0 => .boolean
  | 1 => .int
  | 2 => .int
  | 3 => .array .int
  | _ => .array .int
theorem nm_Days : ∀ a, a < 5 → ∀ b, b < 5 → a ≠ b → (tf_Days a).2.1 ≠ (tf_Days b).2.1 := by decide +kernel
theorem tk_Days : ∀ k, k < 5 → parseFieldDescriptor (tf_Days k).2.2.1 = some (ty_Days k) := by decide +kernel
theorem in_Days : ∀ w ∈ u_ws "CoatRings$Days" tf_Days 5, w ∈ lw_tbl ∧ goodWord w = true := by decide +kernel
def tf_Rail : u_T := fun k => match k with
  | 0 => ("CoatRings$Rail", "known", "Z", false)
  | 1 => ("CoatRings$Rail", "greatest", "I", false)
  | 2 => ("CoatRings$Rail", "sum", "I", false)
  | 3 => ("CoatRings$Rail", "order", "[I", true)
  | 4 => ("CoatRings$Rail", "trial", "[I", true)
  | _ => ("CoatRings$Rail", "targets", "[I", true)
def ty_Rail : Nat → FieldType := fun k => match k with
  | 0 => .boolean
  | 1 => .int
  | 2 => .int
  | 3 => .array .int
  | 4 => .array .int
  | _ => .array .int
theorem nm_Rail : ∀ a, a < 6 → ∀ b, b < 6 → a ≠ b → (tf_Rail a).2.1 ≠ (tf_Rail b).2.1 := by decide +kernel
theorem tk_Rail : ∀ k, k < 6 → parseFieldDescriptor (tf_Rail k).2.2.1 = some (ty_Rail k) := by decide +kernel
theorem in_Rail : ∀ w ∈ u_ws "CoatRings$Rail" tf_Rail 6, w ∈ lw_tbl ∧ goodWord w = true := by decide +kernel
def tf_Slips : u_T := fun k => match k with
  | 0 => ("CoatRings$Slips", "people", "I", false)
  | 1 => ("CoatRings$Slips", "kinds", "I", true)
  | 2 => ("CoatRings$Slips", "known", "I", false)
  | 3 => ("CoatRings$Slips", "slips", "[I", true)
  | 4 => ("CoatRings$Slips", "targets", "[I", true)
  | 5 => ("CoatRings$Slips", "fewest", "[I", true)
  | _ => ("CoatRings$Slips", "ways", "[I", true)
def ty_Slips : Nat → FieldType := fun k => match k with
  | 0 => .int
  | 1 => .int
  | 2 => .int
  | 3 => .array .int
  | 4 => .array .int
  | 5 => .array .int
  | _ => .array .int
theorem nm_Slips : ∀ a, a < 7 → ∀ b, b < 7 → a ≠ b → (tf_Slips a).2.1 ≠ (tf_Slips b).2.1 := by decide +kernel
theorem tk_Slips : ∀ k, k < 7 → parseFieldDescriptor (tf_Slips k).2.2.1 = some (ty_Slips k) := by decide +kernel
theorem in_Slips : ∀ w ∈ u_ws "CoatRings$Slips" tf_Slips 7, w ∈ lw_tbl ∧ goodWord w = true := by decide +kernel
def tf_Model : u_T := fun k => match k with
  | 0 => ("CoatRingsModel", "people", "I", false)
  | 1 => ("CoatRingsModel", "xs", "[I", true)
  | 2 => ("CoatRingsModel", "ys", "[I", true)
  | 3 => ("CoatRingsModel", "marks", "[I", true)
  | 4 => ("CoatRingsModel", "has", "[I", true)
  | 5 => ("CoatRingsModel", "likes", "[I", true)
  | 6 => ("CoatRingsModel", "wonts", "[I", true)
  | 7 => ("CoatRingsModel", "may", "[I", true)
  | 8 => ("CoatRingsModel", "inns", "I", false)
  | 9 => ("CoatRingsModel", "innX", "[I", true)
  | 10 => ("CoatRingsModel", "innY", "[I", true)
  | 11 => ("CoatRingsModel", "rate", "I", false)
  | 12 => ("CoatRingsModel", "seats", "I", false)
  | 13 => ("CoatRingsModel", "meetings", "I", false)
  | 14 => ("CoatRingsModel", "miles", "I", false)
  | 15 => ("CoatRingsModel", "told", "[I", true)
  | 16 => ("CoatRingsModel", "one", "[I", true)
  | 17 => ("CoatRingsModel", "tables", "I", false)
  | 18 => ("CoatRingsModel", "rows", "[I", true)
  | 19 => ("CoatRingsModel", "numberOf", "[I", true)
  | 20 => ("CoatRingsModel", "leastMiles", "[I", true)
  | 21 => ("CoatRingsModel", "leastMany", "[I", true)
  | 22 => ("CoatRingsModel", "then", "[I", true)
  | 23 => ("CoatRingsModel", "steps", "[I", true)
  | 24 => ("CoatRingsModel", "costs", "[I", true)
  | 25 => ("CoatRingsModel", "version", "I", false)
  | 26 => ("CoatRingsModel", "laid", "I", false)
  | 27 => ("CoatRingsModel", "two", "[I", true)
  | 28 => ("CoatRingsModel", "tape", "[I", true)
  | 29 => ("CoatRingsModel", "taped", "I", false)
  | 30 => ("CoatRingsModel", "at", "I", false)
  | 31 => ("CoatRingsModel", "wrong", "Z", false)
  | 32 => ("CoatRingsModel", "read", "[I", true)
  | 33 => ("CoatRingsModel", "worldsBy", "[I", true)
  | 34 => ("CoatRingsModel", "feared", "I", false)
  | 35 => ("CoatRingsModel", "fears", "[I", true)
  | 36 => ("CoatRingsModel", "fewestTo", "[I", true)
  | 37 => ("CoatRingsModel", "rowsTo", "[I", true)
  | 38 => ("CoatRingsModel", "got", "[I", true)
  | 39 => ("CoatRingsModel", "points", "[I", true)
  | 40 => ("CoatRingsModel", "image", "[I", true)
  | 41 => ("CoatRingsModel", "kept", "Z", false)
  | 42 => ("CoatRingsModel", "lanes", "[I", true)
  | 43 => ("CoatRingsModel", "sizes", "[I", true)
  | 44 => ("CoatRingsModel", "items", "[I", true)
  | _ => ("CoatRingsModel", "moved", "[I", true)
def ty_Model : Nat → FieldType := fun k => match k with
  | 0 => .int
  | 1 => .array .int
  | 2 => .array .int
  | 3 => .array .int
  | 4 => .array .int
  | 5 => .array .int
  | 6 => .array .int
  | 7 => .array .int
  | 8 => .int
  | 9 => .array .int
  | 10 => .array .int
  | 11 => .int
  | 12 => .int
  | 13 => .int
  | 14 => .int
  | 15 => .array .int
  | 16 => .array .int
  | 17 => .int
  | 18 => .array .int
  | 19 => .array .int
  | 20 => .array .int
  | 21 => .array .int
  | 22 => .array .int
  | 23 => .array .int
  | 24 => .array .int
  | 25 => .int
  | 26 => .int
  | 27 => .array .int
  | 28 => .array .int
  | 29 => .int
  | 30 => .int
  | 31 => .boolean
  | 32 => .array .int
  | 33 => .array .int
  | 34 => .int
  | 35 => .array .int
  | 36 => .array .int
  | 37 => .array .int
  | 38 => .array .int
  | 39 => .array .int
  | 40 => .array .int
  | 41 => .boolean
  | 42 => .array .int
  | 43 => .array .int
  | 44 => .array .int
  | _ => .array .int
theorem nm_Model : ∀ a, a < 46 → ∀ b, b < 46 → a ≠ b → (tf_Model a).2.1 ≠ (tf_Model b).2.1 := by decide +kernel
theorem tk_Model : ∀ k, k < 46 → parseFieldDescriptor (tf_Model k).2.2.1 = some (ty_Model k) := by decide +kernel
theorem in_Model : ∀ w ∈ u_ws "CoatRingsModel" tf_Model 46, w ∈ lw_tbl ∧ goodWord w = true := by decide +kernel
abbrev ab_cl : List vw_C := [("CoatRings", tf_Coat, 12), ("CoatRings$Night", tf_Night, 17), ("CoatRings$Tape", tf_Tape, 4), ("CoatRings$Sheets", tf_Sheets, 3), ("CoatRings$Givings", tf_Givings, 2), ("CoatRings$Planner", tf_Planner, 15), ("CoatRings$Heap", tf_Heap, 4), ("CoatRings$Days", tf_Days, 5), ("CoatRings$Rail", tf_Rail, 6), ("CoatRings$Slips", tf_Slips, 7), ("CoatRingsModel", tf_Model, 46)]
