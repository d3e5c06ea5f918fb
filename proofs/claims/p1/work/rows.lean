section
-- ===== PART A: goes FIRST, ahead of the names: the tables' words, and 'selects' of the private methods out of them =====
/-- a private method of a class that the tables say can be made, by its rows of tables_1 -/
def lw_okq (q : MethodName × Nat) : Prop := (q.1.cls ≠ "java/lang/invoke/MethodHandle" ∧ q.1.cls ≠ "java/lang/invoke/VarHandle") ∧ Cond.instantiable q.1.cls q.2 ∈ tables_1 ∧ Cond.privateMethod q.1 ∈ tables_1 ∧ Cond.instanceMethod q.1 ∈ tables_1
theorem lw_p0 : lw_okq (⟨"LaneRow$Text", "signsOfKey", "()I"⟩, 2) := ⟨⟨by decide +kernel, by decide +kernel⟩, List.mem_of_getElem? (i := 24) (by decide +kernel), List.mem_of_getElem? (i := 245) (by decide +kernel), List.mem_of_getElem? (i := 246) (by decide +kernel)⟩
theorem lw_p1 : lw_okq (⟨"LaneRow$Text", "fits", "(IIII)Z"⟩, 2) := ⟨⟨by decide +kernel, by decide +kernel⟩, List.mem_of_getElem? (i := 24) (by decide +kernel), List.mem_of_getElem? (i := 249) (by decide +kernel), List.mem_of_getElem? (i := 250) (by decide +kernel)⟩
theorem lw_p2 : lw_okq (⟨"LaneRow$Text", "keyAt", "(I)I"⟩, 2) := ⟨⟨by decide +kernel, by decide +kernel⟩, List.mem_of_getElem? (i := 24) (by decide +kernel), List.mem_of_getElem? (i := 253) (by decide +kernel), List.mem_of_getElem? (i := 254) (by decide +kernel)⟩
theorem lw_p3 : lw_okq (⟨"LaneRow$Text", "digitAt", "(I)I"⟩, 2) := ⟨⟨by decide +kernel, by decide +kernel⟩, List.mem_of_getElem? (i := 24) (by decide +kernel), List.mem_of_getElem? (i := 257) (by decide +kernel), List.mem_of_getElem? (i := 258) (by decide +kernel)⟩
theorem lw_p4 : lw_okq (⟨"LaneRow$Towers", "fill", "(ILLaneRow$Towers;I)V"⟩, 5) := ⟨⟨by decide +kernel, by decide +kernel⟩, List.mem_of_getElem? (i := 46) (by decide +kernel), List.mem_of_getElem? (i := 325) (by decide +kernel), List.mem_of_getElem? (i := 326) (by decide +kernel)⟩
theorem lw_p5 : lw_okq (⟨"LaneRow", "raiseTowers", "()V"⟩, 10) := ⟨⟨by decide +kernel, by decide +kernel⟩, List.mem_of_getElem? (i := 16) (by decide +kernel), List.mem_of_getElem? (i := 329) (by decide +kernel), List.mem_of_getElem? (i := 330) (by decide +kernel)⟩
theorem lw_p6 : lw_okq (⟨"LaneRow", "isKind", "(I)Z"⟩, 10) := ⟨⟨by decide +kernel, by decide +kernel⟩, List.mem_of_getElem? (i := 16) (by decide +kernel), List.mem_of_getElem? (i := 404) (by decide +kernel), List.mem_of_getElem? (i := 405) (by decide +kernel)⟩
theorem lw_p7 : lw_okq (⟨"LaneRow", "namesNoKey", "(I)Z"⟩, 10) := ⟨⟨by decide +kernel, by decide +kernel⟩, List.mem_of_getElem? (i := 16) (by decide +kernel), List.mem_of_getElem? (i := 416) (by decide +kernel), List.mem_of_getElem? (i := 417) (by decide +kernel)⟩
theorem lw_p8 : lw_okq (⟨"LaneRow", "looksFor", "(I)I"⟩, 10) := ⟨⟨by decide +kernel, by decide +kernel⟩, List.mem_of_getElem? (i := 16) (by decide +kernel), List.mem_of_getElem? (i := 420) (by decide +kernel), List.mem_of_getElem? (i := 421) (by decide +kernel)⟩
theorem lw_p9 : lw_okq (⟨"LaneRow", "laneOf", "(I)I"⟩, 10) := ⟨⟨by decide +kernel, by decide +kernel⟩, List.mem_of_getElem? (i := 16) (by decide +kernel), List.mem_of_getElem? (i := 439) (by decide +kernel), List.mem_of_getElem? (i := 440) (by decide +kernel)⟩
theorem lw_p10 : lw_okq (⟨"LaneRow$Trial", "agrees", "(LLaneRow$Towers;LLaneRow$Seen;I)Z"⟩, 8) := ⟨⟨by decide +kernel, by decide +kernel⟩, List.mem_of_getElem? (i := 153) (by decide +kernel), List.mem_of_getElem? (i := 450) (by decide +kernel), List.mem_of_getElem? (i := 451) (by decide +kernel)⟩
theorem lw_p11 : lw_okq (⟨"LaneRow$Trial", "leftAtWorst", "(LLaneRow$Towers;III)I"⟩, 8) := ⟨⟨by decide +kernel, by decide +kernel⟩, List.mem_of_getElem? (i := 153) (by decide +kernel), List.mem_of_getElem? (i := 460) (by decide +kernel), List.mem_of_getElem? (i := 461) (by decide +kernel)⟩
theorem lw_p12 : lw_okq (⟨"LaneRow$Trial", "alike", "(II)I"⟩, 8) := ⟨⟨by decide +kernel, by decide +kernel⟩, List.mem_of_getElem? (i := 153) (by decide +kernel), List.mem_of_getElem? (i := 464) (by decide +kernel), List.mem_of_getElem? (i := 465) (by decide +kernel)⟩
theorem lw_p13 : lw_okq (⟨"LaneRow$Towers", "reaches", "(II)Z"⟩, 5) := ⟨⟨by decide +kernel, by decide +kernel⟩, List.mem_of_getElem? (i := 46) (by decide +kernel), List.mem_of_getElem? (i := 474) (by decide +kernel), List.mem_of_getElem? (i := 475) (by decide +kernel)⟩
theorem lw_p14 : lw_okq (⟨"LaneRow", "valueOf", "(I)I"⟩, 10) := ⟨⟨by decide +kernel, by decide +kernel⟩, List.mem_of_getElem? (i := 16) (by decide +kernel), List.mem_of_getElem? (i := 502) (by decide +kernel), List.mem_of_getElem? (i := 503) (by decide +kernel)⟩
theorem lw_p15 : lw_okq (⟨"LaneRow", "changeIsMade", "()V"⟩, 10) := ⟨⟨by decide +kernel, by decide +kernel⟩, List.mem_of_getElem? (i := 16) (by decide +kernel), List.mem_of_getElem? (i := 535) (by decide +kernel), List.mem_of_getElem? (i := 536) (by decide +kernel)⟩
def lw_privs_1 : List (MethodName × Nat) := [(⟨"LaneRow$Text", "signsOfKey", "()I"⟩, 2), (⟨"LaneRow$Text", "fits", "(IIII)Z"⟩, 2), (⟨"LaneRow$Text", "keyAt", "(I)I"⟩, 2), (⟨"LaneRow$Text", "digitAt", "(I)I"⟩, 2), (⟨"LaneRow$Towers", "fill", "(ILLaneRow$Towers;I)V"⟩, 5), (⟨"LaneRow", "raiseTowers", "()V"⟩, 10), (⟨"LaneRow", "isKind", "(I)Z"⟩, 10), (⟨"LaneRow", "namesNoKey", "(I)Z"⟩, 10), (⟨"LaneRow", "looksFor", "(I)I"⟩, 10), (⟨"LaneRow", "laneOf", "(I)I"⟩, 10), (⟨"LaneRow$Trial", "agrees", "(LLaneRow$Towers;LLaneRow$Seen;I)Z"⟩, 8), (⟨"LaneRow$Trial", "leftAtWorst", "(LLaneRow$Towers;III)I"⟩, 8), (⟨"LaneRow$Trial", "alike", "(II)I"⟩, 8), (⟨"LaneRow$Towers", "reaches", "(II)Z"⟩, 5), (⟨"LaneRow", "valueOf", "(I)I"⟩, 10), (⟨"LaneRow", "changeIsMade", "()V"⟩, 10)]
theorem lw_r1 : ∀ q ∈ lw_privs_1, lw_okq q := List.forall_mem_cons.mpr ⟨lw_p0, List.forall_mem_cons.mpr ⟨lw_p1, List.forall_mem_cons.mpr ⟨lw_p2, List.forall_mem_cons.mpr ⟨lw_p3, List.forall_mem_cons.mpr ⟨lw_p4, List.forall_mem_cons.mpr ⟨lw_p5, List.forall_mem_cons.mpr ⟨lw_p6, List.forall_mem_cons.mpr ⟨lw_p7, List.forall_mem_cons.mpr ⟨lw_p8, List.forall_mem_cons.mpr ⟨lw_p9, List.forall_mem_cons.mpr ⟨lw_p10, List.forall_mem_cons.mpr ⟨lw_p11, List.forall_mem_cons.mpr ⟨lw_p12, List.forall_mem_cons.mpr ⟨lw_p13, List.forall_mem_cons.mpr ⟨lw_p14, List.forall_mem_cons.mpr ⟨lw_p15, fun _ h => absurd h List.not_mem_nil⟩⟩⟩⟩⟩⟩⟩⟩⟩⟩⟩⟩⟩⟩⟩⟩
theorem lw_p16 : lw_okq (⟨"LaneRow$Trial", "weigh", "(LLaneRow$Towers;I)V"⟩, 8) := ⟨⟨by decide +kernel, by decide +kernel⟩, List.mem_of_getElem? (i := 153) (by decide +kernel), List.mem_of_getElem? (i := 588) (by decide +kernel), List.mem_of_getElem? (i := 589) (by decide +kernel)⟩
theorem lw_p17 : lw_okq (⟨"LaneRow$Trial", "nextWay", "(I)Z"⟩, 8) := ⟨⟨by decide +kernel, by decide +kernel⟩, List.mem_of_getElem? (i := 153) (by decide +kernel), List.mem_of_getElem? (i := 593) (by decide +kernel), List.mem_of_getElem? (i := 594) (by decide +kernel)⟩
theorem lw_p18 : lw_okq (⟨"LaneRow$Trial", "weighChange", "(LLaneRow$Towers;I)V"⟩, 8) := ⟨⟨by decide +kernel, by decide +kernel⟩, List.mem_of_getElem? (i := 153) (by decide +kernel), List.mem_of_getElem? (i := 609) (by decide +kernel), List.mem_of_getElem? (i := 610) (by decide +kernel)⟩
theorem lw_p19 : lw_okq (⟨"LaneRow", "withKey", "(JI)J"⟩, 10) := ⟨⟨by decide +kernel, by decide +kernel⟩, List.mem_of_getElem? (i := 16) (by decide +kernel), List.mem_of_getElem? (i := 674) (by decide +kernel), List.mem_of_getElem? (i := 675) (by decide +kernel)⟩
theorem lw_p20 : lw_okq (⟨"LaneRow", "withLanes", "(J)J"⟩, 10) := ⟨⟨by decide +kernel, by decide +kernel⟩, List.mem_of_getElem? (i := 16) (by decide +kernel), List.mem_of_getElem? (i := 680) (by decide +kernel), List.mem_of_getElem? (i := 681) (by decide +kernel)⟩
theorem lw_p21 : lw_okq (⟨"LaneRow", "withRow", "(J)J"⟩, 10) := ⟨⟨by decide +kernel, by decide +kernel⟩, List.mem_of_getElem? (i := 16) (by decide +kernel), List.mem_of_getElem? (i := 685) (by decide +kernel), List.mem_of_getElem? (i := 686) (by decide +kernel)⟩
theorem lw_p22 : lw_okq (⟨"LaneRowModel", "faultOf", "()I"⟩, 44) := ⟨⟨by decide +kernel, by decide +kernel⟩, List.mem_of_getElem? (i := 695) (by decide +kernel), List.mem_of_getElem? (i := 850) (by decide +kernel), List.mem_of_getElem? (i := 851) (by decide +kernel)⟩
theorem lw_p23 : lw_okq (⟨"LaneRowModel", "isGood", "(I)Z"⟩, 44) := ⟨⟨by decide +kernel, by decide +kernel⟩, List.mem_of_getElem? (i := 695) (by decide +kernel), List.mem_of_getElem? (i := 854) (by decide +kernel), List.mem_of_getElem? (i := 855) (by decide +kernel)⟩
theorem lw_p24 : lw_okq (⟨"LaneRowModel", "isKeyLetter", "(I)Z"⟩, 44) := ⟨⟨by decide +kernel, by decide +kernel⟩, List.mem_of_getElem? (i := 695) (by decide +kernel), List.mem_of_getElem? (i := 861) (by decide +kernel), List.mem_of_getElem? (i := 862) (by decide +kernel)⟩
theorem lw_p25 : lw_okq (⟨"LaneRowModel", "wide", "()I"⟩, 44) := ⟨⟨by decide +kernel, by decide +kernel⟩, List.mem_of_getElem? (i := 695) (by decide +kernel), List.mem_of_getElem? (i := 865) (by decide +kernel), List.mem_of_getElem? (i := 866) (by decide +kernel)⟩
theorem lw_p26 : lw_okq (⟨"LaneRowModel", "keyAt", "(I)I"⟩, 44) := ⟨⟨by decide +kernel, by decide +kernel⟩, List.mem_of_getElem? (i := 695) (by decide +kernel), List.mem_of_getElem? (i := 871) (by decide +kernel), List.mem_of_getElem? (i := 872) (by decide +kernel)⟩
theorem lw_p27 : lw_okq (⟨"LaneRowModel", "layHeights", "()V"⟩, 44) := ⟨⟨by decide +kernel, by decide +kernel⟩, List.mem_of_getElem? (i := 695) (by decide +kernel), List.mem_of_getElem? (i := 881) (by decide +kernel), List.mem_of_getElem? (i := 882) (by decide +kernel)⟩
theorem lw_p28 : lw_okq (⟨"LaneRowModel", "heightBy", "(I)I"⟩, 44) := ⟨⟨by decide +kernel, by decide +kernel⟩, List.mem_of_getElem? (i := 695) (by decide +kernel), List.mem_of_getElem? (i := 885) (by decide +kernel), List.mem_of_getElem? (i := 886) (by decide +kernel)⟩
theorem lw_p29 : lw_okq (⟨"LaneRowModel", "lacks", "()Z"⟩, 44) := ⟨⟨by decide +kernel, by decide +kernel⟩, List.mem_of_getElem? (i := 695) (by decide +kernel), List.mem_of_getElem? (i := 904) (by decide +kernel), List.mem_of_getElem? (i := 905) (by decide +kernel)⟩
theorem lw_p30 : lw_okq (⟨"LaneRowModel", "lookFor", "(I)V"⟩, 44) := ⟨⟨by decide +kernel, by decide +kernel⟩, List.mem_of_getElem? (i := 695) (by decide +kernel), List.mem_of_getElem? (i := 908) (by decide +kernel), List.mem_of_getElem? (i := 909) (by decide +kernel)⟩
theorem lw_p31 : lw_okq (⟨"LaneRowModel", "lanes", "()I"⟩, 44) := ⟨⟨by decide +kernel, by decide +kernel⟩, List.mem_of_getElem? (i := 695) (by decide +kernel), List.mem_of_getElem? (i := 912) (by decide +kernel), List.mem_of_getElem? (i := 913) (by decide +kernel)⟩
def lw_privs_2 : List (MethodName × Nat) := [(⟨"LaneRow$Trial", "weigh", "(LLaneRow$Towers;I)V"⟩, 8), (⟨"LaneRow$Trial", "nextWay", "(I)Z"⟩, 8), (⟨"LaneRow$Trial", "weighChange", "(LLaneRow$Towers;I)V"⟩, 8), (⟨"LaneRow", "withKey", "(JI)J"⟩, 10), (⟨"LaneRow", "withLanes", "(J)J"⟩, 10), (⟨"LaneRow", "withRow", "(J)J"⟩, 10), (⟨"LaneRowModel", "faultOf", "()I"⟩, 44), (⟨"LaneRowModel", "isGood", "(I)Z"⟩, 44), (⟨"LaneRowModel", "isKeyLetter", "(I)Z"⟩, 44), (⟨"LaneRowModel", "wide", "()I"⟩, 44), (⟨"LaneRowModel", "keyAt", "(I)I"⟩, 44), (⟨"LaneRowModel", "layHeights", "()V"⟩, 44), (⟨"LaneRowModel", "heightBy", "(I)I"⟩, 44), (⟨"LaneRowModel", "lacks", "()Z"⟩, 44), (⟨"LaneRowModel", "lookFor", "(I)V"⟩, 44), (⟨"LaneRowModel", "lanes", "()I"⟩, 44)]
theorem lw_r2 : ∀ q ∈ lw_privs_2, lw_okq q := List.forall_mem_cons.mpr ⟨lw_p16, List.forall_mem_cons.mpr ⟨lw_p17, List.forall_mem_cons.mpr ⟨lw_p18, List.forall_mem_cons.mpr ⟨lw_p19, List.forall_mem_cons.mpr ⟨lw_p20, List.forall_mem_cons.mpr ⟨lw_p21, List.forall_mem_cons.mpr ⟨lw_p22, List.forall_mem_cons.mpr ⟨lw_p23, List.forall_mem_cons.mpr ⟨lw_p24, List.forall_mem_cons.mpr ⟨lw_p25, List.forall_mem_cons.mpr ⟨lw_p26, List.forall_mem_cons.mpr ⟨lw_p27, List.forall_mem_cons.mpr ⟨lw_p28, List.forall_mem_cons.mpr ⟨lw_p29, List.forall_mem_cons.mpr ⟨lw_p30, List.forall_mem_cons.mpr ⟨lw_p31, fun _ h => absurd h List.not_mem_nil⟩⟩⟩⟩⟩⟩⟩⟩⟩⟩⟩⟩⟩⟩⟩⟩
theorem lw_p32 : lw_okq (⟨"LaneRowModel", "look", "(IIIZ)V"⟩, 44) := ⟨⟨by decide +kernel, by decide +kernel⟩, List.mem_of_getElem? (i := 695) (by decide +kernel), List.mem_of_getElem? (i := 916) (by decide +kernel), List.mem_of_getElem? (i := 917) (by decide +kernel)⟩
theorem lw_p33 : lw_okq (⟨"LaneRowModel", "nextIn", "(II)I"⟩, 44) := ⟨⟨by decide +kernel, by decide +kernel⟩, List.mem_of_getElem? (i := 695) (by decide +kernel), List.mem_of_getElem? (i := 920) (by decide +kernel), List.mem_of_getElem? (i := 921) (by decide +kernel)⟩
theorem lw_p34 : lw_okq (⟨"LaneRowModel", "tellFound", "(I)I"⟩, 44) := ⟨⟨by decide +kernel, by decide +kernel⟩, List.mem_of_getElem? (i := 695) (by decide +kernel), List.mem_of_getElem? (i := 924) (by decide +kernel), List.mem_of_getElem? (i := 925) (by decide +kernel)⟩
theorem lw_p35 : lw_okq (⟨"LaneRowModel", "isNumber", "(I)Z"⟩, 44) := ⟨⟨by decide +kernel, by decide +kernel⟩, List.mem_of_getElem? (i := 695) (by decide +kernel), List.mem_of_getElem? (i := 932) (by decide +kernel), List.mem_of_getElem? (i := 933) (by decide +kernel)⟩
theorem lw_p36 : lw_okq (⟨"LaneRowModel", "lookNumber", "(I)V"⟩, 44) := ⟨⟨by decide +kernel, by decide +kernel⟩, List.mem_of_getElem? (i := 695) (by decide +kernel), List.mem_of_getElem? (i := 937) (by decide +kernel), List.mem_of_getElem? (i := 938) (by decide +kernel)⟩
theorem lw_p37 : lw_okq (⟨"LaneRowModel", "tellKey", "(II)I"⟩, 44) := ⟨⟨by decide +kernel, by decide +kernel⟩, List.mem_of_getElem? (i := 695) (by decide +kernel), List.mem_of_getElem? (i := 957) (by decide +kernel), List.mem_of_getElem? (i := 958) (by decide +kernel)⟩
theorem lw_p38 : lw_okq (⟨"LaneRowModel", "widthOf", "(II)I"⟩, 44) := ⟨⟨by decide +kernel, by decide +kernel⟩, List.mem_of_getElem? (i := 695) (by decide +kernel), List.mem_of_getElem? (i := 963) (by decide +kernel), List.mem_of_getElem? (i := 964) (by decide +kernel)⟩
theorem lw_p39 : lw_okq (⟨"LaneRowModel", "weightOf", "(II)I"⟩, 44) := ⟨⟨by decide +kernel, by decide +kernel⟩, List.mem_of_getElem? (i := 695) (by decide +kernel), List.mem_of_getElem? (i := 969) (by decide +kernel), List.mem_of_getElem? (i := 970) (by decide +kernel)⟩
theorem lw_p40 : lw_okq (⟨"LaneRowModel", "looksFor", "(I)I"⟩, 44) := ⟨⟨by decide +kernel, by decide +kernel⟩, List.mem_of_getElem? (i := 695) (by decide +kernel), List.mem_of_getElem? (i := 973) (by decide +kernel), List.mem_of_getElem? (i := 974) (by decide +kernel)⟩
theorem lw_p41 : lw_okq (⟨"LaneRowModel", "heightsOf", "(I)I"⟩, 44) := ⟨⟨by decide +kernel, by decide +kernel⟩, List.mem_of_getElem? (i := 695) (by decide +kernel), List.mem_of_getElem? (i := 977) (by decide +kernel), List.mem_of_getElem? (i := 978) (by decide +kernel)⟩
theorem lw_p42 : lw_okq (⟨"LaneRowModel", "looksIf", "(III)I"⟩, 44) := ⟨⟨by decide +kernel, by decide +kernel⟩, List.mem_of_getElem? (i := 695) (by decide +kernel), List.mem_of_getElem? (i := 981) (by decide +kernel), List.mem_of_getElem? (i := 982) (by decide +kernel)⟩
theorem lw_p43 : lw_okq (⟨"LaneRowModel", "tryOf", "(I)I"⟩, 44) := ⟨⟨by decide +kernel, by decide +kernel⟩, List.mem_of_getElem? (i := 695) (by decide +kernel), List.mem_of_getElem? (i := 985) (by decide +kernel), List.mem_of_getElem? (i := 986) (by decide +kernel)⟩
theorem lw_p44 : lw_okq (⟨"LaneRowModel", "worstBy", "(III)I"⟩, 44) := ⟨⟨by decide +kernel, by decide +kernel⟩, List.mem_of_getElem? (i := 695) (by decide +kernel), List.mem_of_getElem? (i := 989) (by decide +kernel), List.mem_of_getElem? (i := 990) (by decide +kernel)⟩
theorem lw_p45 : lw_okq (⟨"LaneRowModel", "tellLane", "(II)I"⟩, 44) := ⟨⟨by decide +kernel, by decide +kernel⟩, List.mem_of_getElem? (i := 695) (by decide +kernel), List.mem_of_getElem? (i := 997) (by decide +kernel), List.mem_of_getElem? (i := 998) (by decide +kernel)⟩
theorem lw_p46 : lw_okq (⟨"LaneRowModel", "inLane", "(I)I"⟩, 44) := ⟨⟨by decide +kernel, by decide +kernel⟩, List.mem_of_getElem? (i := 695) (by decide +kernel), List.mem_of_getElem? (i := 1001) (by decide +kernel), List.mem_of_getElem? (i := 1002) (by decide +kernel)⟩
theorem lw_p47 : lw_okq (⟨"LaneRowModel", "widest", "(I)I"⟩, 44) := ⟨⟨by decide +kernel, by decide +kernel⟩, List.mem_of_getElem? (i := 695) (by decide +kernel), List.mem_of_getElem? (i := 1005) (by decide +kernel), List.mem_of_getElem? (i := 1006) (by decide +kernel)⟩
def lw_privs_3 : List (MethodName × Nat) := [(⟨"LaneRowModel", "look", "(IIIZ)V"⟩, 44), (⟨"LaneRowModel", "nextIn", "(II)I"⟩, 44), (⟨"LaneRowModel", "tellFound", "(I)I"⟩, 44), (⟨"LaneRowModel", "isNumber", "(I)Z"⟩, 44), (⟨"LaneRowModel", "lookNumber", "(I)V"⟩, 44), (⟨"LaneRowModel", "tellKey", "(II)I"⟩, 44), (⟨"LaneRowModel", "widthOf", "(II)I"⟩, 44), (⟨"LaneRowModel", "weightOf", "(II)I"⟩, 44), (⟨"LaneRowModel", "looksFor", "(I)I"⟩, 44), (⟨"LaneRowModel", "heightsOf", "(I)I"⟩, 44), (⟨"LaneRowModel", "looksIf", "(III)I"⟩, 44), (⟨"LaneRowModel", "tryOf", "(I)I"⟩, 44), (⟨"LaneRowModel", "worstBy", "(III)I"⟩, 44), (⟨"LaneRowModel", "tellLane", "(II)I"⟩, 44), (⟨"LaneRowModel", "inLane", "(I)I"⟩, 44), (⟨"LaneRowModel", "widest", "(I)I"⟩, 44)]
theorem lw_r3 : ∀ q ∈ lw_privs_3, lw_okq q := List.forall_mem_cons.mpr ⟨lw_p32, List.forall_mem_cons.mpr ⟨lw_p33, List.forall_mem_cons.mpr ⟨lw_p34, List.forall_mem_cons.mpr ⟨lw_p35, List.forall_mem_cons.mpr ⟨lw_p36, List.forall_mem_cons.mpr ⟨lw_p37, List.forall_mem_cons.mpr ⟨lw_p38, List.forall_mem_cons.mpr ⟨lw_p39, List.forall_mem_cons.mpr ⟨lw_p40, List.forall_mem_cons.mpr ⟨lw_p41, List.forall_mem_cons.mpr ⟨lw_p42, List.forall_mem_cons.mpr ⟨lw_p43, List.forall_mem_cons.mpr ⟨lw_p44, List.forall_mem_cons.mpr ⟨lw_p45, List.forall_mem_cons.mpr ⟨lw_p46, List.forall_mem_cons.mpr ⟨lw_p47, fun _ h => absurd h List.not_mem_nil⟩⟩⟩⟩⟩⟩⟩⟩⟩⟩⟩⟩⟩⟩⟩⟩
theorem lw_p48 : lw_okq (⟨"LaneRowModel", "tapeAt", "(I)I"⟩, 44) := ⟨⟨by decide +kernel, by decide +kernel⟩, List.mem_of_getElem? (i := 695) (by decide +kernel), List.mem_of_getElem? (i := 1019) (by decide +kernel), List.mem_of_getElem? (i := 1020) (by decide +kernel)⟩
theorem lw_p49 : lw_okq (⟨"LaneRowModel", "isThere", "(I)Z"⟩, 44) := ⟨⟨by decide +kernel, by decide +kernel⟩, List.mem_of_getElem? (i := 695) (by decide +kernel), List.mem_of_getElem? (i := 1031) (by decide +kernel), List.mem_of_getElem? (i := 1032) (by decide +kernel)⟩
theorem lw_p50 : lw_okq (⟨"LaneRowModel", "placeOf", "(I)I"⟩, 44) := ⟨⟨by decide +kernel, by decide +kernel⟩, List.mem_of_getElem? (i := 695) (by decide +kernel), List.mem_of_getElem? (i := 1035) (by decide +kernel), List.mem_of_getElem? (i := 1036) (by decide +kernel)⟩
theorem lw_p51 : lw_okq (⟨"LaneRowModel", "moveUp", "(I)V"⟩, 44) := ⟨⟨by decide +kernel, by decide +kernel⟩, List.mem_of_getElem? (i := 695) (by decide +kernel), List.mem_of_getElem? (i := 1039) (by decide +kernel), List.mem_of_getElem? (i := 1040) (by decide +kernel)⟩
theorem lw_p52 : lw_okq (⟨"LaneRowModel", "moveDown", "(I)V"⟩, 44) := ⟨⟨by decide +kernel, by decide +kernel⟩, List.mem_of_getElem? (i := 695) (by decide +kernel), List.mem_of_getElem? (i := 1047) (by decide +kernel), List.mem_of_getElem? (i := 1048) (by decide +kernel)⟩
theorem lw_p53 : lw_okq (⟨"LaneRowModel", "costOf", "()I"⟩, 44) := ⟨⟨by decide +kernel, by decide +kernel⟩, List.mem_of_getElem? (i := 695) (by decide +kernel), List.mem_of_getElem? (i := 1063) (by decide +kernel), List.mem_of_getElem? (i := 1064) (by decide +kernel)⟩
theorem lw_p54 : lw_okq (⟨"LaneRowModel", "bestOf", "(II)I"⟩, 44) := ⟨⟨by decide +kernel, by decide +kernel⟩, List.mem_of_getElem? (i := 695) (by decide +kernel), List.mem_of_getElem? (i := 1073) (by decide +kernel), List.mem_of_getElem? (i := 1074) (by decide +kernel)⟩
theorem lw_p55 : lw_okq (⟨"LaneRowModel", "linksOf", "()I"⟩, 44) := ⟨⟨by decide +kernel, by decide +kernel⟩, List.mem_of_getElem? (i := 695) (by decide +kernel), List.mem_of_getElem? (i := 1080) (by decide +kernel), List.mem_of_getElem? (i := 1081) (by decide +kernel)⟩
theorem lw_p56 : lw_okq (⟨"LaneRowModel", "changeOf", "(I)I"⟩, 44) := ⟨⟨by decide +kernel, by decide +kernel⟩, List.mem_of_getElem? (i := 695) (by decide +kernel), List.mem_of_getElem? (i := 1088) (by decide +kernel), List.mem_of_getElem? (i := 1089) (by decide +kernel)⟩
theorem lw_p57 : lw_okq (⟨"LaneRowModel", "draw", "(I)I"⟩, 44) := ⟨⟨by decide +kernel, by decide +kernel⟩, List.mem_of_getElem? (i := 695) (by decide +kernel), List.mem_of_getElem? (i := 1105) (by decide +kernel), List.mem_of_getElem? (i := 1106) (by decide +kernel)⟩
theorem lw_p58 : lw_okq (⟨"LaneRowModel", "countOf", "(I)I"⟩, 44) := ⟨⟨by decide +kernel, by decide +kernel⟩, List.mem_of_getElem? (i := 695) (by decide +kernel), List.mem_of_getElem? (i := 1125) (by decide +kernel), List.mem_of_getElem? (i := 1126) (by decide +kernel)⟩
theorem lw_p59 : lw_okq (⟨"LaneRowModel", "sumOf", "([I)I"⟩, 44) := ⟨⟨by decide +kernel, by decide +kernel⟩, List.mem_of_getElem? (i := 695) (by decide +kernel), List.mem_of_getElem? (i := 1129) (by decide +kernel), List.mem_of_getElem? (i := 1130) (by decide +kernel)⟩
theorem lw_p60 : lw_okq (⟨"LaneRowModel", "sayKey", "(I)V"⟩, 44) := ⟨⟨by decide +kernel, by decide +kernel⟩, List.mem_of_getElem? (i := 695) (by decide +kernel), List.mem_of_getElem? (i := 1138) (by decide +kernel), List.mem_of_getElem? (i := 1139) (by decide +kernel)⟩
theorem lw_p61 : lw_okq (⟨"LaneRowModel", "say", "(J)V"⟩, 44) := ⟨⟨by decide +kernel, by decide +kernel⟩, List.mem_of_getElem? (i := 695) (by decide +kernel), List.mem_of_getElem? (i := 1142) (by decide +kernel), List.mem_of_getElem? (i := 1143) (by decide +kernel)⟩
theorem lw_p62 : lw_okq (⟨"LaneRowModel", "sayRow", "()V"⟩, 44) := ⟨⟨by decide +kernel, by decide +kernel⟩, List.mem_of_getElem? (i := 695) (by decide +kernel), List.mem_of_getElem? (i := 1147) (by decide +kernel), List.mem_of_getElem? (i := 1148) (by decide +kernel)⟩
def lw_privs_4 : List (MethodName × Nat) := [(⟨"LaneRowModel", "tapeAt", "(I)I"⟩, 44), (⟨"LaneRowModel", "isThere", "(I)Z"⟩, 44), (⟨"LaneRowModel", "placeOf", "(I)I"⟩, 44), (⟨"LaneRowModel", "moveUp", "(I)V"⟩, 44), (⟨"LaneRowModel", "moveDown", "(I)V"⟩, 44), (⟨"LaneRowModel", "costOf", "()I"⟩, 44), (⟨"LaneRowModel", "bestOf", "(II)I"⟩, 44), (⟨"LaneRowModel", "linksOf", "()I"⟩, 44), (⟨"LaneRowModel", "changeOf", "(I)I"⟩, 44), (⟨"LaneRowModel", "draw", "(I)I"⟩, 44), (⟨"LaneRowModel", "countOf", "(I)I"⟩, 44), (⟨"LaneRowModel", "sumOf", "([I)I"⟩, 44), (⟨"LaneRowModel", "sayKey", "(I)V"⟩, 44), (⟨"LaneRowModel", "say", "(J)V"⟩, 44), (⟨"LaneRowModel", "sayRow", "()V"⟩, 44)]
theorem lw_r4 : ∀ q ∈ lw_privs_4, lw_okq q := List.forall_mem_cons.mpr ⟨lw_p48, List.forall_mem_cons.mpr ⟨lw_p49, List.forall_mem_cons.mpr ⟨lw_p50, List.forall_mem_cons.mpr ⟨lw_p51, List.forall_mem_cons.mpr ⟨lw_p52, List.forall_mem_cons.mpr ⟨lw_p53, List.forall_mem_cons.mpr ⟨lw_p54, List.forall_mem_cons.mpr ⟨lw_p55, List.forall_mem_cons.mpr ⟨lw_p56, List.forall_mem_cons.mpr ⟨lw_p57, List.forall_mem_cons.mpr ⟨lw_p58, List.forall_mem_cons.mpr ⟨lw_p59, List.forall_mem_cons.mpr ⟨lw_p60, List.forall_mem_cons.mpr ⟨lw_p61, List.forall_mem_cons.mpr ⟨lw_p62, fun _ h => absurd h List.not_mem_nil⟩⟩⟩⟩⟩⟩⟩⟩⟩⟩⟩⟩⟩⟩⟩
def lw_privs : List (MethodName × Nat) := lw_privs_1 ++ (lw_privs_2 ++ (lw_privs_3 ++ (lw_privs_4)))
def lw_tbl : List Cond := k2_sels lw_privs ++ tables_1
theorem lw_privs_ok : ∀ q ∈ lw_privs, lw_okq q := by
  show ∀ q ∈ lw_privs_1 ++ (lw_privs_2 ++ (lw_privs_3 ++ (lw_privs_4))), lw_okq q
  exact List.forall_mem_append.mpr ⟨lw_r1, List.forall_mem_append.mpr ⟨lw_r2, List.forall_mem_append.mpr ⟨lw_r3, lw_r4⟩⟩⟩
-- ===== end of PART A; then your names; then what follows =====
end
section
/-! ===== BEGIN printed: names, fields, word lists, decode rows ===== -/
def RX0 : String := "LaneRow$Even"
def TX0 : u_T := fun k => match k with
  | _ => ("", "", "", false)
def tyX0 : Nat → FieldType := fun k => match k with
  | _ => .int
abbrev wsX00 : List Cond := u_ws RX0 TX0 0
theorem nmX0 : ∀ a, a < 0 → ∀ b, b < 0 → a ≠ b → (TX0 a).2.1 ≠ (TX0 b).2.1 := by decide +kernel
theorem tyX0_ok : ∀ k, k < 0 → parseFieldDescriptor (TX0 k).2.2.1 = some (tyX0 k) := by decide +kernel
abbrev cX0_init : ByteArray := prog_2_method_1_code
def yX0_init : MethodName := ⟨RX0, "<init>", "()V"⟩
abbrev cX0_sign : ByteArray := prog_2_method_2_code
def yX0_sign : MethodName := ⟨RX0, "sign", "()C"⟩
abbrev cX0_tellsHeights : ByteArray := prog_2_method_3_code
def yX0_tellsHeights : MethodName := ⟨RX0, "tellsHeights", "()Z"⟩
abbrev cX0_heightOf : ByteArray := prog_2_method_4_code
def yX0_heightOf : MethodName := ⟨RX0, "heightOf", "(III)I"⟩
def RX1 : String := "LaneRow$Halves"
def TX1 : u_T := fun k => match k with
  | _ => ("", "", "", false)
def tyX1 : Nat → FieldType := fun k => match k with
  | _ => .int
abbrev wsX10 : List Cond := u_ws RX1 TX1 0
theorem nmX1 : ∀ a, a < 0 → ∀ b, b < 0 → a ≠ b → (TX1 a).2.1 ≠ (TX1 b).2.1 := by decide +kernel
theorem tyX1_ok : ∀ k, k < 0 → parseFieldDescriptor (TX1 k).2.2.1 = some (tyX1 k) := by decide +kernel
abbrev cX1_init : ByteArray := prog_3_method_1_code
def yX1_init : MethodName := ⟨RX1, "<init>", "()V"⟩
abbrev cX1_sign : ByteArray := prog_3_method_2_code
def yX1_sign : MethodName := ⟨RX1, "sign", "()C"⟩
abbrev cX1_tellsHeights : ByteArray := prog_3_method_3_code
def yX1_tellsHeights : MethodName := ⟨RX1, "tellsHeights", "()Z"⟩
abbrev cX1_heightOf : ByteArray := prog_3_method_4_code
def yX1_heightOf : MethodName := ⟨RX1, "heightOf", "(III)I"⟩
def RX2 : String := "LaneRow$Kept"
def TX2 : u_T := fun k => match k with
  | 0 => ("LaneRow$Kept", "first", "LLaneRow$Towers;", true)
  | 1 => ("LaneRow$Kept", "second", "LLaneRow$Towers;", true)
  | 2 => ("LaneRow$Kept", "seen", "LLaneRow$Seen;", true)
  | 3 => ("LaneRow$Kept", "asked", "I", false)
  | 4 => ("LaneRow$Kept", "looksOfAsked", "I", false)
  | _ => ("LaneRow$Kept", "changes", "I", false)
def tyX2 : Nat → FieldType := fun k => match k with
  | 0 => .object "LaneRow$Towers"
  | 1 => .object "LaneRow$Towers"
  | 2 => .object "LaneRow$Seen"
  | 3 => .int
  | 4 => .int
  | _ => .int
abbrev wsX20 : List Cond := u_ws RX2 TX2 6
theorem nmX2 : ∀ a, a < 6 → ∀ b, b < 6 → a ≠ b → (TX2 a).2.1 ≠ (TX2 b).2.1 := by decide +kernel
theorem tyX2_ok : ∀ k, k < 6 → parseFieldDescriptor (TX2 k).2.2.1 = some (tyX2 k) := by decide +kernel
abbrev cX2_init : ByteArray := prog_4_method_1_code
def yX2_init : MethodName := ⟨RX2, "<init>", "()V"⟩
abbrev cX2_clear : ByteArray := prog_4_method_2_code
def yX2_clear : MethodName := ⟨RX2, "clear", "()V"⟩
abbrev cX2_copyFrom : ByteArray := prog_4_method_3_code
def yX2_copyFrom : MethodName := ⟨RX2, "copyFrom", "(LLaneRow$Kept;)V"⟩
def RX3 : String := "LaneRow$Law"
def TX3 : u_T := fun k => match k with
  | _ => ("", "", "", false)
def tyX3 : Nat → FieldType := fun k => match k with
  | _ => .int
abbrev wsX30 : List Cond := u_ws RX3 TX3 0
theorem nmX3 : ∀ a, a < 0 → ∀ b, b < 0 → a ≠ b → (TX3 a).2.1 ≠ (TX3 b).2.1 := by decide +kernel
theorem tyX3_ok : ∀ k, k < 0 → parseFieldDescriptor (TX3 k).2.2.1 = some (tyX3 k) := by decide +kernel
abbrev cX3_init : ByteArray := prog_5_method_1_code
def yX3_init : MethodName := ⟨RX3, "<init>", "()V"⟩
abbrev cX3_bySign : ByteArray := prog_5_method_2_code
def yX3_bySign : MethodName := ⟨RX3, "bySign", "(I)LLaneRow$Law;"⟩
abbrev cX3_sign : ByteArray := prog_5_method_3_code
def yX3_sign : MethodName := ⟨RX3, "sign", "()C"⟩
abbrev cX3_tellsHeights : ByteArray := prog_5_method_4_code
def yX3_tellsHeights : MethodName := ⟨RX3, "tellsHeights", "()Z"⟩
abbrev cX3_heightOf : ByteArray := prog_5_method_5_code
def yX3_heightOf : MethodName := ⟨RX3, "heightOf", "(III)I"⟩
abbrev cX3_heightByDivisor : ByteArray := prog_5_method_6_code
def yX3_heightByDivisor : MethodName := ⟨RX3, "heightByDivisor", "(II)I"⟩
def RX4 : String := "LaneRow$Seen"
def TX4 : u_T := fun k => match k with
  | 0 => ("LaneRow$Seen", "of", "[I", true)
  | 1 => ("LaneRow$Seen", "sought", "[I", true)
  | 2 => ("LaneRow$Seen", "looks", "[I", true)
  | _ => ("LaneRow$Seen", "size", "I", false)
def tyX4 : Nat → FieldType := fun k => match k with
  | 0 => .array .int
  | 1 => .array .int
  | 2 => .array .int
  | _ => .int
abbrev wsX40 : List Cond := u_ws RX4 TX4 4
theorem nmX4 : ∀ a, a < 4 → ∀ b, b < 4 → a ≠ b → (TX4 a).2.1 ≠ (TX4 b).2.1 := by decide +kernel
theorem tyX4_ok : ∀ k, k < 4 → parseFieldDescriptor (TX4 k).2.2.1 = some (tyX4 k) := by decide +kernel
abbrev cX4_init : ByteArray := prog_6_method_1_code
def yX4_init : MethodName := ⟨RX4, "<init>", "()V"⟩
abbrev cX4_add : ByteArray := prog_6_method_2_code
def yX4_add : MethodName := ⟨RX4, "add", "(III)I"⟩
abbrev cX4_clear : ByteArray := prog_6_method_3_code
def yX4_clear : MethodName := ⟨RX4, "clear", "()I"⟩
abbrev cX4_copyFrom : ByteArray := prog_6_method_4_code
def yX4_copyFrom : MethodName := ⟨RX4, "copyFrom", "(LLaneRow$Seen;)V"⟩
def RX5 : String := "LaneRow$Sums"
def TX5 : u_T := fun k => match k with
  | _ => ("", "", "", false)
def tyX5 : Nat → FieldType := fun k => match k with
  | _ => .int
abbrev wsX50 : List Cond := u_ws RX5 TX5 0
theorem nmX5 : ∀ a, a < 0 → ∀ b, b < 0 → a ≠ b → (TX5 a).2.1 ≠ (TX5 b).2.1 := by decide +kernel
theorem tyX5_ok : ∀ k, k < 0 → parseFieldDescriptor (TX5 k).2.2.1 = some (tyX5 k) := by decide +kernel
abbrev cX5_init : ByteArray := prog_7_method_1_code
def yX5_init : MethodName := ⟨RX5, "<init>", "()V"⟩
abbrev cX5_sign : ByteArray := prog_7_method_2_code
def yX5_sign : MethodName := ⟨RX5, "sign", "()C"⟩
abbrev cX5_tellsHeights : ByteArray := prog_7_method_3_code
def yX5_tellsHeights : MethodName := ⟨RX5, "tellsHeights", "()Z"⟩
abbrev cX5_heightOf : ByteArray := prog_7_method_4_code
def yX5_heightOf : MethodName := ⟨RX5, "heightOf", "(III)I"⟩
def RX6 : String := "LaneRow$Text"
def TX6 : u_T := fun k => match k with
  | 0 => ("LaneRow$Text", "codes", "[I", true)
  | _ => ("LaneRow$Text", "size", "I", false)
def tyX6 : Nat → FieldType := fun k => match k with
  | 0 => .array .int
  | _ => .int
abbrev wsX60 : List Cond := u_ws RX6 TX6 2
theorem nmX6 : ∀ a, a < 2 → ∀ b, b < 2 → a ≠ b → (TX6 a).2.1 ≠ (TX6 b).2.1 := by decide +kernel
theorem tyX6_ok : ∀ k, k < 2 → parseFieldDescriptor (TX6 k).2.2.1 = some (tyX6 k) := by decide +kernel
abbrev cX6_init : ByteArray := prog_8_method_1_code
def yX6_init : MethodName := ⟨RX6, "<init>", "()V"⟩
abbrev cX6_add : ByteArray := prog_8_method_2_code
def yX6_add : MethodName := ⟨RX6, "add", "(I)I"⟩
abbrev cX6_clear : ByteArray := prog_8_method_3_code
def yX6_clear : MethodName := ⟨RX6, "clear", "()I"⟩
abbrev cX6_write : ByteArray := prog_8_method_4_code
def yX6_write : MethodName := ⟨RX6, "write", "(LLaneRow$Law;LLaneRow$Towers;)V"⟩
abbrev cX6_firstFault : ByteArray := prog_8_method_5_code
def yX6_firstFault : MethodName := ⟨RX6, "firstFault", "()I"⟩
abbrev cX6_keysTold : ByteArray := prog_8_method_6_code
def yX6_keysTold : MethodName := ⟨RX6, "keysTold", "()I"⟩
abbrev cX6_tellTo : ByteArray := prog_8_method_7_code
def yX6_tellTo : MethodName := ⟨RX6, "tellTo", "(LLaneRow$Towers;)V"⟩
abbrev cX6_signsOfKey : ByteArray := prog_8_method_8_code
def yX6_signsOfKey : MethodName := ⟨RX6, "signsOfKey", "()I"⟩
abbrev cX6_fits : ByteArray := prog_8_method_9_code
def yX6_fits : MethodName := ⟨RX6, "fits", "(IIII)Z"⟩
abbrev cX6_keyAt : ByteArray := prog_8_method_10_code
def yX6_keyAt : MethodName := ⟨RX6, "keyAt", "(I)I"⟩
abbrev cX6_digitAt : ByteArray := prog_8_method_11_code
def yX6_digitAt : MethodName := ⟨RX6, "digitAt", "(I)I"⟩
def RX7 : String := "LaneRow$Thirds"
def TX7 : u_T := fun k => match k with
  | _ => ("", "", "", false)
def tyX7 : Nat → FieldType := fun k => match k with
  | _ => .int
abbrev wsX70 : List Cond := u_ws RX7 TX7 0
theorem nmX7 : ∀ a, a < 0 → ∀ b, b < 0 → a ≠ b → (TX7 a).2.1 ≠ (TX7 b).2.1 := by decide +kernel
theorem tyX7_ok : ∀ k, k < 0 → parseFieldDescriptor (TX7 k).2.2.1 = some (tyX7 k) := by decide +kernel
abbrev cX7_init : ByteArray := prog_9_method_1_code
def yX7_init : MethodName := ⟨RX7, "<init>", "()V"⟩
abbrev cX7_sign : ByteArray := prog_9_method_2_code
def yX7_sign : MethodName := ⟨RX7, "sign", "()C"⟩
abbrev cX7_heightOf : ByteArray := prog_9_method_3_code
def yX7_heightOf : MethodName := ⟨RX7, "heightOf", "(III)I"⟩
def RX8 : String := "LaneRow$Towers"
def TX8 : u_T := fun k => match k with
  | 0 => ("LaneRow$Towers", "keys", "[I", true)
  | 1 => ("LaneRow$Towers", "values", "[I", true)
  | 2 => ("LaneRow$Towers", "heights", "[I", true)
  | 3 => ("LaneRow$Towers", "heats", "[I", true)
  | _ => ("LaneRow$Towers", "size", "I", false)
def tyX8 : Nat → FieldType := fun k => match k with
  | 0 => .array .int
  | 1 => .array .int
  | 2 => .array .int
  | 3 => .array .int
  | _ => .int
abbrev wsX80 : List Cond := u_ws RX8 TX8 5
theorem nmX8 : ∀ a, a < 5 → ∀ b, b < 5 → a ≠ b → (TX8 a).2.1 ≠ (TX8 b).2.1 := by decide +kernel
theorem tyX8_ok : ∀ k, k < 5 → parseFieldDescriptor (TX8 k).2.2.1 = some (tyX8 k) := by decide +kernel
abbrev cX8_init : ByteArray := prog_10_method_1_code
def yX8_init : MethodName := ⟨RX8, "<init>", "()V"⟩
abbrev cX8_copyFrom : ByteArray := prog_10_method_2_code
def yX8_copyFrom : MethodName := ⟨RX8, "copyFrom", "(LLaneRow$Towers;)V"⟩
abbrev cX8_append : ByteArray := prog_10_method_3_code
def yX8_append : MethodName := ⟨RX8, "append", "(LLaneRow$Towers;I)V"⟩
abbrev cX8_insert : ByteArray := prog_10_method_4_code
def yX8_insert : MethodName := ⟨RX8, "insert", "(IIII)V"⟩
abbrev cX8_takeOut : ByteArray := prog_10_method_5_code
def yX8_takeOut : MethodName := ⟨RX8, "takeOut", "(I)V"⟩
abbrev cX8_fill : ByteArray := prog_10_method_6_code
def yX8_fill : MethodName := ⟨RX8, "fill", "(ILLaneRow$Towers;I)V"⟩
abbrev cX8_firstNotLess : ByteArray := prog_10_method_7_code
def yX8_firstNotLess : MethodName := ⟨RX8, "firstNotLess", "(I)I"⟩
abbrev cX8_numberOf : ByteArray := prog_10_method_8_code
def yX8_numberOf : MethodName := ⟨RX8, "numberOf", "(I)I"⟩
abbrev cX8_lastKey : ByteArray := prog_10_method_9_code
def yX8_lastKey : MethodName := ⟨RX8, "lastKey", "()I"⟩
abbrev cX8_nextInLane : ByteArray := prog_10_method_10_code
def yX8_nextInLane : MethodName := ⟨RX8, "nextInLane", "([III)I"⟩
abbrev cX8_reaches : ByteArray := prog_10_method_11_code
def yX8_reaches : MethodName := ⟨RX8, "reaches", "(II)Z"⟩
abbrev cX8_widthFrom : ByteArray := prog_10_method_12_code
def yX8_widthFrom : MethodName := ⟨RX8, "widthFrom", "(II)I"⟩
abbrev cX8_weightFrom : ByteArray := prog_10_method_13_code
def yX8_weightFrom : MethodName := ⟨RX8, "weightFrom", "(II)I"⟩
abbrev cX8_greatestWidth : ByteArray := prog_10_method_14_code
def yX8_greatestWidth : MethodName := ⟨RX8, "greatestWidth", "(I)I"⟩
abbrev cX8_keysInLane : ByteArray := prog_10_method_15_code
def yX8_keysInLane : MethodName := ⟨RX8, "keysInLane", "(I)I"⟩
abbrev cX8_highestOf : ByteArray := prog_10_method_16_code
def yX8_highestOf : MethodName := ⟨RX8, "highestOf", "([I)I"⟩
abbrev cX8_linksOf : ByteArray := prog_10_method_17_code
def yX8_linksOf : MethodName := ⟨RX8, "linksOf", "([I)I"⟩
abbrev cX8_valuesBetween : ByteArray := prog_10_method_18_code
def yX8_valuesBetween : MethodName := ⟨RX8, "valuesBetween", "(II)I"⟩
abbrev cX8_allHeat : ByteArray := prog_10_method_19_code
def yX8_allHeat : MethodName := ⟨RX8, "allHeat", "()I"⟩
def RX9 : String := "LaneRow$Trial"
def TX9 : u_T := fun k => match k with
  | 0 => ("LaneRow$Trial", "walk", "LLaneRow$Walk;", true)
  | 1 => ("LaneRow$Trial", "tried", "[I", true)
  | 2 => ("LaneRow$Trial", "bestHeights", "[I", true)
  | 3 => ("LaneRow$Trial", "looks", "[I", true)
  | 4 => ("LaneRow$Trial", "least", "I", false)
  | 5 => ("LaneRow$Trial", "bestLinks", "I", false)
  | 6 => ("LaneRow$Trial", "changeNumber", "I", false)
  | _ => ("LaneRow$Trial", "changeHeight", "I", false)
def tyX9 : Nat → FieldType := fun k => match k with
  | 0 => .object "LaneRow$Walk"
  | 1 => .array .int
  | 2 => .array .int
  | 3 => .array .int
  | 4 => .int
  | 5 => .int
  | 6 => .int
  | _ => .int
abbrev wsX90 : List Cond := u_ws RX9 TX9 8
theorem nmX9 : ∀ a, a < 8 → ∀ b, b < 8 → a ≠ b → (TX9 a).2.1 ≠ (TX9 b).2.1 := by decide +kernel
theorem tyX9_ok : ∀ k, k < 8 → parseFieldDescriptor (TX9 k).2.2.1 = some (tyX9 k) := by decide +kernel
abbrev cX9_init : ByteArray := prog_11_method_1_code
def yX9_init : MethodName := ⟨RX9, "<init>", "()V"⟩
abbrev cX9_costOf : ByteArray := prog_11_method_2_code
def yX9_costOf : MethodName := ⟨RX9, "costOf", "(LLaneRow$Towers;[I)I"⟩
abbrev cX9_seekBest : ByteArray := prog_11_method_3_code
def yX9_seekBest : MethodName := ⟨RX9, "seekBest", "(LLaneRow$Towers;I)V"⟩
abbrev cX9_weigh : ByteArray := prog_11_method_4_code
def yX9_weigh : MethodName := ⟨RX9, "weigh", "(LLaneRow$Towers;I)V"⟩
abbrev cX9_nextWay : ByteArray := prog_11_method_5_code
def yX9_nextWay : MethodName := ⟨RX9, "nextWay", "(I)Z"⟩
abbrev cX9_bestHeight : ByteArray := prog_11_method_6_code
def yX9_bestHeight : MethodName := ⟨RX9, "bestHeight", "(LLaneRow$Towers;I)I"⟩
abbrev cX9_seekChange : ByteArray := prog_11_method_7_code
def yX9_seekChange : MethodName := ⟨RX9, "seekChange", "(LLaneRow$Towers;)V"⟩
abbrev cX9_weighChange : ByteArray := prog_11_method_8_code
def yX9_weighChange : MethodName := ⟨RX9, "weighChange", "(LLaneRow$Towers;I)V"⟩
abbrev cX9_heightsLeft : ByteArray := prog_11_method_9_code
def yX9_heightsLeft : MethodName := ⟨RX9, "heightsLeft", "(LLaneRow$Towers;LLaneRow$Seen;I)I"⟩
abbrev cX9_agrees : ByteArray := prog_11_method_10_code
def yX9_agrees : MethodName := ⟨RX9, "agrees", "(LLaneRow$Towers;LLaneRow$Seen;I)Z"⟩
abbrev cX9_bestTry : ByteArray := prog_11_method_11_code
def yX9_bestTry : MethodName := ⟨RX9, "bestTry", "(LLaneRow$Towers;LLaneRow$Seen;I)I"⟩
abbrev cX9_leftAtWorst : ByteArray := prog_11_method_12_code
def yX9_leftAtWorst : MethodName := ⟨RX9, "leftAtWorst", "(LLaneRow$Towers;III)I"⟩
abbrev cX9_alike : ByteArray := prog_11_method_13_code
def yX9_alike : MethodName := ⟨RX9, "alike", "(II)I"⟩
abbrev cX9_copyHeights : ByteArray := prog_11_method_14_code
def yX9_copyHeights : MethodName := ⟨RX9, "copyHeights", "(LLaneRow$Towers;[I[I)V"⟩
def RX10 : String := "LaneRow$Walk"
def TX10 : u_T := fun k => match k with
  | 0 => ("LaneRow$Walk", "number", "I", false)
  | 1 => ("LaneRow$Walk", "lane", "I", false)
  | _ => ("LaneRow$Walk", "looks", "I", false)
def tyX10 : Nat → FieldType := fun k => match k with
  | 0 => .int
  | 1 => .int
  | _ => .int
abbrev wsX100 : List Cond := u_ws RX10 TX10 3
theorem nmX10 : ∀ a, a < 3 → ∀ b, b < 3 → a ≠ b → (TX10 a).2.1 ≠ (TX10 b).2.1 := by decide +kernel
theorem tyX10_ok : ∀ k, k < 3 → parseFieldDescriptor (TX10 k).2.2.1 = some (tyX10 k) := by decide +kernel
abbrev cX10_init : ByteArray := prog_12_method_1_code
def yX10_init : MethodName := ⟨RX10, "<init>", "()V"⟩
abbrev cX10_go : ByteArray := prog_12_method_2_code
def yX10_go : MethodName := ⟨RX10, "go", "(LLaneRow$Towers;[III)V"⟩
def RX11 : String := "LaneRow"
def TX11 : u_T := fun k => match k with
  | 0 => ("LaneRow", "page", "LLaneRow$Text;", true)
  | 1 => ("LaneRow", "written", "LLaneRow$Text;", true)
  | 2 => ("LaneRow", "now", "LLaneRow$Kept;", true)
  | 3 => ("LaneRow", "kept", "LLaneRow$Kept;", true)
  | 4 => ("LaneRow", "walk", "LLaneRow$Walk;", true)
  | 5 => ("LaneRow", "trial", "LLaneRow$Trial;", true)
  | 6 => ("LaneRow", "law", "LLaneRow$Law;", false)
  | 7 => ("LaneRow", "rowsRead", "I", false)
  | 8 => ("LaneRow", "rowOfImage", "I", false)
  | _ => ("LaneRow", "bestsDone", "I", false)
def tyX11 : Nat → FieldType := fun k => match k with
  | 0 => .object "LaneRow$Text"
  | 1 => .object "LaneRow$Text"
  | 2 => .object "LaneRow$Kept"
  | 3 => .object "LaneRow$Kept"
  | 4 => .object "LaneRow$Walk"
  | 5 => .object "LaneRow$Trial"
  | 6 => .object "LaneRow$Law"
  | 7 => .int
  | 8 => .int
  | _ => .int
abbrev wsX110 : List Cond := u_ws RX11 TX11 10
theorem nmX11 : ∀ a, a < 10 → ∀ b, b < 10 → a ≠ b → (TX11 a).2.1 ≠ (TX11 b).2.1 := by decide +kernel
theorem tyX11_ok : ∀ k, k < 10 → parseFieldDescriptor (TX11 k).2.2.1 = some (tyX11 k) := by decide +kernel
abbrev cX11_init : ByteArray := prog_1_method_1_code
def yX11_init : MethodName := ⟨RX11, "<init>", "()V"⟩
abbrev cX11_letter : ByteArray := prog_1_method_2_code
def yX11_letter : MethodName := ⟨RX11, "letter", "(I)I"⟩
abbrev cX11_blank : ByteArray := prog_1_method_3_code
def yX11_blank : MethodName := ⟨RX11, "blank", "()I"⟩
abbrev cX11_fault : ByteArray := prog_1_method_4_code
def yX11_fault : MethodName := ⟨RX11, "fault", "()I"⟩
abbrev cX11_row : ByteArray := prog_1_method_5_code
def yX11_row : MethodName := ⟨RX11, "row", "()I"⟩
abbrev cX11_tape : ByteArray := prog_1_method_6_code
def yX11_tape : MethodName := ⟨RX11, "tape", "(I)I"⟩
abbrev cX11_as : ByteArray := prog_1_method_7_code
def yX11_as : MethodName := ⟨RX11, "as", "(I)I"⟩
abbrev cX11_key : ByteArray := prog_1_method_8_code
def yX11_key : MethodName := ⟨RX11, "key", "(II)I"⟩
abbrev cX11_lane : ByteArray := prog_1_method_9_code
def yX11_lane : MethodName := ⟨RX11, "lane", "(II)I"⟩
abbrev cX11_find : ByteArray := prog_1_method_10_code
def yX11_find : MethodName := ⟨RX11, "find", "(II)I"⟩
abbrev cX11_nth : ByteArray := prog_1_method_11_code
def yX11_nth : MethodName := ⟨RX11, "nth", "(II)I"⟩
abbrev cX11_sum : ByteArray := prog_1_method_12_code
def yX11_sum : MethodName := ⟨RX11, "sum", "(II)I"⟩
abbrev cX11_finger : ByteArray := prog_1_method_13_code
def yX11_finger : MethodName := ⟨RX11, "finger", "(III)I"⟩
abbrev cX11_ask : ByteArray := prog_1_method_14_code
def yX11_ask : MethodName := ⟨RX11, "ask", "(I)I"⟩
abbrev cX11_put : ByteArray := prog_1_method_15_code
def yX11_put : MethodName := ⟨RX11, "put", "(III)I"⟩
abbrev cX11_remove : ByteArray := prog_1_method_16_code
def yX11_remove : MethodName := ⟨RX11, "remove", "(I)I"⟩
abbrev cX11_split : ByteArray := prog_1_method_17_code
def yX11_split : MethodName := ⟨RX11, "split", "(I)I"⟩
abbrev cX11_join : ByteArray := prog_1_method_18_code
def yX11_join : MethodName := ⟨RX11, "join", "()I"⟩
abbrev cX11_cost : ByteArray := prog_1_method_19_code
def yX11_cost : MethodName := ⟨RX11, "cost", "()I"⟩
abbrev cX11_best : ByteArray := prog_1_method_20_code
def yX11_best : MethodName := ⟨RX11, "best", "(II)I"⟩
abbrev cX11_change : ByteArray := prog_1_method_21_code
def yX11_change : MethodName := ⟨RX11, "change", "(I)I"⟩
abbrev cX11_see : ByteArray := prog_1_method_22_code
def yX11_see : MethodName := ⟨RX11, "see", "(III)I"⟩
abbrev cX11_forget : ByteArray := prog_1_method_23_code
def yX11_forget : MethodName := ⟨RX11, "forget", "()I"⟩
abbrev cX11_rounds : ByteArray := prog_1_method_24_code
def yX11_rounds : MethodName := ⟨RX11, "rounds", "(III)I"⟩
abbrev cX11_image : ByteArray := prog_1_method_25_code
def yX11_image : MethodName := ⟨RX11, "image", "()I"⟩
abbrev cX11_restore : ByteArray := prog_1_method_26_code
def yX11_restore : MethodName := ⟨RX11, "restore", "()I"⟩
abbrev cX11_count : ByteArray := prog_1_method_27_code
def yX11_count : MethodName := ⟨RX11, "count", "(I)I"⟩
abbrev cX11_digest : ByteArray := prog_1_method_28_code
def yX11_digest : MethodName := ⟨RX11, "digest", "()J"⟩
abbrev cX11_withKey : ByteArray := prog_1_method_29_code
def yX11_withKey : MethodName := ⟨RX11, "withKey", "(JI)J"⟩
abbrev cX11_withLanes : ByteArray := prog_1_method_30_code
def yX11_withLanes : MethodName := ⟨RX11, "withLanes", "(J)J"⟩
abbrev cX11_withRow : ByteArray := prog_1_method_31_code
def yX11_withRow : MethodName := ⟨RX11, "withRow", "(J)J"⟩
abbrev cX11_withCodes : ByteArray := prog_1_method_32_code
def yX11_withCodes : MethodName := ⟨RX11, "withCodes", "(J[II)J"⟩
abbrev cX11_namesNoKey : ByteArray := prog_1_method_33_code
def yX11_namesNoKey : MethodName := ⟨RX11, "namesNoKey", "(I)Z"⟩
abbrev cX11_isNoKey : ByteArray := prog_1_method_34_code
def yX11_isNoKey : MethodName := ⟨RX11, "isNoKey", "(I)Z"⟩
abbrev cX11_isKind : ByteArray := prog_1_method_35_code
def yX11_isKind : MethodName := ⟨RX11, "isKind", "(I)Z"⟩
abbrev cX11_seedBehind : ByteArray := prog_1_method_36_code
def yX11_seedBehind : MethodName := ⟨RX11, "seedBehind", "(I)I"⟩
abbrev cX11_looksFor : ByteArray := prog_1_method_37_code
def yX11_looksFor : MethodName := ⟨RX11, "looksFor", "(I)I"⟩
abbrev cX11_laneOf : ByteArray := prog_1_method_38_code
def yX11_laneOf : MethodName := ⟨RX11, "laneOf", "(I)I"⟩
abbrev cX11_valueOf : ByteArray := prog_1_method_39_code
def yX11_valueOf : MethodName := ⟨RX11, "valueOf", "(I)I"⟩
abbrev cX11_changeIsMade : ByteArray := prog_1_method_40_code
def yX11_changeIsMade : MethodName := ⟨RX11, "changeIsMade", "()V"⟩
abbrev cX11_raiseTowers : ByteArray := prog_1_method_41_code
def yX11_raiseTowers : MethodName := ⟨RX11, "raiseTowers", "()V"⟩
def RX12 : String := "LaneRowModel"
def TX12 : u_T := fun k => match k with
  | 0 => ("LaneRowModel", "page", "[I", true)
  | 1 => ("LaneRowModel", "pageMany", "I", false)
  | 2 => ("LaneRowModel", "law", "I", false)
  | 3 => ("LaneRowModel", "many", "I", false)
  | 4 => ("LaneRowModel", "asked", "I", false)
  | 5 => ("LaneRowModel", "looksAll", "I", false)
  | 6 => ("LaneRowModel", "changes", "I", false)
  | 7 => ("LaneRowModel", "rowsRead", "I", false)
  | 8 => ("LaneRowModel", "keys", "[I", true)
  | 9 => ("LaneRowModel", "values", "[I", true)
  | 10 => ("LaneRowModel", "heights", "[I", true)
  | 11 => ("LaneRowModel", "heats", "[I", true)
  | 12 => ("LaneRowModel", "secondMany", "I", false)
  | 13 => ("LaneRowModel", "secondKeys", "[I", true)
  | 14 => ("LaneRowModel", "secondValues", "[I", true)
  | 15 => ("LaneRowModel", "secondHeights", "[I", true)
  | 16 => ("LaneRowModel", "secondHeats", "[I", true)
  | 17 => ("LaneRowModel", "foundAt", "I", false)
  | 18 => ("LaneRowModel", "foundLooks", "I", false)
  | 19 => ("LaneRowModel", "foundLane", "I", false)
  | 20 => ("LaneRowModel", "bestsDone", "I", false)
  | 21 => ("LaneRowModel", "saved", "[I", true)
  | 22 => ("LaneRowModel", "bestHeights", "[I", true)
  | 23 => ("LaneRowModel", "seenMany", "I", false)
  | 24 => ("LaneRowModel", "sights", "[I", true)
  | 25 => ("LaneRowModel", "by", "[I", true)
  | 26 => ("LaneRowModel", "seedNow", "I", false)
  | 27 => ("LaneRowModel", "keptRow", "I", false)
  | 28 => ("LaneRowModel", "keptMany", "I", false)
  | 29 => ("LaneRowModel", "keptSecond", "I", false)
  | 30 => ("LaneRowModel", "keptAsked", "I", false)
  | 31 => ("LaneRowModel", "keptLooks", "I", false)
  | 32 => ("LaneRowModel", "keptChanges", "I", false)
  | 33 => ("LaneRowModel", "keptSeen", "I", false)
  | 34 => ("LaneRowModel", "keptKeys", "[I", true)
  | 35 => ("LaneRowModel", "keptValues", "[I", true)
  | 36 => ("LaneRowModel", "keptHeights", "[I", true)
  | 37 => ("LaneRowModel", "keptHeats", "[I", true)
  | 38 => ("LaneRowModel", "keptKeys2", "[I", true)
  | 39 => ("LaneRowModel", "keptValues2", "[I", true)
  | 40 => ("LaneRowModel", "keptHeights2", "[I", true)
  | 41 => ("LaneRowModel", "keptHeats2", "[I", true)
  | 42 => ("LaneRowModel", "keptSights", "[I", true)
  | _ => ("LaneRowModel", "hash", "J", false)
def tyX12 : Nat → FieldType := fun k => match k with
  | 0 => .array .int
  | 1 => .int
  | 2 => .int
  | 3 => .int
  | 4 => .int
  | 5 => .int
  | 6 => .int
  | 7 => .int
  | 8 => .array .int
  | 9 => .array .int
  | 10 => .array .int
  | 11 => .array .int
  | 12 => .int
  | 13 => .array .int
  | 14 => .array .int
  | 15 => .array .int
  | 16 => .array .int
  | 17 => .int
  | 18 => .int
  | 19 => .int
  | 20 => .int
  | 21 => .array .int
  | 22 => .array .int
  | 23 => .int
  | 24 => .array .int
  | 25 => .array .int
  | 26 => .int
  | 27 => .int
  | 28 => .int
  | 29 => .int
  | 30 => .int
  | 31 => .int
  | 32 => .int
  | 33 => .int
  | 34 => .array .int
  | 35 => .array .int
  | 36 => .array .int
  | 37 => .array .int
  | 38 => .array .int
  | 39 => .array .int
  | 40 => .array .int
  | 41 => .array .int
  | 42 => .array .int
  | _ => .long
abbrev wsX120 : List Cond := u_ws RX12 TX12 44
theorem nmX12 : ∀ a, a < 44 → ∀ b, b < 44 → a ≠ b → (TX12 a).2.1 ≠ (TX12 b).2.1 := by decide +kernel
theorem tyX12_ok : ∀ k, k < 44 → parseFieldDescriptor (TX12 k).2.2.1 = some (tyX12 k) := by decide +kernel
abbrev cX12_init : ByteArray := prog_14_method_1_code
def yX12_init : MethodName := ⟨RX12, "<init>", "()V"⟩
abbrev cX12_in : ByteArray := prog_14_method_2_code
def yX12_in : MethodName := ⟨RX12, "in", "(JJJ)Z"⟩
abbrev cX12_copy : ByteArray := prog_14_method_3_code
def yX12_copy : MethodName := ⟨RX12, "copy", "([I[I)V"⟩
abbrev cX12_letter : ByteArray := prog_14_method_4_code
def yX12_letter : MethodName := ⟨RX12, "letter", "(I)I"⟩
abbrev cX12_blank : ByteArray := prog_14_method_5_code
def yX12_blank : MethodName := ⟨RX12, "blank", "()I"⟩
abbrev cX12_lawBy : ByteArray := prog_14_method_6_code
def yX12_lawBy : MethodName := ⟨RX12, "lawBy", "(I)I"⟩
abbrev cX12_signOf : ByteArray := prog_14_method_7_code
def yX12_signOf : MethodName := ⟨RX12, "signOf", "(I)I"⟩
abbrev cX12_wide : ByteArray := prog_14_method_8_code
def yX12_wide : MethodName := ⟨RX12, "wide", "()I"⟩
abbrev cX12_keyAt : ByteArray := prog_14_method_9_code
def yX12_keyAt : MethodName := ⟨RX12, "keyAt", "(I)I"⟩
abbrev cX12_isKeyLetter : ByteArray := prog_14_method_10_code
def yX12_isKeyLetter : MethodName := ⟨RX12, "isKeyLetter", "(I)Z"⟩
abbrev cX12_isGood : ByteArray := prog_14_method_11_code
def yX12_isGood : MethodName := ⟨RX12, "isGood", "(I)Z"⟩
abbrev cX12_faultOf : ByteArray := prog_14_method_12_code
def yX12_faultOf : MethodName := ⟨RX12, "faultOf", "()I"⟩
abbrev cX12_fault : ByteArray := prog_14_method_13_code
def yX12_fault : MethodName := ⟨RX12, "fault", "()I"⟩
abbrev cX12_row : ByteArray := prog_14_method_14_code
def yX12_row : MethodName := ⟨RX12, "row", "()I"⟩
abbrev cX12_divides : ByteArray := prog_14_method_15_code
def yX12_divides : MethodName := ⟨RX12, "divides", "(II)I"⟩
abbrev cX12_topped : ByteArray := prog_14_method_16_code
def yX12_topped : MethodName := ⟨RX12, "topped", "(I)I"⟩
abbrev cX12_heightBy : ByteArray := prog_14_method_17_code
def yX12_heightBy : MethodName := ⟨RX12, "heightBy", "(I)I"⟩
abbrev cX12_layHeights : ByteArray := prog_14_method_18_code
def yX12_layHeights : MethodName := ⟨RX12, "layHeights", "()V"⟩
abbrev cX12_lacks : ByteArray := prog_14_method_19_code
def yX12_lacks : MethodName := ⟨RX12, "lacks", "()Z"⟩
abbrev cX12_lanes : ByteArray := prog_14_method_20_code
def yX12_lanes : MethodName := ⟨RX12, "lanes", "()I"⟩
abbrev cX12_nextIn : ByteArray := prog_14_method_21_code
def yX12_nextIn : MethodName := ⟨RX12, "nextIn", "(II)I"⟩
abbrev cX12_widthOf : ByteArray := prog_14_method_22_code
def yX12_widthOf : MethodName := ⟨RX12, "widthOf", "(II)I"⟩
abbrev cX12_weightOf : ByteArray := prog_14_method_23_code
def yX12_weightOf : MethodName := ⟨RX12, "weightOf", "(II)I"⟩
abbrev cX12_look : ByteArray := prog_14_method_24_code
def yX12_look : MethodName := ⟨RX12, "look", "(IIIZ)V"⟩
abbrev cX12_lookFor : ByteArray := prog_14_method_25_code
def yX12_lookFor : MethodName := ⟨RX12, "lookFor", "(I)V"⟩
abbrev cX12_looksFor : ByteArray := prog_14_method_26_code
def yX12_looksFor : MethodName := ⟨RX12, "looksFor", "(I)I"⟩
abbrev cX12_lookNumber : ByteArray := prog_14_method_27_code
def yX12_lookNumber : MethodName := ⟨RX12, "lookNumber", "(I)V"⟩
abbrev cX12_isNumber : ByteArray := prog_14_method_28_code
def yX12_isNumber : MethodName := ⟨RX12, "isNumber", "(I)Z"⟩
abbrev cX12_isKey : ByteArray := prog_14_method_29_code
def yX12_isKey : MethodName := ⟨RX12, "isKey", "(I)Z"⟩
abbrev cX12_tellFound : ByteArray := prog_14_method_30_code
def yX12_tellFound : MethodName := ⟨RX12, "tellFound", "(I)I"⟩
abbrev cX12_find : ByteArray := prog_14_method_31_code
def yX12_find : MethodName := ⟨RX12, "find", "(II)I"⟩
abbrev cX12_nth : ByteArray := prog_14_method_32_code
def yX12_nth : MethodName := ⟨RX12, "nth", "(II)I"⟩
abbrev cX12_sum : ByteArray := prog_14_method_33_code
def yX12_sum : MethodName := ⟨RX12, "sum", "(II)I"⟩
abbrev cX12_finger : ByteArray := prog_14_method_34_code
def yX12_finger : MethodName := ⟨RX12, "finger", "(III)I"⟩
abbrev cX12_ask : ByteArray := prog_14_method_35_code
def yX12_ask : MethodName := ⟨RX12, "ask", "(I)I"⟩
abbrev cX12_tellKey : ByteArray := prog_14_method_36_code
def yX12_tellKey : MethodName := ⟨RX12, "tellKey", "(II)I"⟩
abbrev cX12_key : ByteArray := prog_14_method_37_code
def yX12_key : MethodName := ⟨RX12, "key", "(II)I"⟩
abbrev cX12_inLane : ByteArray := prog_14_method_38_code
def yX12_inLane : MethodName := ⟨RX12, "inLane", "(I)I"⟩
abbrev cX12_widest : ByteArray := prog_14_method_39_code
def yX12_widest : MethodName := ⟨RX12, "widest", "(I)I"⟩
abbrev cX12_tellLane : ByteArray := prog_14_method_40_code
def yX12_tellLane : MethodName := ⟨RX12, "tellLane", "(II)I"⟩
abbrev cX12_lane : ByteArray := prog_14_method_41_code
def yX12_lane : MethodName := ⟨RX12, "lane", "(II)I"⟩
abbrev cX12_as : ByteArray := prog_14_method_42_code
def yX12_as : MethodName := ⟨RX12, "as", "(I)I"⟩
abbrev cX12_tapeAt : ByteArray := prog_14_method_43_code
def yX12_tapeAt : MethodName := ⟨RX12, "tapeAt", "(I)I"⟩
abbrev cX12_tape : ByteArray := prog_14_method_44_code
def yX12_tape : MethodName := ⟨RX12, "tape", "(I)I"⟩
abbrev cX12_placeOf : ByteArray := prog_14_method_45_code
def yX12_placeOf : MethodName := ⟨RX12, "placeOf", "(I)I"⟩
abbrev cX12_isThere : ByteArray := prog_14_method_46_code
def yX12_isThere : MethodName := ⟨RX12, "isThere", "(I)Z"⟩
abbrev cX12_moveUp : ByteArray := prog_14_method_47_code
def yX12_moveUp : MethodName := ⟨RX12, "moveUp", "(I)V"⟩
abbrev cX12_moveDown : ByteArray := prog_14_method_48_code
def yX12_moveDown : MethodName := ⟨RX12, "moveDown", "(I)V"⟩
abbrev cX12_put : ByteArray := prog_14_method_49_code
def yX12_put : MethodName := ⟨RX12, "put", "(III)I"⟩
abbrev cX12_remove : ByteArray := prog_14_method_50_code
def yX12_remove : MethodName := ⟨RX12, "remove", "(I)I"⟩
abbrev cX12_split : ByteArray := prog_14_method_51_code
def yX12_split : MethodName := ⟨RX12, "split", "(I)I"⟩
abbrev cX12_join : ByteArray := prog_14_method_52_code
def yX12_join : MethodName := ⟨RX12, "join", "()I"⟩
abbrev cX12_costOf : ByteArray := prog_14_method_53_code
def yX12_costOf : MethodName := ⟨RX12, "costOf", "()I"⟩
abbrev cX12_cost : ByteArray := prog_14_method_54_code
def yX12_cost : MethodName := ⟨RX12, "cost", "()I"⟩
abbrev cX12_linksOf : ByteArray := prog_14_method_55_code
def yX12_linksOf : MethodName := ⟨RX12, "linksOf", "()I"⟩
abbrev cX12_bestOf : ByteArray := prog_14_method_56_code
def yX12_bestOf : MethodName := ⟨RX12, "bestOf", "(II)I"⟩
abbrev cX12_best : ByteArray := prog_14_method_57_code
def yX12_best : MethodName := ⟨RX12, "best", "(II)I"⟩
abbrev cX12_changeOf : ByteArray := prog_14_method_58_code
def yX12_changeOf : MethodName := ⟨RX12, "changeOf", "(I)I"⟩
abbrev cX12_change : ByteArray := prog_14_method_59_code
def yX12_change : MethodName := ⟨RX12, "change", "(I)I"⟩
abbrev cX12_see : ByteArray := prog_14_method_60_code
def yX12_see : MethodName := ⟨RX12, "see", "(III)I"⟩
abbrev cX12_forget : ByteArray := prog_14_method_61_code
def yX12_forget : MethodName := ⟨RX12, "forget", "()I"⟩
abbrev cX12_looksIf : ByteArray := prog_14_method_62_code
def yX12_looksIf : MethodName := ⟨RX12, "looksIf", "(III)I"⟩
abbrev cX12_heightsOf : ByteArray := prog_14_method_63_code
def yX12_heightsOf : MethodName := ⟨RX12, "heightsOf", "(I)I"⟩
abbrev cX12_worstBy : ByteArray := prog_14_method_64_code
def yX12_worstBy : MethodName := ⟨RX12, "worstBy", "(III)I"⟩
abbrev cX12_tryOf : ByteArray := prog_14_method_65_code
def yX12_tryOf : MethodName := ⟨RX12, "tryOf", "(I)I"⟩
abbrev cX12_draw : ByteArray := prog_14_method_66_code
def yX12_draw : MethodName := ⟨RX12, "draw", "(I)I"⟩
abbrev cX12_rounds : ByteArray := prog_14_method_67_code
def yX12_rounds : MethodName := ⟨RX12, "rounds", "(III)I"⟩
abbrev cX12_image : ByteArray := prog_14_method_68_code
def yX12_image : MethodName := ⟨RX12, "image", "()I"⟩
abbrev cX12_restore : ByteArray := prog_14_method_69_code
def yX12_restore : MethodName := ⟨RX12, "restore", "()I"⟩
abbrev cX12_sumOf : ByteArray := prog_14_method_70_code
def yX12_sumOf : MethodName := ⟨RX12, "sumOf", "([I)I"⟩
abbrev cX12_countOf : ByteArray := prog_14_method_71_code
def yX12_countOf : MethodName := ⟨RX12, "countOf", "(I)I"⟩
abbrev cX12_count : ByteArray := prog_14_method_72_code
def yX12_count : MethodName := ⟨RX12, "count", "(I)I"⟩
abbrev cX12_say : ByteArray := prog_14_method_73_code
def yX12_say : MethodName := ⟨RX12, "say", "(J)V"⟩
abbrev cX12_sayKey : ByteArray := prog_14_method_74_code
def yX12_sayKey : MethodName := ⟨RX12, "sayKey", "(I)V"⟩
abbrev cX12_sayRow : ByteArray := prog_14_method_75_code
def yX12_sayRow : MethodName := ⟨RX12, "sayRow", "()V"⟩
abbrev cX12_digest : ByteArray := prog_14_method_76_code
def yX12_digest : MethodName := ⟨RX12, "digest", "()J"⟩
def RJ9 : String := "java/lang/Math"
def TJ9 : u_T := fun k => match k with
  | _ => ("", "", "", false)
def tyJ9 : Nat → FieldType := fun k => match k with
  | _ => .int
abbrev wsJ90 : List Cond := u_ws RJ9 TJ9 0
theorem nmJ9 : ∀ a, a < 0 → ∀ b, b < 0 → a ≠ b → (TJ9 a).2.1 ≠ (TJ9 b).2.1 := by decide +kernel
theorem tyJ9_ok : ∀ k, k < 0 → parseFieldDescriptor (TJ9 k).2.2.1 = some (tyJ9 k) := by decide +kernel
abbrev cJ9_max_7cf53 : ByteArray := prog_15_method_65_code
def yJ9_max_7cf53 : MethodName := ⟨RJ9, "max", "(II)I"⟩
def RL : String := "LaneRowLaw"
abbrev cL_law : ByteArray := code
def yL_law : MethodName := ⟨RL, "law", "([I)Z"⟩
end
section
/-! contracts in one form over one list of words, calls and ends in one row each -/
def lw_g : List Cond := lw_tbl.filter goodWord
theorem wk_g {w : Cond} (i : Nat) (h : lw_tbl[i]? = some w) (h2 : goodWord w = true) : w ∈ lw_g := List.mem_filter.mpr ⟨List.mem_of_getElem? h, h2⟩
theorem wk_hts {args : Array Value} {s : State} (h : ∀ w ∈ lw_tbl, w.before args s = true) : ∀ w ∈ lw_g, w.before args s = true := fun w hw => h w (List.mem_filter.mp hw).1
def lw_c (y : MethodName) (cc : ByteArray) (maxL : Nat) (ret : Option FieldType) : List Cond := Cond.code y cc maxL ret :: lw_g
theorem wk_good {y : MethodName} {cc : ByteArray} {maxL : Nat} {ret : Option FieldType} (h : Cond.code y cc maxL ret ∈ lw_g) : GoodIn lw_g (lw_c y cc maxL ret) := by
  have key : ∀ w ∈ lw_g, w ∈ lw_g ∧ ((w.onTables && w.keeps) = true ∨ ∃ ty, w = .arrayClass ty) := fun w hw => ⟨hw, good_of_word (List.mem_filter.mp hw).2⟩
  intro w hw
  rcases List.mem_cons.mp hw with e | h1
  · rw [e]; exact key _ h
  · exact key w h1
abbrev classes : List vw_C := [(RX0, TX0, 0), (RX1, TX1, 0), (RX2, TX2, 6), (RX3, TX3, 0), (RX4, TX4, 4), (RX5, TX5, 0), (RX6, TX6, 2), (RX7, TX7, 0), (RX8, TX8, 5), (RX9, TX9, 8), (RX10, TX10, 3), (RX11, TX11, 10), (RX12, TX12, 44)]
def wk_Pre (D : va_G) (cy : ClassId) (wc : va_W) (sz : Nat) (U : State) : Prop := U.heap.size = sz ∧ va_P D classes wc U.heap ∧ va_K D classes [(cy, .int)] U ∧ va_D (fun _ => True) wc
def wk_Post (D : va_G) (cy : ClassId) (A : Nat → Prop) (w : va_W) (t : State) : Prop := va_P D classes w t.heap ∧ va_K D classes [(cy, .int)] t ∧ va_D A w
def wk_Ci (l : Launch) (y : MethodName) (cc : ByteArray) (maxL : Nat) (ret : Option FieldType) (rm : Room) (D : va_G) (cy : ClassId) (As : List Value) (wc : va_W) (mc ms : Nat) {S : Type} (post : Int32 → S → Prop) (w1 : S → va_W) : Prop :=
  ∀ sz : Nat, Met l y (lw_c y cc maxL ret) rm (va_Pc As (wk_Pre D cy wc sz)) (va_Qi post (fun u t => wk_Post D cy (va_A wc sz) (w1 u) t) (va_A wc sz)) mc ms (va_A wc sz)
def wk_Cl (l : Launch) (y : MethodName) (cc : ByteArray) (maxL : Nat) (ret : Option FieldType) (rm : Room) (D : va_G) (cy : ClassId) (As : List Value) (wc : va_W) (mc ms : Nat) {S : Type} (post : Int64 → S → Prop) (w1 : S → va_W) : Prop :=
  ∀ sz : Nat, Met l y (lw_c y cc maxL ret) rm (va_Pc As (wk_Pre D cy wc sz)) (va_Ql post (fun u t => wk_Post D cy (va_A wc sz) (w1 u) t) (va_A wc sz)) mc ms (va_A wc sz)
def wk_Cv (l : Launch) (y : MethodName) (cc : ByteArray) (maxL : Nat) (ret : Option FieldType) (rm : Room) (D : va_G) (cy : ClassId) (As : List Value) (wc : va_W) (mc ms : Nat) {S : Type} (post : S → Prop) (w1 : S → va_W) : Prop :=
  ∀ sz : Nat, Met l y (lw_c y cc maxL ret) rm (va_Pc As (wk_Pre D cy wc sz)) (va_Qv post (fun u t => wk_Post D cy (va_A wc sz) (w1 u) t) (va_A wc sz)) mc ms (va_A wc sz)
/-- what a method's body stands on -/
def wk_B (p : Program) (s : State) (m : MethodId) (args : Array Value) (meth : Method) (c : Code) (cc : ByteArray) (maxL : Nat) (ret : Option FieldType) (own nm : String) : Prop :=
  p.tables.exec = Jvm.exec ∧ c.code = cc ∧ meth.sig.returnType = ret ∧ meth.locks = false ∧ c.maxLocals = maxL ∧ s.vm.findClass own = some m.cls ∧ (∀ w ∈ lw_g, w.before args s = true) ∧ meth.name = nm
section WKA
variable {l : Launch} {y : MethodName} {rm : Room} {D : va_G} {cy : ClassId} {As : List Value} {wc : va_W} {mc ms : Nat} {cc : ByteArray} {maxL : Nat} {ret : Option FieldType}
theorem wk_mk {Qc : (Nat → Prop) → Array Value → State → Outcome → State → Prop} (hy : plainName y.cls = true) (hlen : (lg_sl As).length ≤ maxL)
    (body : ∀ (p : Program) (e : Env) (s : State) (m : MethodId) (below : List Frame) (meth : Method) (c : Code) (A : Nat → Prop) (ls : Array Slot), wk_B p s m As.toArray meth c cc maxL ret y.cls y.name → (∀ q : Nat, s.heap.size ≤ q → A q) → va_K D classes [(cy, .int)] s → va_P D classes wc s.heap → va_D A wc → va_S A s.heap s.heap [] → lv_has ls maxL (lv_args 0 As) →
      W p l e rm s m As.toArray below meth c s.heap [] 0 0 (MQ below (Qc A) As.toArray s mc ms A) (F0 m 0 ls [])) :
    ∀ sz : Nat, Met l y (lw_c y cc maxL ret) rm (va_Pc As (wk_Pre D cy wc sz)) (Qc (va_A wc sz)) mc ms (va_A wc sz) := by
  intro sz
  refine Met.ofW (cc := cc) (maxL := maxL) (ret := ret) hy rfl ?_
  intro p e s m args below meth c s₁ B hml hv
  obtain ⟨rfl, hsz, hP, hK, hD0⟩ := hv
  subst hsz
  have hD := hD0.self (sz := s.heap.size)
  have hl := lv_entry As (n := maxL) hlen
  rw [lg_entry_eq]
  exact body p e s m below meth c _ _ ⟨B.exec, B.bytes, B.returns, B.notSynchronized, hml, findClass_of_methodNamed B.named, fun w h => atoms_spec (ws := lw_c y cc maxL ret) B.pre w (List.mem_cons_of_mem _ h), (name_of_methodNamed B.named B.method).1⟩ (fun q h => Or.inr h) hK hP hD va_S.rf hl
theorem wk_mkCi {S : Type} {post : Int32 → S → Prop} {w1 : S → va_W} (hy : plainName y.cls = true) (hlen : (lg_sl As).length ≤ maxL)
    (body : ∀ (p : Program) (e : Env) (s : State) (m : MethodId) (below : List Frame) (meth : Method) (c : Code) (A : Nat → Prop) (ls : Array Slot), wk_B p s m As.toArray meth c cc maxL ret y.cls y.name → (∀ q : Nat, s.heap.size ≤ q → A q) → va_K D classes [(cy, .int)] s → va_P D classes wc s.heap → va_D A wc → va_S A s.heap s.heap [] → lv_has ls maxL (lv_args 0 As) →
      W p l e rm s m As.toArray below meth c s.heap [] 0 0 (MQ below (va_Qi post (fun u t => wk_Post D cy A (w1 u) t) A) As.toArray s mc ms A) (F0 m 0 ls [])) :
    wk_Ci l y cc maxL ret rm D cy As wc mc ms post w1 := wk_mk (Qc := fun A => va_Qi post (fun u t => wk_Post D cy A (w1 u) t) A) hy hlen body
theorem wk_mkCl {S : Type} {post : Int64 → S → Prop} {w1 : S → va_W} (hy : plainName y.cls = true) (hlen : (lg_sl As).length ≤ maxL)
    (body : ∀ (p : Program) (e : Env) (s : State) (m : MethodId) (below : List Frame) (meth : Method) (c : Code) (A : Nat → Prop) (ls : Array Slot), wk_B p s m As.toArray meth c cc maxL ret y.cls y.name → (∀ q : Nat, s.heap.size ≤ q → A q) → va_K D classes [(cy, .int)] s → va_P D classes wc s.heap → va_D A wc → va_S A s.heap s.heap [] → lv_has ls maxL (lv_args 0 As) →
      W p l e rm s m As.toArray below meth c s.heap [] 0 0 (MQ below (va_Ql post (fun u t => wk_Post D cy A (w1 u) t) A) As.toArray s mc ms A) (F0 m 0 ls [])) :
    wk_Cl l y cc maxL ret rm D cy As wc mc ms post w1 := wk_mk (Qc := fun A => va_Ql post (fun u t => wk_Post D cy A (w1 u) t) A) hy hlen body
theorem wk_mkCv {S : Type} {post : S → Prop} {w1 : S → va_W} (hy : plainName y.cls = true) (hlen : (lg_sl As).length ≤ maxL)
    (body : ∀ (p : Program) (e : Env) (s : State) (m : MethodId) (below : List Frame) (meth : Method) (c : Code) (A : Nat → Prop) (ls : Array Slot), wk_B p s m As.toArray meth c cc maxL ret y.cls y.name → (∀ q : Nat, s.heap.size ≤ q → A q) → va_K D classes [(cy, .int)] s → va_P D classes wc s.heap → va_D A wc → va_S A s.heap s.heap [] → lv_has ls maxL (lv_args 0 As) →
      W p l e rm s m As.toArray below meth c s.heap [] 0 0 (MQ below (va_Qv post (fun u t => wk_Post D cy A (w1 u) t) A) As.toArray s mc ms A) (F0 m 0 ls [])) :
    wk_Cv l y cc maxL ret rm D cy As wc mc ms post w1 := wk_mk (Qc := fun A => va_Qv post (fun u t => wk_Post D cy A (w1 u) t) A) hy hlen body
end WKA
section WKB
variable {p : Program} {l : Launch} {e : Env} {R : Room} {s : State} {m : MethodId} {args : Array Value} {below : List Frame} {meth : Method} {c : Code} {H : Heap} {locs : List Loc} {cells slots : Nat} {Q : State → Prop}
variable {cc : ByteArray} {pc : Nat} {ls : Array Slot} {rest : List Value} {A : Nat → Prop} {a : Nat} {ws : va_W} {H0 : Heap} {D : va_G} {cy : ClassId}
theorem wk_toi {x y : Int32} (h : x = y) (k : W p l e R s m args below meth c H locs cells slots Q (F0 m pc ls (.int y :: rest))) : W p l e R s m args below meth c H locs cells slots Q (F0 m pc ls (.int x :: rest)) := h ▸ k
theorem wk_tol {x y : Int64} (h : x = y) (k : W p l e R s m args below meth c H locs cells slots Q (F0 m pc ls (.long y :: rest))) : W p l e R s m args below meth c H locs cells slots Q (F0 m pc ls (.long x :: rest)) := h ▸ k
/-- a new row of ints, of the class that is known -/
theorem wk_newa (hexec : p.tables.exec = Jvm.exec) (hb : c.code = cc) (harr : (Cond.arrayClass .int).before args s = true) (hK : va_K D classes [(cy, .int)] s) (hP : va_P D classes ws H) (hD : va_D A ws) (hS : va_S A H0 H locs) (hA : ∀ q, H0.size ≤ q → A q)
    {n : Int32} (N' : Nat) (hn : ¬ n < 0) (hN : n.toNatClampNeg = N') (hbytes : N' * componentBytes .int ≤ 536870912) (hcells : cells + 1 ≤ R.cells) (hslots : slots + N' ≤ R.slots) (hdg : decode cc pc = .ok (.newarray .int, 2))
    (kk : ∀ (q : Nat) (H1 : Heap), va_P D classes (ws ++ [(q, .inl (cy, N', .inl (fun _ => 0)))]) H1 → va_D A (ws ++ [(q, .inl (cy, N', .inl (fun _ => 0)))]) → va_S A H0 H1 locs →
      W p l e R s m args below meth c H1 locs (cells + 1) (slots + N') Q (F0 m (pc + 2) ls (.ref q :: rest))) : W p l e R s m args below meth c H locs cells slots Q (F0 m pc ls (.int n :: rest)) := by
  refine va_newa (atype := .int) (ty := .int) (a0 := (N', .inl (fun _ => 0))) hexec hb harr rfl hK hP hD hS hA (fun _ => rfl) hn hN hbytes hcells hslots hdg (fun q cA H1 hK1 hP1 hD1 hS1 => ?_)
  have h1 : s.vm.findClass ("[" ++ (FieldType.int).toString) = some cy := (hK.2 0 (cy, .int) rfl).2
  have h2 : s.vm.findClass ("[" ++ (FieldType.int).toString) = some cA := (hK1.2 1 (cA, .int) rfl).2
  have e1 : cA = cy := Option.some.inj (h2.symm.trans h1)
  subst e1
  exact kk q H1 hP1 hD1 hS1
theorem wk_sub9 {is : List Nat} {w1 : va_W} (hP : va_P D classes ws H) (hs : is.map (fun i => ws[i]?) = w1.map some) : va_P D classes w1 H := by
  intro k q hk
  have h1 : (is.map (fun i => ws[i]?))[k]? = some (some q) := by rw [hs, List.getElem?_map, hk]; rfl
  rw [List.getElem?_map] at h1
  cases hi : is[k]? with
  | none => rw [hi] at h1; cases h1
  | some i => rw [hi] at h1; exact hP i q (Option.some.inj h1)
/-! ends -/
theorem wk_zret {S : Type} {post : Int32 → S → Prop} {w1 : S → va_W} {v : Int32} {ty : FieldType} (u : S) (hx : p.tables.exec = Jvm.exec) (hb : c.code = cc) (hr : meth.sig.returnType = some ty) (hlocks : meth.locks = false) (hn : narrow ty (.int v) = .int v) (hp : post v u) (hK : va_K D classes [(cy, .int)] s) (hP : va_P D classes ws H) (hD : va_D A ws) (hS : va_S A s.heap H locs)
    (is : List Nat) (hnd : va_nd is = true) (hs : is.map (fun i => ws[i]?) = (w1 u).map some) (hdg : decode cc pc = .ok (.ireturn, 1)) :
    W p l e R s m args below meth c H locs cells slots (MQ below (va_Qi post (fun u t => wk_Post D cy A (w1 u) t) A) args s cells slots A) (F0 m pc ls [.int v]) := by
  have hD9 := hD.sub is hnd hs
  have hP9 := wk_sub9 hP hs
  exact W.zret (v := v) hx hb hr hn (fun t ht hW => ⟨⟨v, u, rfl, hp, by rw [ht]; exact hP9, va_K.moved hW.alike hK, hD9⟩, hS.F ht⟩) hS.2.2 hdg hlocks
theorem wk_iret {S : Type} {post : Int32 → S → Prop} {w1 : S → va_W} {v : Int32} (u : S) (hx : p.tables.exec = Jvm.exec) (hb : c.code = cc) (hr : meth.sig.returnType = some .int) (hlocks : meth.locks = false) (hp : post v u) (hK : va_K D classes [(cy, .int)] s) (hP : va_P D classes ws H) (hD : va_D A ws) (hS : va_S A s.heap H locs)
    (is : List Nat) (hnd : va_nd is = true) (hs : is.map (fun i => ws[i]?) = (w1 u).map some) (hdg : decode cc pc = .ok (.ireturn, 1)) :
    W p l e R s m args below meth c H locs cells slots (MQ below (va_Qi post (fun u t => wk_Post D cy A (w1 u) t) A) args s cells slots A) (F0 m pc ls [.int v]) := by
  have hD9 := hD.sub is hnd hs
  have hP9 := wk_sub9 hP hs
  exact W.zret (v := v) hx hb hr rfl (fun t ht hW => ⟨⟨v, u, rfl, hp, by rw [ht]; exact hP9, va_K.moved hW.alike hK, hD9⟩, hS.F ht⟩) hS.2.2 hdg hlocks
theorem wk_lret {S : Type} {post : Int64 → S → Prop} {w1 : S → va_W} {v : Int64} (u : S) (hx : p.tables.exec = Jvm.exec) (hb : c.code = cc) (hr : meth.sig.returnType = some .long) (hlocks : meth.locks = false) (hp : post v u) (hK : va_K D classes [(cy, .int)] s) (hP : va_P D classes ws H) (hD : va_D A ws) (hS : va_S A s.heap H locs)
    (is : List Nat) (hnd : va_nd is = true) (hs : is.map (fun i => ws[i]?) = (w1 u).map some) (hdg : decode cc pc = .ok (.lreturn, 1)) :
    W p l e R s m args below meth c H locs cells slots (MQ below (va_Ql post (fun u t => wk_Post D cy A (w1 u) t) A) args s cells slots A) (F0 m pc ls [.long v]) := by
  have hD9 := hD.sub is hnd hs
  have hP9 := wk_sub9 hP hs
  exact W.lret (v := v) hx hb hr (fun t ht hW => ⟨⟨v, u, rfl, hp, by rw [ht]; exact hP9, va_K.moved hW.alike hK, hD9⟩, hS.F ht⟩) hS.2.2 hdg hlocks
theorem wk_vret {S : Type} {post : S → Prop} {w1 : S → va_W} (u : S) (hx : p.tables.exec = Jvm.exec) (hb : c.code = cc) (hr : meth.sig.returnType = none) (hlocks : meth.locks = false) (hp : post u) (hK : va_K D classes [(cy, .int)] s) (hP : va_P D classes ws H) (hD : va_D A ws) (hS : va_S A s.heap H locs)
    (is : List Nat) (hnd : va_nd is = true) (hs : is.map (fun i => ws[i]?) = (w1 u).map some) (hdg : decode cc pc = .ok (.return_, 1)) :
    W p l e R s m args below meth c H locs cells slots (MQ below (va_Qv post (fun u t => wk_Post D cy A (w1 u) t) A) args s cells slots A) (F0 m pc ls []) := by
  have hD9 := hD.sub is hnd hs
  have hP9 := wk_sub9 hP hs
  exact W.vret hx hb hr (fun t ht hW => ⟨⟨u, rfl, hp, by rw [ht]; exact hP9, va_K.moved hW.alike hK, hD9⟩, hS.F ht⟩) hS.2.2 hdg hlocks
/-! calls -/
variable {y : MethodName} {bytes : ByteArray} {maxL nL mc ms n index : Nat} {ret : Option FieldType} {rm : Room} {own : String} {b : Addr} {As st0 : List Value} {wc wr : va_W}
theorem wk_blind {sz : Nat} {av : List Value} : ∀ (a : Array Value) (U : State) (g : JFrame) (mk : MethodId), va_Pc av (wk_Pre D cy wc sz) a U → va_Pc av (wk_Pre D cy wc sz) a (U.calling g mk a) := fun a U g mk q => by
  obtain ⟨q0, q1, qP, qK, qD⟩ := q
  exact ⟨q0, q1, qP, va_K.moved (u := U) (U := U.calling g mk a) (Vm.Alike.refl U.vm) qK, qD⟩
theorem wk_pre {isC : List Nat} {av : List Value} (hK : va_K D classes [(cy, .int)] s) (hP : va_P D classes ws H) (hD : va_D A ws) (hnC : va_nd isC = true) (hC : isC.map (fun i => ws[i]?) = wc.map some) : ∀ U : State, U.heap = H → s.WarmedH U.vm → va_Pc av (wk_Pre D cy wc H.size) av.toArray U := fun U hU hW =>
  ⟨rfl, by rw [hU], by rw [hU]; exact wk_sub9 hP hC, va_K.moved hW.alike hK, (hD.sub isC hnC hC).weaken (fun _ _ _ _ => trivial)⟩
theorem wk_iV {S : Type} {post : Int32 → S → Prop} {w1 : S → va_W} (F : CallFix p m c cc nL s args lw_g own) (hM : wk_Ci l y bytes maxL ret rm D cy (.ref b :: As) wc mc ms post w1) (hco : Cond.code y bytes maxL ret ∈ lw_g) (hl : Cond.methodLink own index y ∈ lw_g) (hin : Cond.instanceMethod y ∈ lw_g) (hse : Cond.selects y.cls y y ∈ lw_g) (hini : Cond.initialized y.cls ∈ lw_g)
    (hrc : rm.cells = mc) (hrs : rm.slots = ms) (hd : y.cls ≠ "java/lang/invoke/MethodHandle" ∧ y.cls ≠ "java/lang/invoke/VarHandle" ∧ (parseMethodDescriptor y.desc).map (fun d => d.parameters.length) = some n) (hR : rm.frames + 1 ≤ R.frames ∧ 8 + (maxL + 11) + rm.locals ≤ R.locals)
    (hK : va_K D classes [(cy, .int)] s) (hP : va_P D classes ws H) (hD : va_D A ws) (hS : va_S A H0 H locs) (hA : ∀ q, H0.size ≤ q → A q) (isC isR : List Nat) (hC : isC.map (fun i => ws[i]?) = wc.map some) (hR2 : isR.map (fun i => ws[i]?) = wr.map some) (hnC : va_nd isC = true) (hnR : va_nd isR = true) (hdis : ∀ i ∈ isR, i ∉ isC)
    (q0 : Nat) {ci : Nat} {T : u_T} {N : Nat} {fs : List Value} (hc : classes[ci]? = some (y.cls, T, N)) (he : wc[q0]? = some (b, .inr (ci, fs))) (hn : As.length = n) (hsize : ls.size = nL) (hstack : st0 = As.reverse ++ .ref b :: rest) (hW : (rest.map fun v => v.category).sum ≤ 8) (hdg : decode cc pc = .ok (.invokevirtual index, 3)) (hf : cells + mc ≤ R.cells ∧ slots + ms ≤ R.slots)
    (kk : ∀ (r : Int32) (u : S) (H1 : Heap) (locs1 : List Loc), post r u → va_P D classes (wr ++ w1 u) H1 → va_D A (wr ++ w1 u) → va_S A H0 H1 locs1 → W p l e R s m args below meth c H1 locs1 (cells + mc) (slots + ms) Q (F0 m (pc + 3) ls (.int r :: rest))) : W p l e R s m args below meth c H locs cells slots Q (F0 m pc ls st0) := by
  have hFc := va_free (wc := wc) hD hS hA isC hC
  refine va_calli (va_runV (As := As) (rest := rest) F (hM H.size) ⟨callB_of n F.2.2.2.2 (wk_good hco) rfl hrc hrs (F.2.2.2.2 _ hini) (F.2.2.2.2 _ hl) hd hR, F.2.2.2.2 _ hin, F.2.2.2.2 _ hse⟩ ⟨wk_blind, va_recv hK (wk_sub9 hP hC) hc he, wk_pre (av := .ref b :: As) hK hP hD hnC hC⟩ rfl hn hsize hstack (lv_room hW) hdg hf) hS (fun q _ h => hFc q h) hFc (fun r u t H1 locs1 ht hvm hw hB hz1 hk1 hS1 => ?_)
  obtain ⟨hP1, hK1, hD1⟩ := hB
  rw [ht] at hP1
  obtain ⟨hP2, hD2⟩ := va_join hP hD isC isR hC hR2 hnR hdis hk1 hFc hP1 hD1
  exact kk r u H1 locs1 hw hP2 hD2 hS1
theorem wk_iS {S : Type} {post : Int32 → S → Prop} {w1 : S → va_W} (F : CallFix p m c cc nL s args lw_g own) (hM : wk_Ci l y bytes maxL ret rm D cy As wc mc ms post w1) (hco : Cond.code y bytes maxL ret ∈ lw_g) (hl : Cond.methodLink own index y ∈ lw_g) (hst : Cond.static y ∈ lw_g) (hini : Cond.initialized y.cls ∈ lw_g)
    (hrc : rm.cells = mc) (hrs : rm.slots = ms) (hd : y.cls ≠ "java/lang/invoke/MethodHandle" ∧ y.cls ≠ "java/lang/invoke/VarHandle" ∧ (parseMethodDescriptor y.desc).map (fun d => d.parameters.length) = some n) (hR : rm.frames + 1 ≤ R.frames ∧ 8 + (maxL + 11) + rm.locals ≤ R.locals)
    (hK : va_K D classes [(cy, .int)] s) (hP : va_P D classes ws H) (hD : va_D A ws) (hS : va_S A H0 H locs) (hA : ∀ q, H0.size ≤ q → A q) (isC isR : List Nat) (hC : isC.map (fun i => ws[i]?) = wc.map some) (hR2 : isR.map (fun i => ws[i]?) = wr.map some) (hnC : va_nd isC = true) (hnR : va_nd isR = true) (hdis : ∀ i ∈ isR, i ∉ isC)
     (hn : As.length = n) (hsize : ls.size = nL) (hstack : st0 = As.reverse ++ rest) (hW : (rest.map fun v => v.category).sum ≤ 8) (hdg : decode cc pc = .ok (.invokestatic index, 3)) (hf : cells + mc ≤ R.cells ∧ slots + ms ≤ R.slots)
    (kk : ∀ (r : Int32) (u : S) (H1 : Heap) (locs1 : List Loc), post r u → va_P D classes (wr ++ w1 u) H1 → va_D A (wr ++ w1 u) → va_S A H0 H1 locs1 → W p l e R s m args below meth c H1 locs1 (cells + mc) (slots + ms) Q (F0 m (pc + 3) ls (.int r :: rest))) : W p l e R s m args below meth c H locs cells slots Q (F0 m pc ls st0) := by
  have hFc := va_free (wc := wc) hD hS hA isC hC
  refine va_calli (va_runS (As := As) (rest := rest) F (hM H.size) ⟨callB_of n F.2.2.2.2 (wk_good hco) rfl hrc hrs (F.2.2.2.2 _ hini) (F.2.2.2.2 _ hl) hd hR, F.2.2.2.2 _ hst⟩ ⟨wk_blind, wk_pre (av := As) hK hP hD hnC hC⟩ rfl hn hsize hstack (lv_room hW) hdg hf) hS (fun q _ h => hFc q h) hFc (fun r u t H1 locs1 ht hvm hw hB hz1 hk1 hS1 => ?_)
  obtain ⟨hP1, hK1, hD1⟩ := hB
  rw [ht] at hP1
  obtain ⟨hP2, hD2⟩ := va_join hP hD isC isR hC hR2 hnR hdis hk1 hFc hP1 hD1
  exact kk r u H1 locs1 hw hP2 hD2 hS1
theorem wk_lV {S : Type} {post : Int64 → S → Prop} {w1 : S → va_W} (F : CallFix p m c cc nL s args lw_g own) (hM : wk_Cl l y bytes maxL ret rm D cy (.ref b :: As) wc mc ms post w1) (hco : Cond.code y bytes maxL ret ∈ lw_g) (hl : Cond.methodLink own index y ∈ lw_g) (hin : Cond.instanceMethod y ∈ lw_g) (hse : Cond.selects y.cls y y ∈ lw_g) (hini : Cond.initialized y.cls ∈ lw_g)
    (hrc : rm.cells = mc) (hrs : rm.slots = ms) (hd : y.cls ≠ "java/lang/invoke/MethodHandle" ∧ y.cls ≠ "java/lang/invoke/VarHandle" ∧ (parseMethodDescriptor y.desc).map (fun d => d.parameters.length) = some n) (hR : rm.frames + 1 ≤ R.frames ∧ 8 + (maxL + 11) + rm.locals ≤ R.locals)
    (hK : va_K D classes [(cy, .int)] s) (hP : va_P D classes ws H) (hD : va_D A ws) (hS : va_S A H0 H locs) (hA : ∀ q, H0.size ≤ q → A q) (isC isR : List Nat) (hC : isC.map (fun i => ws[i]?) = wc.map some) (hR2 : isR.map (fun i => ws[i]?) = wr.map some) (hnC : va_nd isC = true) (hnR : va_nd isR = true) (hdis : ∀ i ∈ isR, i ∉ isC)
    (q0 : Nat) {ci : Nat} {T : u_T} {N : Nat} {fs : List Value} (hc : classes[ci]? = some (y.cls, T, N)) (he : wc[q0]? = some (b, .inr (ci, fs))) (hn : As.length = n) (hsize : ls.size = nL) (hstack : st0 = As.reverse ++ .ref b :: rest) (hW : (rest.map fun v => v.category).sum ≤ 8) (hdg : decode cc pc = .ok (.invokevirtual index, 3)) (hf : cells + mc ≤ R.cells ∧ slots + ms ≤ R.slots)
    (kk : ∀ (r : Int64) (u : S) (H1 : Heap) (locs1 : List Loc), post r u → va_P D classes (wr ++ w1 u) H1 → va_D A (wr ++ w1 u) → va_S A H0 H1 locs1 → W p l e R s m args below meth c H1 locs1 (cells + mc) (slots + ms) Q (F0 m (pc + 3) ls (.long r :: rest))) : W p l e R s m args below meth c H locs cells slots Q (F0 m pc ls st0) := by
  have hFc := va_free (wc := wc) hD hS hA isC hC
  refine va_calll (va_runV (As := As) (rest := rest) F (hM H.size) ⟨callB_of n F.2.2.2.2 (wk_good hco) rfl hrc hrs (F.2.2.2.2 _ hini) (F.2.2.2.2 _ hl) hd hR, F.2.2.2.2 _ hin, F.2.2.2.2 _ hse⟩ ⟨wk_blind, va_recv hK (wk_sub9 hP hC) hc he, wk_pre (av := .ref b :: As) hK hP hD hnC hC⟩ rfl hn hsize hstack (lv_room hW) hdg hf) hS (fun q _ h => hFc q h) hFc (fun r u t H1 locs1 ht hvm hw hB hz1 hk1 hS1 => ?_)
  obtain ⟨hP1, hK1, hD1⟩ := hB
  rw [ht] at hP1
  obtain ⟨hP2, hD2⟩ := va_join hP hD isC isR hC hR2 hnR hdis hk1 hFc hP1 hD1
  exact kk r u H1 locs1 hw hP2 hD2 hS1
theorem wk_lS {S : Type} {post : Int64 → S → Prop} {w1 : S → va_W} (F : CallFix p m c cc nL s args lw_g own) (hM : wk_Cl l y bytes maxL ret rm D cy As wc mc ms post w1) (hco : Cond.code y bytes maxL ret ∈ lw_g) (hl : Cond.methodLink own index y ∈ lw_g) (hst : Cond.static y ∈ lw_g) (hini : Cond.initialized y.cls ∈ lw_g)
    (hrc : rm.cells = mc) (hrs : rm.slots = ms) (hd : y.cls ≠ "java/lang/invoke/MethodHandle" ∧ y.cls ≠ "java/lang/invoke/VarHandle" ∧ (parseMethodDescriptor y.desc).map (fun d => d.parameters.length) = some n) (hR : rm.frames + 1 ≤ R.frames ∧ 8 + (maxL + 11) + rm.locals ≤ R.locals)
    (hK : va_K D classes [(cy, .int)] s) (hP : va_P D classes ws H) (hD : va_D A ws) (hS : va_S A H0 H locs) (hA : ∀ q, H0.size ≤ q → A q) (isC isR : List Nat) (hC : isC.map (fun i => ws[i]?) = wc.map some) (hR2 : isR.map (fun i => ws[i]?) = wr.map some) (hnC : va_nd isC = true) (hnR : va_nd isR = true) (hdis : ∀ i ∈ isR, i ∉ isC)
     (hn : As.length = n) (hsize : ls.size = nL) (hstack : st0 = As.reverse ++ rest) (hW : (rest.map fun v => v.category).sum ≤ 8) (hdg : decode cc pc = .ok (.invokestatic index, 3)) (hf : cells + mc ≤ R.cells ∧ slots + ms ≤ R.slots)
    (kk : ∀ (r : Int64) (u : S) (H1 : Heap) (locs1 : List Loc), post r u → va_P D classes (wr ++ w1 u) H1 → va_D A (wr ++ w1 u) → va_S A H0 H1 locs1 → W p l e R s m args below meth c H1 locs1 (cells + mc) (slots + ms) Q (F0 m (pc + 3) ls (.long r :: rest))) : W p l e R s m args below meth c H locs cells slots Q (F0 m pc ls st0) := by
  have hFc := va_free (wc := wc) hD hS hA isC hC
  refine va_calll (va_runS (As := As) (rest := rest) F (hM H.size) ⟨callB_of n F.2.2.2.2 (wk_good hco) rfl hrc hrs (F.2.2.2.2 _ hini) (F.2.2.2.2 _ hl) hd hR, F.2.2.2.2 _ hst⟩ ⟨wk_blind, wk_pre (av := As) hK hP hD hnC hC⟩ rfl hn hsize hstack (lv_room hW) hdg hf) hS (fun q _ h => hFc q h) hFc (fun r u t H1 locs1 ht hvm hw hB hz1 hk1 hS1 => ?_)
  obtain ⟨hP1, hK1, hD1⟩ := hB
  rw [ht] at hP1
  obtain ⟨hP2, hD2⟩ := va_join hP hD isC isR hC hR2 hnR hdis hk1 hFc hP1 hD1
  exact kk r u H1 locs1 hw hP2 hD2 hS1
theorem wk_vV {S : Type} {post : S → Prop} {w1 : S → va_W} (F : CallFix p m c cc nL s args lw_g own) (hM : wk_Cv l y bytes maxL ret rm D cy (.ref b :: As) wc mc ms post w1) (hco : Cond.code y bytes maxL ret ∈ lw_g) (hl : Cond.methodLink own index y ∈ lw_g) (hin : Cond.instanceMethod y ∈ lw_g) (hse : Cond.selects y.cls y y ∈ lw_g) (hini : Cond.initialized y.cls ∈ lw_g)
    (hrc : rm.cells = mc) (hrs : rm.slots = ms) (hd : y.cls ≠ "java/lang/invoke/MethodHandle" ∧ y.cls ≠ "java/lang/invoke/VarHandle" ∧ (parseMethodDescriptor y.desc).map (fun d => d.parameters.length) = some n) (hR : rm.frames + 1 ≤ R.frames ∧ 8 + (maxL + 11) + rm.locals ≤ R.locals)
    (hK : va_K D classes [(cy, .int)] s) (hP : va_P D classes ws H) (hD : va_D A ws) (hS : va_S A H0 H locs) (hA : ∀ q, H0.size ≤ q → A q) (isC isR : List Nat) (hC : isC.map (fun i => ws[i]?) = wc.map some) (hR2 : isR.map (fun i => ws[i]?) = wr.map some) (hnC : va_nd isC = true) (hnR : va_nd isR = true) (hdis : ∀ i ∈ isR, i ∉ isC)
    (q0 : Nat) {ci : Nat} {T : u_T} {N : Nat} {fs : List Value} (hc : classes[ci]? = some (y.cls, T, N)) (he : wc[q0]? = some (b, .inr (ci, fs))) (hn : As.length = n) (hsize : ls.size = nL) (hstack : st0 = As.reverse ++ .ref b :: rest) (hW : (rest.map fun v => v.category).sum ≤ 8) (hdg : decode cc pc = .ok (.invokevirtual index, 3)) (hf : cells + mc ≤ R.cells ∧ slots + ms ≤ R.slots)
    (kk : ∀ (u : S) (H1 : Heap) (locs1 : List Loc), post u → va_P D classes (wr ++ w1 u) H1 → va_D A (wr ++ w1 u) → va_S A H0 H1 locs1 → W p l e R s m args below meth c H1 locs1 (cells + mc) (slots + ms) Q (F0 m (pc + 3) ls (rest))) : W p l e R s m args below meth c H locs cells slots Q (F0 m pc ls st0) := by
  have hFc := va_free (wc := wc) hD hS hA isC hC
  refine va_callv (va_runV (As := As) (rest := rest) F (hM H.size) ⟨callB_of n F.2.2.2.2 (wk_good hco) rfl hrc hrs (F.2.2.2.2 _ hini) (F.2.2.2.2 _ hl) hd hR, F.2.2.2.2 _ hin, F.2.2.2.2 _ hse⟩ ⟨wk_blind, va_recv hK (wk_sub9 hP hC) hc he, wk_pre (av := .ref b :: As) hK hP hD hnC hC⟩ rfl hn hsize hstack (lv_room hW) hdg hf) hS (fun q _ h => hFc q h) hFc (fun u t H1 locs1 ht hvm hw hB hz1 hk1 hS1 => ?_)
  obtain ⟨hP1, hK1, hD1⟩ := hB
  rw [ht] at hP1
  obtain ⟨hP2, hD2⟩ := va_join hP hD isC isR hC hR2 hnR hdis hk1 hFc hP1 hD1
  exact kk u H1 locs1 hw hP2 hD2 hS1
theorem wk_vS {S : Type} {post : S → Prop} {w1 : S → va_W} (F : CallFix p m c cc nL s args lw_g own) (hM : wk_Cv l y bytes maxL ret rm D cy As wc mc ms post w1) (hco : Cond.code y bytes maxL ret ∈ lw_g) (hl : Cond.methodLink own index y ∈ lw_g) (hst : Cond.static y ∈ lw_g) (hini : Cond.initialized y.cls ∈ lw_g)
    (hrc : rm.cells = mc) (hrs : rm.slots = ms) (hd : y.cls ≠ "java/lang/invoke/MethodHandle" ∧ y.cls ≠ "java/lang/invoke/VarHandle" ∧ (parseMethodDescriptor y.desc).map (fun d => d.parameters.length) = some n) (hR : rm.frames + 1 ≤ R.frames ∧ 8 + (maxL + 11) + rm.locals ≤ R.locals)
    (hK : va_K D classes [(cy, .int)] s) (hP : va_P D classes ws H) (hD : va_D A ws) (hS : va_S A H0 H locs) (hA : ∀ q, H0.size ≤ q → A q) (isC isR : List Nat) (hC : isC.map (fun i => ws[i]?) = wc.map some) (hR2 : isR.map (fun i => ws[i]?) = wr.map some) (hnC : va_nd isC = true) (hnR : va_nd isR = true) (hdis : ∀ i ∈ isR, i ∉ isC)
     (hn : As.length = n) (hsize : ls.size = nL) (hstack : st0 = As.reverse ++ rest) (hW : (rest.map fun v => v.category).sum ≤ 8) (hdg : decode cc pc = .ok (.invokestatic index, 3)) (hf : cells + mc ≤ R.cells ∧ slots + ms ≤ R.slots)
    (kk : ∀ (u : S) (H1 : Heap) (locs1 : List Loc), post u → va_P D classes (wr ++ w1 u) H1 → va_D A (wr ++ w1 u) → va_S A H0 H1 locs1 → W p l e R s m args below meth c H1 locs1 (cells + mc) (slots + ms) Q (F0 m (pc + 3) ls (rest))) : W p l e R s m args below meth c H locs cells slots Q (F0 m pc ls st0) := by
  have hFc := va_free (wc := wc) hD hS hA isC hC
  refine va_callv (va_runS (As := As) (rest := rest) F (hM H.size) ⟨callB_of n F.2.2.2.2 (wk_good hco) rfl hrc hrs (F.2.2.2.2 _ hini) (F.2.2.2.2 _ hl) hd hR, F.2.2.2.2 _ hst⟩ ⟨wk_blind, wk_pre (av := As) hK hP hD hnC hC⟩ rfl hn hsize hstack (lv_room hW) hdg hf) hS (fun q _ h => hFc q h) hFc (fun u t H1 locs1 ht hvm hw hB hz1 hk1 hS1 => ?_)
  obtain ⟨hP1, hK1, hD1⟩ := hB
  rw [ht] at hP1
  obtain ⟨hP2, hD2⟩ := va_join hP hD isC isR hC hR2 hnR hdis hk1 hFc hP1 hD1
  exact kk u H1 locs1 hw hP2 hD2 hS1
theorem wk_vI {S : Type} {post : S → Prop} {w1 : S → va_W} (F : CallFix p m c cc nL s args lw_g own) (hM : wk_Cv l y bytes maxL none rm D cy (.ref b :: As) wc mc ms post w1) (hco : Cond.code y bytes maxL none ∈ lw_g) (hl : Cond.methodLink own index y ∈ lw_g) (hin : Cond.instanceMethod y ∈ lw_g) (hini : Cond.initialized y.cls ∈ lw_g) (hy1 : y.name = "<init>")
    (hrc : rm.cells = mc) (hrs : rm.slots = ms) (hd : y.cls ≠ "java/lang/invoke/MethodHandle" ∧ y.cls ≠ "java/lang/invoke/VarHandle" ∧ (parseMethodDescriptor y.desc).map (fun d => d.parameters.length) = some n) (hR : rm.frames + 1 ≤ R.frames ∧ 8 + (maxL + 11) + rm.locals ≤ R.locals)
    (hK : va_K D classes [(cy, .int)] s) (hP : va_P D classes ws H) (hD : va_D A ws) (hS : va_S A H0 H locs) (hA : ∀ q, H0.size ≤ q → A q) (isC isR : List Nat) (hC : isC.map (fun i => ws[i]?) = wc.map some) (hR2 : isR.map (fun i => ws[i]?) = wr.map some) (hnC : va_nd isC = true) (hnR : va_nd isR = true) (hdis : ∀ i ∈ isR, i ∉ isC)
     (hn : As.length = n) (hsize : ls.size = nL) (hstack : st0 = As.reverse ++ .ref b :: rest) (hW : (rest.map fun v => v.category).sum ≤ 8) (hdg : decode cc pc = .ok (.invokespecial index, 3)) (hf : cells + mc ≤ R.cells ∧ slots + ms ≤ R.slots)
    (kk : ∀ (u : S) (H1 : Heap) (locs1 : List Loc), post u → va_P D classes (wr ++ w1 u) H1 → va_D A (wr ++ w1 u) → va_S A H0 H1 locs1 → W p l e R s m args below meth c H1 locs1 (cells + mc) (slots + ms) Q (F0 m (pc + 3) ls (rest))) : W p l e R s m args below meth c H locs cells slots Q (F0 m pc ls st0) := by
  have hFc := va_free (wc := wc) hD hS hA isC hC
  refine va_callv (va_runI (As := As) (rest := rest) F (hM H.size) ⟨callB_of n F.2.2.2.2 (wk_good hco) rfl hrc hrs (F.2.2.2.2 _ hini) (F.2.2.2.2 _ hl) hd hR, hy1, F.2.2.2.2 _ hin⟩ ⟨wk_blind, wk_pre (av := .ref b :: As) hK hP hD hnC hC⟩ rfl hn hsize hstack (lv_room hW) hdg hf) hS (fun q _ h => hFc q h) hFc (fun u t H1 locs1 ht hvm hw hB hz1 hk1 hS1 => ?_)
  obtain ⟨hP1, hK1, hD1⟩ := hB
  rw [ht] at hP1
  obtain ⟨hP2, hD2⟩ := va_join hP hD isC isR hC hR2 hnR hdis hk1 hFc hP1 hD1
  exact kk u H1 locs1 hw hP2 hD2 hS1
end WKB
/-! numbers -/
theorem wk_lt {a b : Int32} (h : a < b) : a.toInt < b.toInt := Int32.lt_iff_toInt_lt.mp h
theorem wk_nlt {a b : Int32} (h : ¬ a < b) : ¬ a.toInt < b.toInt := fun k => h (Int32.lt_iff_toInt_lt.mpr k)
theorem wk_le {a b : Int32} (h : a ≤ b) : a.toInt ≤ b.toInt := Int32.le_iff_toInt_le.mp h
theorem wk_nle {a b : Int32} (h : ¬ a ≤ b) : ¬ a.toInt ≤ b.toInt := fun k => h (Int32.le_iff_toInt_le.mpr k)
theorem wk_eq {a b : Int32} (h : a = b) : a.toInt = b.toInt := by rw [h]
theorem wk_neq {a b : Int32} (h : ¬ a = b) : ¬ a.toInt = b.toInt := fun k => h (Int32.toInt_inj.mp k)
def wk_in (v lo hi : Int64) : Int32 := if lo.toInt ≤ v.toInt ∧ v.toInt ≤ hi.toInt then 1 else 0
theorem wk_in0 {v lo hi : Int64} (h : wk_in v lo hi = 0) : ¬ (lo.toInt ≤ v.toInt ∧ v.toInt ≤ hi.toInt) := by
  intro k
  rw [wk_in, if_pos k] at h
  exact absurd h (by decide)
theorem wk_in1 {v lo hi : Int64} (h : ¬ wk_in v lo hi = 0) : lo.toInt ≤ v.toInt ∧ v.toInt ≤ hi.toInt := by
  unfold wk_in at h
  split at h
  · assumption
  · exact absurd rfl h
theorem wk_in_n (v lo hi : Int64) : narrow .boolean (.int (wk_in v lo hi)) = .int (wk_in v lo hi) := by
  unfold wk_in
  split <;> rfl
theorem wk_t0 {P : Prop} [Decidable P] (h : (if P then (0 : Int32) else 1) = 0) : P := by
  by_cases k : P
  · exact k
  · rw [if_neg k] at h; exact absurd h (by decide)
theorem wk_t1 {P : Prop} [Decidable P] (h : ¬ (if P then (0 : Int32) else 1) = 0) : ¬ P := fun k => h (if_pos k)
theorem wk_o0 {P : Prop} [Decidable P] (h : (if P then (1 : Int32) else 0) = 0) : ¬ P := by
  intro k
  rw [if_pos k] at h
  exact absurd h (by decide)
theorem wk_o1 {P : Prop} [Decidable P] (h : ¬ (if P then (1 : Int32) else 0) = 0) : P := by
  by_cases k : P
  · exact k
  · exact absurd (if_neg k) h
theorem wk_64 (a : Int32) : a.toInt64.toInt = a.toInt := Int32.toInt_toInt64 a
end
section
set_option maxRecDepth 20000 in
theorem inX0 : ∀ w ∈ u_ws RX0 TX0 0, w ∈ lw_g := fun _ h => absurd h List.not_mem_nil
set_option maxRecDepth 20000 in
theorem inX1 : ∀ w ∈ u_ws RX1 TX1 0, w ∈ lw_g := fun _ h => absurd h List.not_mem_nil
set_option maxRecDepth 20000 in
theorem inX2 : ∀ w ∈ u_ws RX2 TX2 6, w ∈ lw_g := List.forall_mem_cons.mpr ⟨wk_g 182 rfl rfl, List.forall_mem_cons.mpr ⟨wk_g 184 rfl rfl, List.forall_mem_cons.mpr ⟨wk_g 186 rfl rfl, List.forall_mem_cons.mpr ⟨wk_g 188 rfl rfl, List.forall_mem_cons.mpr ⟨wk_g 190 rfl rfl, List.forall_mem_cons.mpr ⟨wk_g 192 rfl rfl, fun _ h => absurd h List.not_mem_nil⟩⟩⟩⟩⟩⟩
set_option maxRecDepth 20000 in
theorem inX3 : ∀ w ∈ u_ws RX3 TX3 0, w ∈ lw_g := fun _ h => absurd h List.not_mem_nil
set_option maxRecDepth 20000 in
theorem inX4 : ∀ w ∈ u_ws RX4 TX4 4, w ∈ lw_g := List.forall_mem_cons.mpr ⟨wk_g 161 rfl rfl, List.forall_mem_cons.mpr ⟨wk_g 163 rfl rfl, List.forall_mem_cons.mpr ⟨wk_g 165 rfl rfl, List.forall_mem_cons.mpr ⟨wk_g 167 rfl rfl, fun _ h => absurd h List.not_mem_nil⟩⟩⟩⟩
set_option maxRecDepth 20000 in
theorem inX5 : ∀ w ∈ u_ws RX5 TX5 0, w ∈ lw_g := fun _ h => absurd h List.not_mem_nil
set_option maxRecDepth 20000 in
theorem inX6 : ∀ w ∈ u_ws RX6 TX6 2, w ∈ lw_g := List.forall_mem_cons.mpr ⟨wk_g 96 rfl rfl, List.forall_mem_cons.mpr ⟨wk_g 98 rfl rfl, fun _ h => absurd h List.not_mem_nil⟩⟩
set_option maxRecDepth 20000 in
theorem inX7 : ∀ w ∈ u_ws RX7 TX7 0, w ∈ lw_g := fun _ h => absurd h List.not_mem_nil
set_option maxRecDepth 20000 in
theorem inX8 : ∀ w ∈ u_ws RX8 TX8 5, w ∈ lw_g := List.forall_mem_cons.mpr ⟨wk_g 135 rfl rfl, List.forall_mem_cons.mpr ⟨wk_g 137 rfl rfl, List.forall_mem_cons.mpr ⟨wk_g 139 rfl rfl, List.forall_mem_cons.mpr ⟨wk_g 141 rfl rfl, List.forall_mem_cons.mpr ⟨wk_g 143 rfl rfl, fun _ h => absurd h List.not_mem_nil⟩⟩⟩⟩⟩
set_option maxRecDepth 20000 in
theorem inX9 : ∀ w ∈ u_ws RX9 TX9 8, w ∈ lw_g := List.forall_mem_cons.mpr ⟨wk_g 235 rfl rfl, List.forall_mem_cons.mpr ⟨wk_g 237 rfl rfl, List.forall_mem_cons.mpr ⟨wk_g 239 rfl rfl, List.forall_mem_cons.mpr ⟨wk_g 241 rfl rfl, List.forall_mem_cons.mpr ⟨wk_g 243 rfl rfl, List.forall_mem_cons.mpr ⟨wk_g 245 rfl rfl, List.forall_mem_cons.mpr ⟨wk_g 247 rfl rfl, List.forall_mem_cons.mpr ⟨wk_g 249 rfl rfl, fun _ h => absurd h List.not_mem_nil⟩⟩⟩⟩⟩⟩⟩⟩
set_option maxRecDepth 20000 in
theorem inX10 : ∀ w ∈ u_ws RX10 TX10 3, w ∈ lw_g := List.forall_mem_cons.mpr ⟨wk_g 208 rfl rfl, List.forall_mem_cons.mpr ⟨wk_g 210 rfl rfl, List.forall_mem_cons.mpr ⟨wk_g 212 rfl rfl, fun _ h => absurd h List.not_mem_nil⟩⟩⟩
set_option maxRecDepth 20000 in
theorem inX11 : ∀ w ∈ u_ws RX11 TX11 10, w ∈ lw_g := List.forall_mem_cons.mpr ⟨wk_g 262 rfl rfl, List.forall_mem_cons.mpr ⟨wk_g 264 rfl rfl, List.forall_mem_cons.mpr ⟨wk_g 266 rfl rfl, List.forall_mem_cons.mpr ⟨wk_g 268 rfl rfl, List.forall_mem_cons.mpr ⟨wk_g 270 rfl rfl, List.forall_mem_cons.mpr ⟨wk_g 272 rfl rfl, List.forall_mem_cons.mpr ⟨wk_g 274 rfl rfl, List.forall_mem_cons.mpr ⟨wk_g 276 rfl rfl, List.forall_mem_cons.mpr ⟨wk_g 278 rfl rfl, List.forall_mem_cons.mpr ⟨wk_g 280 rfl rfl, fun _ h => absurd h List.not_mem_nil⟩⟩⟩⟩⟩⟩⟩⟩⟩⟩
set_option maxRecDepth 20000 in
theorem inX12 : ∀ w ∈ u_ws RX12 TX12 44, w ∈ lw_g := List.forall_mem_cons.mpr ⟨wk_g 807 rfl rfl, List.forall_mem_cons.mpr ⟨wk_g 809 rfl rfl, List.forall_mem_cons.mpr ⟨wk_g 811 rfl rfl, List.forall_mem_cons.mpr ⟨wk_g 813 rfl rfl, List.forall_mem_cons.mpr ⟨wk_g 815 rfl rfl, List.forall_mem_cons.mpr ⟨wk_g 817 rfl rfl, List.forall_mem_cons.mpr ⟨wk_g 819 rfl rfl, List.forall_mem_cons.mpr ⟨wk_g 821 rfl rfl, List.forall_mem_cons.mpr ⟨wk_g 823 rfl rfl, List.forall_mem_cons.mpr ⟨wk_g 825 rfl rfl, List.forall_mem_cons.mpr ⟨wk_g 827 rfl rfl, List.forall_mem_cons.mpr ⟨wk_g 829 rfl rfl, List.forall_mem_cons.mpr ⟨wk_g 831 rfl rfl, List.forall_mem_cons.mpr ⟨wk_g 833 rfl rfl, List.forall_mem_cons.mpr ⟨wk_g 835 rfl rfl, List.forall_mem_cons.mpr ⟨wk_g 837 rfl rfl, List.forall_mem_cons.mpr ⟨wk_g 839 rfl rfl, List.forall_mem_cons.mpr ⟨wk_g 841 rfl rfl, List.forall_mem_cons.mpr ⟨wk_g 843 rfl rfl, List.forall_mem_cons.mpr ⟨wk_g 845 rfl rfl, List.forall_mem_cons.mpr ⟨wk_g 847 rfl rfl, List.forall_mem_cons.mpr ⟨wk_g 849 rfl rfl, List.forall_mem_cons.mpr ⟨wk_g 851 rfl rfl, List.forall_mem_cons.mpr ⟨wk_g 853 rfl rfl, List.forall_mem_cons.mpr ⟨wk_g 855 rfl rfl, List.forall_mem_cons.mpr ⟨wk_g 857 rfl rfl, List.forall_mem_cons.mpr ⟨wk_g 859 rfl rfl, List.forall_mem_cons.mpr ⟨wk_g 861 rfl rfl, List.forall_mem_cons.mpr ⟨wk_g 863 rfl rfl, List.forall_mem_cons.mpr ⟨wk_g 865 rfl rfl, List.forall_mem_cons.mpr ⟨wk_g 867 rfl rfl, List.forall_mem_cons.mpr ⟨wk_g 869 rfl rfl, List.forall_mem_cons.mpr ⟨wk_g 871 rfl rfl, List.forall_mem_cons.mpr ⟨wk_g 873 rfl rfl, List.forall_mem_cons.mpr ⟨wk_g 875 rfl rfl, List.forall_mem_cons.mpr ⟨wk_g 877 rfl rfl, List.forall_mem_cons.mpr ⟨wk_g 879 rfl rfl, List.forall_mem_cons.mpr ⟨wk_g 881 rfl rfl, List.forall_mem_cons.mpr ⟨wk_g 883 rfl rfl, List.forall_mem_cons.mpr ⟨wk_g 885 rfl rfl, List.forall_mem_cons.mpr ⟨wk_g 887 rfl rfl, List.forall_mem_cons.mpr ⟨wk_g 889 rfl rfl, List.forall_mem_cons.mpr ⟨wk_g 891 rfl rfl, List.forall_mem_cons.mpr ⟨wk_g 893 rfl rfl, fun _ h => absurd h List.not_mem_nil⟩⟩⟩⟩⟩⟩⟩⟩⟩⟩⟩⟩⟩⟩⟩⟩⟩⟩⟩⟩⟩⟩⟩⟩⟩⟩⟩⟩⟩⟩⟩⟩⟩⟩⟩⟩⟩⟩⟩⟩⟩⟩⟩⟩
set_option maxRecDepth 20000 in
theorem tw_0 : Cond.selects RX6 yX6_signsOfKey yX6_signsOfKey ∈ lw_g := wk_g 0 rfl rfl
set_option maxRecDepth 20000 in
theorem tw_7 : Cond.selects RX11 yX11_namesNoKey yX11_namesNoKey ∈ lw_g := wk_g 7 rfl rfl
set_option maxRecDepth 20000 in
theorem tw_22 : Cond.selects RX12 yX12_faultOf yX12_faultOf ∈ lw_g := wk_g 22 rfl rfl
set_option maxRecDepth 20000 in
theorem tw_25 : Cond.selects RX12 yX12_wide yX12_wide ∈ lw_g := wk_g 25 rfl rfl
set_option maxRecDepth 20000 in
theorem tw_29 : Cond.selects RX12 yX12_lacks yX12_lacks ∈ lw_g := wk_g 29 rfl rfl
set_option maxRecDepth 20000 in
theorem tw_31 : Cond.selects RX12 yX12_lanes yX12_lanes ∈ lw_g := wk_g 31 rfl rfl
set_option maxRecDepth 20000 in
theorem tw_35 : Cond.selects RX12 yX12_isNumber yX12_isNumber ∈ lw_g := wk_g 35 rfl rfl
set_option maxRecDepth 20000 in
theorem tw_50 : Cond.selects RX12 yX12_placeOf yX12_placeOf ∈ lw_g := wk_g 50 rfl rfl
set_option maxRecDepth 20000 in
theorem tw_55 : Cond.selects RX12 yX12_linksOf yX12_linksOf ∈ lw_g := wk_g 55 rfl rfl
set_option maxRecDepth 20000 in
theorem tw_58 : Cond.selects RX12 yX12_countOf yX12_countOf ∈ lw_g := wk_g 58 rfl rfl
set_option maxRecDepth 20000 in
theorem tw_59 : Cond.selects RX12 yX12_sumOf yX12_sumOf ∈ lw_g := wk_g 59 rfl rfl
set_option maxRecDepth 20000 in
theorem tw_61 : Cond.selects RX12 yX12_say yX12_say ∈ lw_g := wk_g 61 rfl rfl
set_option maxRecDepth 20000 in
theorem tw_64 : Cond.initialized RX11 ∈ lw_g := wk_g 64 rfl rfl
set_option maxRecDepth 20000 in
theorem tw_65 : Cond.initialized RX6 ∈ lw_g := wk_g 65 rfl rfl
set_option maxRecDepth 20000 in
theorem tw_66 : Cond.initialized RX2 ∈ lw_g := wk_g 66 rfl rfl
set_option maxRecDepth 20000 in
theorem tw_67 : Cond.initialized RX8 ∈ lw_g := wk_g 67 rfl rfl
set_option maxRecDepth 20000 in
theorem tw_68 : Cond.initialized RX4 ∈ lw_g := wk_g 68 rfl rfl
set_option maxRecDepth 20000 in
theorem tw_69 : Cond.initialized RX10 ∈ lw_g := wk_g 69 rfl rfl
set_option maxRecDepth 20000 in
theorem tw_70 : Cond.initialized RX9 ∈ lw_g := wk_g 70 rfl rfl
set_option maxRecDepth 20000 in
theorem tw_71 : Cond.initialized RX12 ∈ lw_g := wk_g 71 rfl rfl
set_option maxRecDepth 20000 in
theorem tw_83 : Cond.methodLink RX11 1 objectInit ∈ lw_g := wk_g 83 rfl rfl
set_option maxRecDepth 20000 in
theorem tw_84 : Cond.instanceMethod objectInit ∈ lw_g := wk_g 84 rfl rfl
set_option maxRecDepth 20000 in
theorem tw_85 : Cond.code objectInit ⟨#[0xb1]⟩ 1 none ∈ lw_g := wk_g 85 rfl rfl
set_option maxRecDepth 20000 in
theorem tw_86 : Cond.classLink RX11 7 RX6 ∈ lw_g := wk_g 86 rfl rfl
set_option maxRecDepth 20000 in
theorem tw_87 : Cond.instantiable RX6 2 ∈ lw_g := wk_g 87 rfl rfl
set_option maxRecDepth 20000 in
theorem tw_88 : Cond.methodLink RX11 9 yX6_init ∈ lw_g := wk_g 88 rfl rfl
set_option maxRecDepth 20000 in
theorem tw_89 : Cond.instanceMethod yX6_init ∈ lw_g := wk_g 89 rfl rfl
set_option maxRecDepth 20000 in
theorem tw_90 : Cond.code yX6_init cX6_init 1 none ∈ lw_g := wk_g 90 rfl rfl
set_option maxRecDepth 20000 in
theorem tw_91 : Cond.methodLink RX6 3 objectInit ∈ lw_g := wk_g 91 rfl rfl
set_option maxRecDepth 20000 in
theorem tw_92 : Cond.fieldLink RX6 9 "LaneRow$Text" "codes" "[I" ∈ lw_g := wk_g 92 rfl rfl
set_option maxRecDepth 20000 in
theorem tw_93 : Cond.fieldLink RX11 61 "LaneRow$Text" "codes" "[I" ∈ lw_g := wk_g 93 rfl rfl
set_option maxRecDepth 20000 in
theorem tw_94 : Cond.fieldLink RX6 15 "LaneRow$Text" "size" "I" ∈ lw_g := wk_g 94 rfl rfl
set_option maxRecDepth 20000 in
theorem tw_95 : Cond.fieldLink RX11 43 "LaneRow$Text" "size" "I" ∈ lw_g := wk_g 95 rfl rfl
set_option maxRecDepth 20000 in
theorem tw_101 : Cond.arrayClass .int ∈ lw_g := wk_g 101 rfl rfl
set_option maxRecDepth 20000 in
theorem tw_102 : Cond.classLink RX11 19 RX2 ∈ lw_g := wk_g 102 rfl rfl
set_option maxRecDepth 20000 in
theorem tw_103 : Cond.instantiable RX2 6 ∈ lw_g := wk_g 103 rfl rfl
set_option maxRecDepth 20000 in
theorem tw_104 : Cond.methodLink RX11 21 yX2_init ∈ lw_g := wk_g 104 rfl rfl
set_option maxRecDepth 20000 in
theorem tw_105 : Cond.instanceMethod yX2_init ∈ lw_g := wk_g 105 rfl rfl
set_option maxRecDepth 20000 in
theorem tw_106 : Cond.code yX2_init cX2_init 1 none ∈ lw_g := wk_g 106 rfl rfl
set_option maxRecDepth 20000 in
theorem tw_107 : Cond.methodLink RX2 1 objectInit ∈ lw_g := wk_g 107 rfl rfl
set_option maxRecDepth 20000 in
theorem tw_108 : Cond.classLink RX2 7 RX8 ∈ lw_g := wk_g 108 rfl rfl
set_option maxRecDepth 20000 in
theorem tw_109 : Cond.instantiable RX8 5 ∈ lw_g := wk_g 109 rfl rfl
set_option maxRecDepth 20000 in
theorem tw_110 : Cond.methodLink RX2 9 yX8_init ∈ lw_g := wk_g 110 rfl rfl
set_option maxRecDepth 20000 in
theorem tw_111 : Cond.instanceMethod yX8_init ∈ lw_g := wk_g 111 rfl rfl
set_option maxRecDepth 20000 in
theorem tw_112 : Cond.code yX8_init cX8_init 1 none ∈ lw_g := wk_g 112 rfl rfl
set_option maxRecDepth 20000 in
theorem tw_113 : Cond.methodLink RX8 3 objectInit ∈ lw_g := wk_g 113 rfl rfl
set_option maxRecDepth 20000 in
theorem tw_114 : Cond.fieldLink RX8 9 "LaneRow$Towers" "keys" "[I" ∈ lw_g := wk_g 114 rfl rfl
set_option maxRecDepth 20000 in
theorem tw_119 : Cond.fieldLink RX8 15 "LaneRow$Towers" "values" "[I" ∈ lw_g := wk_g 119 rfl rfl
set_option maxRecDepth 20000 in
theorem tw_122 : Cond.fieldLink RX8 18 "LaneRow$Towers" "heights" "[I" ∈ lw_g := wk_g 122 rfl rfl
set_option maxRecDepth 20000 in
theorem tw_125 : Cond.fieldLink RX11 111 "LaneRow$Towers" "heights" "[I" ∈ lw_g := wk_g 125 rfl rfl
set_option maxRecDepth 20000 in
theorem tw_126 : Cond.fieldLink RX8 21 "LaneRow$Towers" "heats" "[I" ∈ lw_g := wk_g 126 rfl rfl
set_option maxRecDepth 20000 in
theorem tw_129 : Cond.fieldLink RX8 24 "LaneRow$Towers" "size" "I" ∈ lw_g := wk_g 129 rfl rfl
set_option maxRecDepth 20000 in
theorem tw_134 : Cond.fieldLink RX11 91 "LaneRow$Towers" "size" "I" ∈ lw_g := wk_g 134 rfl rfl
set_option maxRecDepth 20000 in
theorem tw_146 : Cond.classLink RX2 19 RX4 ∈ lw_g := wk_g 146 rfl rfl
set_option maxRecDepth 20000 in
theorem tw_147 : Cond.instantiable RX4 4 ∈ lw_g := wk_g 147 rfl rfl
set_option maxRecDepth 20000 in
theorem tw_148 : Cond.methodLink RX2 21 yX4_init ∈ lw_g := wk_g 148 rfl rfl
set_option maxRecDepth 20000 in
theorem tw_149 : Cond.instanceMethod yX4_init ∈ lw_g := wk_g 149 rfl rfl
set_option maxRecDepth 20000 in
theorem tw_150 : Cond.code yX4_init cX4_init 1 none ∈ lw_g := wk_g 150 rfl rfl
set_option maxRecDepth 20000 in
theorem tw_151 : Cond.methodLink RX4 3 objectInit ∈ lw_g := wk_g 151 rfl rfl
set_option maxRecDepth 20000 in
theorem tw_152 : Cond.fieldLink RX4 9 "LaneRow$Seen" "of" "[I" ∈ lw_g := wk_g 152 rfl rfl
set_option maxRecDepth 20000 in
theorem tw_154 : Cond.fieldLink RX4 15 "LaneRow$Seen" "sought" "[I" ∈ lw_g := wk_g 154 rfl rfl
set_option maxRecDepth 20000 in
theorem tw_156 : Cond.fieldLink RX4 18 "LaneRow$Seen" "looks" "[I" ∈ lw_g := wk_g 156 rfl rfl
set_option maxRecDepth 20000 in
theorem tw_158 : Cond.fieldLink RX4 21 "LaneRow$Seen" "size" "I" ∈ lw_g := wk_g 158 rfl rfl
set_option maxRecDepth 20000 in
theorem tw_160 : Cond.fieldLink RX11 231 "LaneRow$Seen" "size" "I" ∈ lw_g := wk_g 160 rfl rfl
set_option maxRecDepth 20000 in
theorem tw_170 : Cond.fieldLink RX2 10 "LaneRow$Kept" "first" "LLaneRow$Towers;" ∈ lw_g := wk_g 170 rfl rfl
set_option maxRecDepth 20000 in
theorem tw_171 : Cond.fieldLink RX11 77 "LaneRow$Kept" "first" "LLaneRow$Towers;" ∈ lw_g := wk_g 171 rfl rfl
set_option maxRecDepth 20000 in
theorem tw_172 : Cond.fieldLink RX2 16 "LaneRow$Kept" "second" "LLaneRow$Towers;" ∈ lw_g := wk_g 172 rfl rfl
set_option maxRecDepth 20000 in
theorem tw_173 : Cond.fieldLink RX11 192 "LaneRow$Kept" "second" "LLaneRow$Towers;" ∈ lw_g := wk_g 173 rfl rfl
set_option maxRecDepth 20000 in
theorem tw_174 : Cond.fieldLink RX2 22 "LaneRow$Kept" "seen" "LLaneRow$Seen;" ∈ lw_g := wk_g 174 rfl rfl
set_option maxRecDepth 20000 in
theorem tw_175 : Cond.fieldLink RX11 123 "LaneRow$Kept" "seen" "LLaneRow$Seen;" ∈ lw_g := wk_g 175 rfl rfl
set_option maxRecDepth 20000 in
theorem tw_177 : Cond.fieldLink RX11 169 "LaneRow$Kept" "asked" "I" ∈ lw_g := wk_g 177 rfl rfl
set_option maxRecDepth 20000 in
theorem tw_179 : Cond.fieldLink RX11 172 "LaneRow$Kept" "looksOfAsked" "I" ∈ lw_g := wk_g 179 rfl rfl
set_option maxRecDepth 20000 in
theorem tw_181 : Cond.fieldLink RX11 249 "LaneRow$Kept" "changes" "I" ∈ lw_g := wk_g 181 rfl rfl
set_option maxRecDepth 20000 in
theorem tw_195 : Cond.classLink RX11 29 RX10 ∈ lw_g := wk_g 195 rfl rfl
set_option maxRecDepth 20000 in
theorem tw_196 : Cond.instantiable RX10 3 ∈ lw_g := wk_g 196 rfl rfl
set_option maxRecDepth 20000 in
theorem tw_197 : Cond.methodLink RX11 31 yX10_init ∈ lw_g := wk_g 197 rfl rfl
set_option maxRecDepth 20000 in
theorem tw_198 : Cond.instanceMethod yX10_init ∈ lw_g := wk_g 198 rfl rfl
set_option maxRecDepth 20000 in
theorem tw_199 : Cond.code yX10_init cX10_init 1 none ∈ lw_g := wk_g 199 rfl rfl
set_option maxRecDepth 20000 in
theorem tw_200 : Cond.methodLink RX10 3 objectInit ∈ lw_g := wk_g 200 rfl rfl
set_option maxRecDepth 20000 in
theorem tw_215 : Cond.classLink RX11 36 RX9 ∈ lw_g := wk_g 215 rfl rfl
set_option maxRecDepth 20000 in
theorem tw_216 : Cond.instantiable RX9 8 ∈ lw_g := wk_g 216 rfl rfl
set_option maxRecDepth 20000 in
theorem tw_217 : Cond.methodLink RX11 38 yX9_init ∈ lw_g := wk_g 217 rfl rfl
set_option maxRecDepth 20000 in
theorem tw_218 : Cond.instanceMethod yX9_init ∈ lw_g := wk_g 218 rfl rfl
set_option maxRecDepth 20000 in
theorem tw_219 : Cond.code yX9_init cX9_init 1 none ∈ lw_g := wk_g 219 rfl rfl
set_option maxRecDepth 20000 in
theorem tw_220 : Cond.methodLink RX9 3 objectInit ∈ lw_g := wk_g 220 rfl rfl
set_option maxRecDepth 20000 in
theorem tw_221 : Cond.classLink RX9 9 RX10 ∈ lw_g := wk_g 221 rfl rfl
set_option maxRecDepth 20000 in
theorem tw_222 : Cond.methodLink RX9 11 yX10_init ∈ lw_g := wk_g 222 rfl rfl
set_option maxRecDepth 20000 in
theorem tw_223 : Cond.fieldLink RX9 12 "LaneRow$Trial" "walk" "LLaneRow$Walk;" ∈ lw_g := wk_g 223 rfl rfl
set_option maxRecDepth 20000 in
theorem tw_224 : Cond.fieldLink RX9 18 "LaneRow$Trial" "tried" "[I" ∈ lw_g := wk_g 224 rfl rfl
set_option maxRecDepth 20000 in
theorem tw_225 : Cond.fieldLink RX9 22 "LaneRow$Trial" "bestHeights" "[I" ∈ lw_g := wk_g 225 rfl rfl
set_option maxRecDepth 20000 in
theorem tw_226 : Cond.fieldLink RX9 25 "LaneRow$Trial" "looks" "[I" ∈ lw_g := wk_g 226 rfl rfl
set_option maxRecDepth 20000 in
theorem tw_252 : Cond.fieldLink RX11 10 "LaneRow" "page" "LLaneRow$Text;" ∈ lw_g := wk_g 252 rfl rfl
set_option maxRecDepth 20000 in
theorem tw_253 : Cond.fieldLink RX11 16 "LaneRow" "written" "LLaneRow$Text;" ∈ lw_g := wk_g 253 rfl rfl
set_option maxRecDepth 20000 in
theorem tw_254 : Cond.fieldLink RX11 22 "LaneRow" "now" "LLaneRow$Kept;" ∈ lw_g := wk_g 254 rfl rfl
set_option maxRecDepth 20000 in
theorem tw_255 : Cond.fieldLink RX11 26 "LaneRow" "kept" "LLaneRow$Kept;" ∈ lw_g := wk_g 255 rfl rfl
set_option maxRecDepth 20000 in
theorem tw_256 : Cond.fieldLink RX11 32 "LaneRow" "walk" "LLaneRow$Walk;" ∈ lw_g := wk_g 256 rfl rfl
set_option maxRecDepth 20000 in
theorem tw_257 : Cond.fieldLink RX11 39 "LaneRow" "trial" "LLaneRow$Trial;" ∈ lw_g := wk_g 257 rfl rfl
set_option maxRecDepth 20000 in
theorem tw_258 : Cond.fieldLink RX11 71 "LaneRow" "law" "LLaneRow$Law;" ∈ lw_g := wk_g 258 rfl rfl
set_option maxRecDepth 20000 in
theorem tw_259 : Cond.fieldLink RX11 88 "LaneRow" "rowsRead" "I" ∈ lw_g := wk_g 259 rfl rfl
set_option maxRecDepth 20000 in
theorem tw_260 : Cond.fieldLink RX11 246 "LaneRow" "rowOfImage" "I" ∈ lw_g := wk_g 260 rfl rfl
set_option maxRecDepth 20000 in
theorem tw_261 : Cond.fieldLink RX11 206 "LaneRow" "bestsDone" "I" ∈ lw_g := wk_g 261 rfl rfl
set_option maxRecDepth 20000 in
theorem tw_287 : Cond.methodLink RX11 47 yX6_add ∈ lw_g := wk_g 287 rfl rfl
set_option maxRecDepth 20000 in
theorem tw_288 : Cond.instanceMethod yX6_add ∈ lw_g := wk_g 288 rfl rfl
set_option maxRecDepth 20000 in
theorem tw_289 : Cond.selects RX6 yX6_add yX6_add ∈ lw_g := wk_g 289 rfl rfl
set_option maxRecDepth 20000 in
theorem tw_290 : Cond.code yX6_add cX6_add 2 (some .int) ∈ lw_g := wk_g 290 rfl rfl
set_option maxRecDepth 20000 in
theorem tw_295 : Cond.methodLink RX11 51 yX6_clear ∈ lw_g := wk_g 295 rfl rfl
set_option maxRecDepth 20000 in
theorem tw_296 : Cond.instanceMethod yX6_clear ∈ lw_g := wk_g 296 rfl rfl
set_option maxRecDepth 20000 in
theorem tw_297 : Cond.selects RX6 yX6_clear yX6_clear ∈ lw_g := wk_g 297 rfl rfl
set_option maxRecDepth 20000 in
theorem tw_298 : Cond.code yX6_clear cX6_clear 2 (some .int) ∈ lw_g := wk_g 298 rfl rfl
set_option maxRecDepth 20000 in
theorem tw_303 : Cond.methodLink RX11 55 yX6_firstFault ∈ lw_g := wk_g 303 rfl rfl
set_option maxRecDepth 20000 in
theorem tw_304 : Cond.instanceMethod yX6_firstFault ∈ lw_g := wk_g 304 rfl rfl
set_option maxRecDepth 20000 in
theorem tw_305 : Cond.selects RX6 yX6_firstFault yX6_firstFault ∈ lw_g := wk_g 305 rfl rfl
set_option maxRecDepth 20000 in
theorem tw_306 : Cond.code yX6_firstFault cX6_firstFault 5 (some .int) ∈ lw_g := wk_g 306 rfl rfl
set_option maxRecDepth 20000 in
theorem tw_307 : Cond.methodLink RX6 49 yX6_signsOfKey ∈ lw_g := wk_g 307 rfl rfl
set_option maxRecDepth 20000 in
theorem tw_309 : Cond.instanceMethod yX6_signsOfKey ∈ lw_g := wk_g 309 rfl rfl
set_option maxRecDepth 20000 in
theorem tw_310 : Cond.code yX6_signsOfKey cX6_signsOfKey 1 (some .int) ∈ lw_g := wk_g 310 rfl rfl
set_option maxRecDepth 20000 in
theorem tw_327 : Cond.methodLink RX11 58 yX6_keysTold ∈ lw_g := wk_g 327 rfl rfl
set_option maxRecDepth 20000 in
theorem tw_328 : Cond.instanceMethod yX6_keysTold ∈ lw_g := wk_g 328 rfl rfl
set_option maxRecDepth 20000 in
theorem tw_329 : Cond.selects RX6 yX6_keysTold yX6_keysTold ∈ lw_g := wk_g 329 rfl rfl
set_option maxRecDepth 20000 in
theorem tw_330 : Cond.code yX6_keysTold cX6_keysTold 3 (some .int) ∈ lw_g := wk_g 330 rfl rfl
set_option maxRecDepth 20000 in
theorem tw_375 : Cond.instanceMethod yX4_clear ∈ lw_g := wk_g 375 rfl rfl
set_option maxRecDepth 20000 in
theorem tw_376 : Cond.selects RX4 yX4_clear yX4_clear ∈ lw_g := wk_g 376 rfl rfl
set_option maxRecDepth 20000 in
theorem tw_377 : Cond.code yX4_clear cX4_clear 2 (some .int) ∈ lw_g := wk_g 377 rfl rfl
set_option maxRecDepth 20000 in
theorem tw_478 : Cond.methodLink RX11 102 yX11_namesNoKey ∈ lw_g := wk_g 478 rfl rfl
set_option maxRecDepth 20000 in
theorem tw_480 : Cond.instanceMethod yX11_namesNoKey ∈ lw_g := wk_g 480 rfl rfl
set_option maxRecDepth 20000 in
theorem tw_481 : Cond.code yX11_namesNoKey cX11_namesNoKey 2 (some .boolean) ∈ lw_g := wk_g 481 rfl rfl
set_option maxRecDepth 20000 in
theorem tw_491 : Cond.instanceMethod yX8_highestOf ∈ lw_g := wk_g 491 rfl rfl
set_option maxRecDepth 20000 in
theorem tw_492 : Cond.selects RX8 yX8_highestOf yX8_highestOf ∈ lw_g := wk_g 492 rfl rfl
set_option maxRecDepth 20000 in
theorem tw_493 : Cond.code yX8_highestOf cX8_highestOf 4 (some .int) ∈ lw_g := wk_g 493 rfl rfl
set_option maxRecDepth 20000 in
theorem tw_561 : Cond.methodLink RX11 147 yX11_isNoKey ∈ lw_g := wk_g 561 rfl rfl
set_option maxRecDepth 20000 in
theorem tw_562 : Cond.static yX11_isNoKey ∈ lw_g := wk_g 562 rfl rfl
set_option maxRecDepth 20000 in
theorem tw_563 : Cond.code yX11_isNoKey cX11_isNoKey 1 (some .boolean) ∈ lw_g := wk_g 563 rfl rfl
set_option maxRecDepth 20000 in
theorem tw_576 : Cond.methodLink RX11 166 yX8_valuesBetween ∈ lw_g := wk_g 576 rfl rfl
set_option maxRecDepth 20000 in
theorem tw_577 : Cond.instanceMethod yX8_valuesBetween ∈ lw_g := wk_g 577 rfl rfl
set_option maxRecDepth 20000 in
theorem tw_578 : Cond.selects RX8 yX8_valuesBetween yX8_valuesBetween ∈ lw_g := wk_g 578 rfl rfl
set_option maxRecDepth 20000 in
theorem tw_579 : Cond.code yX8_valuesBetween cX8_valuesBetween 5 (some .int) ∈ lw_g := wk_g 579 rfl rfl
set_option maxRecDepth 20000 in
theorem tw_592 : Cond.methodLink RX11 175 yX8_firstNotLess ∈ lw_g := wk_g 592 rfl rfl
set_option maxRecDepth 20000 in
theorem tw_593 : Cond.instanceMethod yX8_firstNotLess ∈ lw_g := wk_g 593 rfl rfl
set_option maxRecDepth 20000 in
theorem tw_594 : Cond.selects RX8 yX8_firstNotLess yX8_firstNotLess ∈ lw_g := wk_g 594 rfl rfl
set_option maxRecDepth 20000 in
theorem tw_595 : Cond.code yX8_firstNotLess cX8_firstNotLess 3 (some .int) ∈ lw_g := wk_g 595 rfl rfl
set_option maxRecDepth 20000 in
theorem tw_605 : Cond.methodLink RX11 185 yX8_numberOf ∈ lw_g := wk_g 605 rfl rfl
set_option maxRecDepth 20000 in
theorem tw_606 : Cond.instanceMethod yX8_numberOf ∈ lw_g := wk_g 606 rfl rfl
set_option maxRecDepth 20000 in
theorem tw_607 : Cond.selects RX8 yX8_numberOf yX8_numberOf ∈ lw_g := wk_g 607 rfl rfl
set_option maxRecDepth 20000 in
theorem tw_608 : Cond.code yX8_numberOf cX8_numberOf 3 (some .int) ∈ lw_g := wk_g 608 rfl rfl
set_option maxRecDepth 20000 in
theorem tw_609 : Cond.methodLink RX8 36 yX8_firstNotLess ∈ lw_g := wk_g 609 rfl rfl
set_option maxRecDepth 20000 in
theorem tw_647 : Cond.instanceMethod yX8_linksOf ∈ lw_g := wk_g 647 rfl rfl
set_option maxRecDepth 20000 in
theorem tw_648 : Cond.selects RX8 yX8_linksOf yX8_linksOf ∈ lw_g := wk_g 648 rfl rfl
set_option maxRecDepth 20000 in
theorem tw_649 : Cond.code yX8_linksOf cX8_linksOf 4 (some .int) ∈ lw_g := wk_g 649 rfl rfl
set_option maxRecDepth 20000 in
theorem tw_687 : Cond.methodLink RX11 237 yX4_clear ∈ lw_g := wk_g 687 rfl rfl
set_option maxRecDepth 20000 in
theorem tw_722 : Cond.instanceMethod yX11_count ∈ lw_g := wk_g 722 rfl rfl
set_option maxRecDepth 20000 in
theorem tw_723 : Cond.selects RX11 yX11_count yX11_count ∈ lw_g := wk_g 723 rfl rfl
set_option maxRecDepth 20000 in
theorem tw_724 : Cond.code yX11_count cX11_count 2 (some .int) ∈ lw_g := wk_g 724 rfl rfl
set_option maxRecDepth 20000 in
theorem tw_725 : Cond.methodLink RX11 252 yX8_highestOf ∈ lw_g := wk_g 725 rfl rfl
set_option maxRecDepth 20000 in
theorem tw_726 : Cond.methodLink RX11 256 yX8_linksOf ∈ lw_g := wk_g 726 rfl rfl
set_option maxRecDepth 20000 in
theorem tw_727 : Cond.methodLink RX11 259 yX8_allHeat ∈ lw_g := wk_g 727 rfl rfl
set_option maxRecDepth 20000 in
theorem tw_728 : Cond.instanceMethod yX8_allHeat ∈ lw_g := wk_g 728 rfl rfl
set_option maxRecDepth 20000 in
theorem tw_729 : Cond.selects RX8 yX8_allHeat yX8_allHeat ∈ lw_g := wk_g 729 rfl rfl
set_option maxRecDepth 20000 in
theorem tw_730 : Cond.code yX8_allHeat cX8_allHeat 3 (some .int) ∈ lw_g := wk_g 730 rfl rfl
set_option maxRecDepth 20000 in
theorem tw_735 : Cond.constantLong RX11 262 1151 ∈ lw_g := wk_g 735 rfl rfl
set_option maxRecDepth 20000 in
theorem tw_740 : Cond.constantLong RX11 279 31 ∈ lw_g := wk_g 740 rfl rfl
set_option maxRecDepth 20000 in
theorem tw_753 : Cond.methodLink RX11 275 yX11_withCodes ∈ lw_g := wk_g 753 rfl rfl
set_option maxRecDepth 20000 in
theorem tw_754 : Cond.static yX11_withCodes ∈ lw_g := wk_g 754 rfl rfl
set_option maxRecDepth 20000 in
theorem tw_755 : Cond.code yX11_withCodes cX11_withCodes 7 (some .long) ∈ lw_g := wk_g 755 rfl rfl
set_option maxRecDepth 20000 in
theorem tw_756 : Cond.methodLink RX11 281 yX11_count ∈ lw_g := wk_g 756 rfl rfl
set_option maxRecDepth 20000 in
theorem tw_762 : Cond.methodLink RX12 1 objectInit ∈ lw_g := wk_g 762 rfl rfl
set_option maxRecDepth 20000 in
theorem tw_763 : Cond.fieldLink RX12 7 "LaneRowModel" "page" "[I" ∈ lw_g := wk_g 763 rfl rfl
set_option maxRecDepth 20000 in
theorem tw_764 : Cond.fieldLink RX12 86 "LaneRowModel" "pageMany" "I" ∈ lw_g := wk_g 764 rfl rfl
set_option maxRecDepth 20000 in
theorem tw_766 : Cond.fieldLink RX12 121 "LaneRowModel" "many" "I" ∈ lw_g := wk_g 766 rfl rfl
set_option maxRecDepth 20000 in
theorem tw_767 : Cond.fieldLink RX12 130 "LaneRowModel" "asked" "I" ∈ lw_g := wk_g 767 rfl rfl
set_option maxRecDepth 20000 in
theorem tw_768 : Cond.fieldLink RX12 133 "LaneRowModel" "looksAll" "I" ∈ lw_g := wk_g 768 rfl rfl
set_option maxRecDepth 20000 in
theorem tw_769 : Cond.fieldLink RX12 136 "LaneRowModel" "changes" "I" ∈ lw_g := wk_g 769 rfl rfl
set_option maxRecDepth 20000 in
theorem tw_770 : Cond.fieldLink RX12 142 "LaneRowModel" "rowsRead" "I" ∈ lw_g := wk_g 770 rfl rfl
set_option maxRecDepth 20000 in
theorem tw_771 : Cond.fieldLink RX12 13 "LaneRowModel" "keys" "[I" ∈ lw_g := wk_g 771 rfl rfl
set_option maxRecDepth 20000 in
theorem tw_772 : Cond.fieldLink RX12 16 "LaneRowModel" "values" "[I" ∈ lw_g := wk_g 772 rfl rfl
set_option maxRecDepth 20000 in
theorem tw_773 : Cond.fieldLink RX12 19 "LaneRowModel" "heights" "[I" ∈ lw_g := wk_g 773 rfl rfl
set_option maxRecDepth 20000 in
theorem tw_774 : Cond.fieldLink RX12 22 "LaneRowModel" "heats" "[I" ∈ lw_g := wk_g 774 rfl rfl
set_option maxRecDepth 20000 in
theorem tw_775 : Cond.fieldLink RX12 127 "LaneRowModel" "secondMany" "I" ∈ lw_g := wk_g 775 rfl rfl
set_option maxRecDepth 20000 in
theorem tw_776 : Cond.fieldLink RX12 25 "LaneRowModel" "secondKeys" "[I" ∈ lw_g := wk_g 776 rfl rfl
set_option maxRecDepth 20000 in
theorem tw_777 : Cond.fieldLink RX12 28 "LaneRowModel" "secondValues" "[I" ∈ lw_g := wk_g 777 rfl rfl
set_option maxRecDepth 20000 in
theorem tw_778 : Cond.fieldLink RX12 31 "LaneRowModel" "secondHeights" "[I" ∈ lw_g := wk_g 778 rfl rfl
set_option maxRecDepth 20000 in
theorem tw_779 : Cond.fieldLink RX12 34 "LaneRowModel" "secondHeats" "[I" ∈ lw_g := wk_g 779 rfl rfl
set_option maxRecDepth 20000 in
theorem tw_783 : Cond.fieldLink RX12 273 "LaneRowModel" "bestsDone" "I" ∈ lw_g := wk_g 783 rfl rfl
set_option maxRecDepth 20000 in
theorem tw_784 : Cond.fieldLink RX12 37 "LaneRowModel" "saved" "[I" ∈ lw_g := wk_g 784 rfl rfl
set_option maxRecDepth 20000 in
theorem tw_785 : Cond.fieldLink RX12 40 "LaneRowModel" "bestHeights" "[I" ∈ lw_g := wk_g 785 rfl rfl
set_option maxRecDepth 20000 in
theorem tw_786 : Cond.fieldLink RX12 139 "LaneRowModel" "seenMany" "I" ∈ lw_g := wk_g 786 rfl rfl
set_option maxRecDepth 20000 in
theorem tw_787 : Cond.fieldLink RX12 43 "LaneRowModel" "sights" "[I" ∈ lw_g := wk_g 787 rfl rfl
set_option maxRecDepth 20000 in
theorem tw_788 : Cond.fieldLink RX12 46 "LaneRowModel" "by" "[I" ∈ lw_g := wk_g 788 rfl rfl
set_option maxRecDepth 20000 in
theorem tw_790 : Cond.fieldLink RX12 76 "LaneRowModel" "keptRow" "I" ∈ lw_g := wk_g 790 rfl rfl
set_option maxRecDepth 20000 in
theorem tw_797 : Cond.fieldLink RX12 49 "LaneRowModel" "keptKeys" "[I" ∈ lw_g := wk_g 797 rfl rfl
set_option maxRecDepth 20000 in
theorem tw_798 : Cond.fieldLink RX12 52 "LaneRowModel" "keptValues" "[I" ∈ lw_g := wk_g 798 rfl rfl
set_option maxRecDepth 20000 in
theorem tw_799 : Cond.fieldLink RX12 55 "LaneRowModel" "keptHeights" "[I" ∈ lw_g := wk_g 799 rfl rfl
set_option maxRecDepth 20000 in
theorem tw_800 : Cond.fieldLink RX12 58 "LaneRowModel" "keptHeats" "[I" ∈ lw_g := wk_g 800 rfl rfl
set_option maxRecDepth 20000 in
theorem tw_801 : Cond.fieldLink RX12 61 "LaneRowModel" "keptKeys2" "[I" ∈ lw_g := wk_g 801 rfl rfl
set_option maxRecDepth 20000 in
theorem tw_802 : Cond.fieldLink RX12 64 "LaneRowModel" "keptValues2" "[I" ∈ lw_g := wk_g 802 rfl rfl
set_option maxRecDepth 20000 in
theorem tw_803 : Cond.fieldLink RX12 67 "LaneRowModel" "keptHeights2" "[I" ∈ lw_g := wk_g 803 rfl rfl
set_option maxRecDepth 20000 in
theorem tw_804 : Cond.fieldLink RX12 70 "LaneRowModel" "keptHeats2" "[I" ∈ lw_g := wk_g 804 rfl rfl
set_option maxRecDepth 20000 in
theorem tw_805 : Cond.fieldLink RX12 73 "LaneRowModel" "keptSights" "[I" ∈ lw_g := wk_g 805 rfl rfl
set_option maxRecDepth 20000 in
theorem tw_806 : Cond.fieldLink RX12 331 "LaneRowModel" "hash" "J" ∈ lw_g := wk_g 806 rfl rfl
set_option maxRecDepth 20000 in
theorem tw_900 : Cond.constantLong RX12 80 126 ∈ lw_g := wk_g 900 rfl rfl
set_option maxRecDepth 20000 in
theorem tw_901 : Cond.methodLink RX12 82 yX12_in ∈ lw_g := wk_g 901 rfl rfl
set_option maxRecDepth 20000 in
theorem tw_902 : Cond.static yX12_in ∈ lw_g := wk_g 902 rfl rfl
set_option maxRecDepth 20000 in
theorem tw_903 : Cond.code yX12_in cX12_in 6 (some .boolean) ∈ lw_g := wk_g 903 rfl rfl
set_option maxRecDepth 20000 in
theorem tw_912 : Cond.methodLink RX12 115 yX12_faultOf ∈ lw_g := wk_g 912 rfl rfl
set_option maxRecDepth 20000 in
theorem tw_914 : Cond.instanceMethod yX12_faultOf ∈ lw_g := wk_g 914 rfl rfl
set_option maxRecDepth 20000 in
theorem tw_915 : Cond.code yX12_faultOf cX12_faultOf 2 (some .int) ∈ lw_g := wk_g 915 rfl rfl
set_option maxRecDepth 20000 in
theorem tw_927 : Cond.methodLink RX12 89 yX12_wide ∈ lw_g := wk_g 927 rfl rfl
set_option maxRecDepth 20000 in
theorem tw_929 : Cond.instanceMethod yX12_wide ∈ lw_g := wk_g 929 rfl rfl
set_option maxRecDepth 20000 in
theorem tw_930 : Cond.code yX12_wide cX12_wide 1 (some .int) ∈ lw_g := wk_g 930 rfl rfl
set_option maxRecDepth 20000 in
theorem tw_961 : Cond.methodLink RX12 180 yX12_isKey ∈ lw_g := wk_g 961 rfl rfl
set_option maxRecDepth 20000 in
theorem tw_962 : Cond.static yX12_isKey ∈ lw_g := wk_g 962 rfl rfl
set_option maxRecDepth 20000 in
theorem tw_963 : Cond.code yX12_isKey cX12_isKey 1 (some .boolean) ∈ lw_g := wk_g 963 rfl rfl
set_option maxRecDepth 20000 in
theorem tw_964 : Cond.constantLong RX12 178 99 ∈ lw_g := wk_g 964 rfl rfl
set_option maxRecDepth 20000 in
theorem tw_965 : Cond.constantLong RX12 183 3 ∈ lw_g := wk_g 965 rfl rfl
set_option maxRecDepth 20000 in
theorem tw_966 : Cond.methodLink RX12 185 yX12_lacks ∈ lw_g := wk_g 966 rfl rfl
set_option maxRecDepth 20000 in
theorem tw_968 : Cond.instanceMethod yX12_lacks ∈ lw_g := wk_g 968 rfl rfl
set_option maxRecDepth 20000 in
theorem tw_969 : Cond.code yX12_lacks cX12_lacks 1 (some .boolean) ∈ lw_g := wk_g 969 rfl rfl
set_option maxRecDepth 20000 in
theorem tw_974 : Cond.methodLink RX12 167 yX12_lanes ∈ lw_g := wk_g 974 rfl rfl
set_option maxRecDepth 20000 in
theorem tw_976 : Cond.instanceMethod yX12_lanes ∈ lw_g := wk_g 976 rfl rfl
set_option maxRecDepth 20000 in
theorem tw_977 : Cond.code yX12_lanes cX12_lanes 3 (some .int) ∈ lw_g := wk_g 977 rfl rfl
set_option maxRecDepth 20000 in
theorem tw_994 : Cond.methodLink RX12 192 yX12_isNumber ∈ lw_g := wk_g 994 rfl rfl
set_option maxRecDepth 20000 in
theorem tw_996 : Cond.instanceMethod yX12_isNumber ∈ lw_g := wk_g 996 rfl rfl
set_option maxRecDepth 20000 in
theorem tw_997 : Cond.code yX12_isNumber cX12_isNumber 2 (some .boolean) ∈ lw_g := wk_g 997 rfl rfl
set_option maxRecDepth 20000 in
theorem tw_998 : Cond.constantLong RX12 195 2 ∈ lw_g := wk_g 998 rfl rfl
set_option maxRecDepth 20000 in
theorem tw_1023 : Cond.constantLong RX12 200 10 ∈ lw_g := wk_g 1023 rfl rfl
set_option maxRecDepth 20000 in
theorem tw_1075 : Cond.constantLong RX12 235 4 ∈ lw_g := wk_g 1075 rfl rfl
set_option maxRecDepth 20000 in
theorem tw_1080 : Cond.constantLong RX12 240 50 ∈ lw_g := wk_g 1080 rfl rfl
set_option maxRecDepth 20000 in
theorem tw_1092 : Cond.constantLong RX12 248 9 ∈ lw_g := wk_g 1092 rfl rfl
set_option maxRecDepth 20000 in
theorem tw_1097 : Cond.methodLink RX12 245 yX12_placeOf ∈ lw_g := wk_g 1097 rfl rfl
set_option maxRecDepth 20000 in
theorem tw_1099 : Cond.instanceMethod yX12_placeOf ∈ lw_g := wk_g 1099 rfl rfl
set_option maxRecDepth 20000 in
theorem tw_1100 : Cond.code yX12_placeOf cX12_placeOf 3 (some .int) ∈ lw_g := wk_g 1100 rfl rfl
set_option maxRecDepth 20000 in
theorem tw_1133 : Cond.constantLong RX12 269 18 ∈ lw_g := wk_g 1133 rfl rfl
set_option maxRecDepth 20000 in
theorem tw_1134 : Cond.constantLong RX12 271 15 ∈ lw_g := wk_g 1134 rfl rfl
set_option maxRecDepth 20000 in
theorem tw_1142 : Cond.methodLink RX12 266 yX12_linksOf ∈ lw_g := wk_g 1142 rfl rfl
set_option maxRecDepth 20000 in
theorem tw_1144 : Cond.instanceMethod yX12_linksOf ∈ lw_g := wk_g 1144 rfl rfl
set_option maxRecDepth 20000 in
theorem tw_1145 : Cond.code yX12_linksOf cX12_linksOf 3 (some .int) ∈ lw_g := wk_g 1145 rfl rfl
set_option maxRecDepth 20000 in
theorem tw_1166 : Cond.constantLong RX12 299 60 ∈ lw_g := wk_g 1166 rfl rfl
set_option maxRecDepth 20000 in
theorem tw_1187 : Cond.methodLink RX12 326 yX12_countOf ∈ lw_g := wk_g 1187 rfl rfl
set_option maxRecDepth 20000 in
theorem tw_1189 : Cond.instanceMethod yX12_countOf ∈ lw_g := wk_g 1189 rfl rfl
set_option maxRecDepth 20000 in
theorem tw_1190 : Cond.code yX12_countOf cX12_countOf 2 (some .int) ∈ lw_g := wk_g 1190 rfl rfl
set_option maxRecDepth 20000 in
theorem tw_1191 : Cond.methodLink RX12 322 yX12_sumOf ∈ lw_g := wk_g 1191 rfl rfl
set_option maxRecDepth 20000 in
theorem tw_1193 : Cond.instanceMethod yX12_sumOf ∈ lw_g := wk_g 1193 rfl rfl
set_option maxRecDepth 20000 in
theorem tw_1194 : Cond.code yX12_sumOf cX12_sumOf 4 (some .int) ∈ lw_g := wk_g 1194 rfl rfl
set_option maxRecDepth 20000 in
theorem tw_1199 : Cond.constantLong RX12 339 1151 ∈ lw_g := wk_g 1199 rfl rfl
set_option maxRecDepth 20000 in
theorem tw_1204 : Cond.methodLink RX12 335 yX12_say ∈ lw_g := wk_g 1204 rfl rfl
set_option maxRecDepth 20000 in
theorem tw_1206 : Cond.instanceMethod yX12_say ∈ lw_g := wk_g 1206 rfl rfl
set_option maxRecDepth 20000 in
theorem tw_1207 : Cond.code yX12_say cX12_say 3 none ∈ lw_g := wk_g 1207 rfl rfl
set_option maxRecDepth 20000 in
theorem tw_1208 : Cond.constantLong RX12 329 31 ∈ lw_g := wk_g 1208 rfl rfl
theorem wk_sw12 (x : Int32) : (x.toInt < 0 ∨ 12 < x.toInt) ∨ x = 0 ∨ x = 1 ∨ x = 2 ∨ x = 3 ∨ x = 4 ∨ x = 5 ∨ x = 6 ∨ x = 7 ∨ x = 8 ∨ x = 9 ∨ x = 10 ∨ x = 11 ∨ x = 12 := by
  by_cases h : x.toInt < 0 ∨ 12 < x.toInt
  · exact Or.inl h
  · refine Or.inr ?_
    have e : ∀ y : Int32, x.toInt = y.toInt → x = y := fun y => Int32.toInt_inj.mp
    rcases (show x.toInt = 0 ∨ x.toInt = 1 ∨ x.toInt = 2 ∨ x.toInt = 3 ∨ x.toInt = 4 ∨ x.toInt = 5 ∨ x.toInt = 6 ∨ x.toInt = 7 ∨ x.toInt = 8 ∨ x.toInt = 9 ∨ x.toInt = 10 ∨ x.toInt = 11 ∨ x.toInt = 12 by omega) with q | q | q | q | q | q | q | q | q | q | q | q | q
    · exact Or.inl (e 0 q)
    · exact Or.inr (Or.inl (e 1 q))
    · exact Or.inr (Or.inr (Or.inl (e 2 q)))
    · exact Or.inr (Or.inr (Or.inr (Or.inl (e 3 q))))
    · exact Or.inr (Or.inr (Or.inr (Or.inr (Or.inl (e 4 q)))))
    · exact Or.inr (Or.inr (Or.inr (Or.inr (Or.inr (Or.inl (e 5 q))))))
    · exact Or.inr (Or.inr (Or.inr (Or.inr (Or.inr (Or.inr (Or.inl (e 6 q)))))))
    · exact Or.inr (Or.inr (Or.inr (Or.inr (Or.inr (Or.inr (Or.inr (Or.inl (e 7 q))))))))
    · exact Or.inr (Or.inr (Or.inr (Or.inr (Or.inr (Or.inr (Or.inr (Or.inr (Or.inl (e 8 q)))))))))
    · exact Or.inr (Or.inr (Or.inr (Or.inr (Or.inr (Or.inr (Or.inr (Or.inr (Or.inr (Or.inl (e 9 q))))))))))
    · exact Or.inr (Or.inr (Or.inr (Or.inr (Or.inr (Or.inr (Or.inr (Or.inr (Or.inr (Or.inr (Or.inl (e 10 q)))))))))))
    · exact Or.inr (Or.inr (Or.inr (Or.inr (Or.inr (Or.inr (Or.inr (Or.inr (Or.inr (Or.inr (Or.inr (Or.inl (e 11 q))))))))))))
    · exact Or.inr (Or.inr (Or.inr (Or.inr (Or.inr (Or.inr (Or.inr (Or.inr (Or.inr (Or.inr (Or.inr (Or.inr (e 12 q))))))))))))
end
section
theorem dX6_init_0 : decode cX6_init 0 = .ok (.aload_n 0, 1) := by decide +kernel
theorem dX6_init_1 : decode cX6_init 1 = .ok (.invokespecial 3, 3) := by decide +kernel
theorem dX6_init_4 : decode cX6_init 4 = .ok (.aload_n 0, 1) := by decide +kernel
theorem dX6_init_5 : decode cX6_init 5 = .ok (.bipush 44, 2) := by decide +kernel
theorem dX6_init_7 : decode cX6_init 7 = .ok (.newarray .int, 2) := by decide +kernel
theorem dX6_init_9 : decode cX6_init 9 = .ok (.putfield 9, 3) := by decide +kernel
theorem dX6_init_12 : decode cX6_init 12 = .ok (.return_, 1) := by decide +kernel
set_option maxHeartbeats 4000000 in
set_option maxRecDepth 100000 in
theorem c_X6_init (l : Launch) (D : va_G) (cy : ClassId) (pg : Nat) : wk_Cv l yX6_init cX6_init 1 none { frames := 1, cells := 1, slots := 44, locals := 12 } D cy [.ref pg] [(pg, .inr (6, [.null, .int 0]))] 1 44 (fun (u : Nat → Nat) => True) (fun u => [(pg, .inr (6, [.ref (u 0), .int 0])), ((u 0), .inl (cy, 44, .inl (fun _ => 0)))]) := by
  refine wk_mkCv (by decide) (Nat.le_of_ble_eq_true rfl) ?_
  intro p e s m below meth c A ls B hA hK hP hD hS hl
  obtain ⟨hx, hb, hr, hlocks, hml, hown, htb, hin⟩ := B
  have hl : lv_has ls 1 [(0, .ref pg)] := hl
  refine lv_aload_n hx hb dX6_init_0 rfl (lv_at hl 0 rfl) ?_
  refine W.objInit hx hb hown (htb _ tw_91) (htb _ tw_84) (htb _ tw_85) rfl (by rw [hml]; exact hl.1) rfl dX6_init_1 (Nat.le_of_ble_eq_true rfl) (Nat.le_of_ble_eq_true rfl) ?_
  refine W.eq (g2 := F0 m 4 ls []) rfl ?_
  refine lv_aload_n hx hb dX6_init_4 rfl (lv_at hl 0 rfl) ?_
  refine lv_bipush (v := 44) hx hb dX6_init_5 (by decide) ?_
  refine wk_newa hx hb (htb _ tw_101) hK hP hD hS hA 44 (by decide) (by decide) (by decide) (Nat.le_of_ble_eq_true rfl) (Nat.le_of_ble_eq_true rfl) dX6_init_7 (fun q_1 H hP hD hS => ?_)
  refine W.widen (k := 1) (n := 44) (by decide) (by decide) ?_
  have hP : va_P D classes [(pg, .inr (6, [.null, .int 0])), (q_1, .inl (cy, 44, .inl (fun _ => 0)))] H := hP
  have hD : va_D A [(pg, .inr (6, [.null, .int 0])), (q_1, .inl (cy, 44, .inl (fun _ => 0)))] := hD
  refine va_putF (D := D) (ci := 6) (v := .ref q_1) (ty := (.array .int)) (C := RX6) (T := TX6) (N := 2) hx hb htb inX6 tyX6 tyX6_ok nmX6 hown hK hP hD hS 0 rfl rfl 0 (by decide) (htb _ tw_92) (fun _ h9 => h9) rfl hin rfl (by decide +kernel) rfl rfl (Nat.le_of_ble_eq_true rfl) dX6_init_9 (fun H locs hP hD hS => ?_)
  have hP : va_P D classes [(pg, .inr (6, [.ref q_1, .int 0])), (q_1, .inl (cy, 44, .inl (fun _ => 0)))] H := hP
  have hD : va_D A [(pg, .inr (6, [.ref q_1, .int 0])), (q_1, .inl (cy, 44, .inl (fun _ => 0)))] := hD
  refine W.widen (k := 1) (n := 44) (by decide) (by decide) ?_
  exact wk_vret (fun i => [q_1].getD i 0) hx hb hr hlocks trivial hK hP hD hS [0, 1] rfl rfl dX6_init_12
theorem dX8_init_0 : decode cX8_init 0 = .ok (.aload_n 0, 1) := by decide +kernel
theorem dX8_init_1 : decode cX8_init 1 = .ok (.invokespecial 3, 3) := by decide +kernel
theorem dX8_init_4 : decode cX8_init 4 = .ok (.aload_n 0, 1) := by decide +kernel
theorem dX8_init_5 : decode cX8_init 5 = .ok (.bipush 8, 2) := by decide +kernel
theorem dX8_init_7 : decode cX8_init 7 = .ok (.newarray .int, 2) := by decide +kernel
theorem dX8_init_9 : decode cX8_init 9 = .ok (.putfield 9, 3) := by decide +kernel
theorem dX8_init_12 : decode cX8_init 12 = .ok (.aload_n 0, 1) := by decide +kernel
theorem dX8_init_13 : decode cX8_init 13 = .ok (.bipush 8, 2) := by decide +kernel
theorem dX8_init_15 : decode cX8_init 15 = .ok (.newarray .int, 2) := by decide +kernel
theorem dX8_init_17 : decode cX8_init 17 = .ok (.putfield 15, 3) := by decide +kernel
theorem dX8_init_20 : decode cX8_init 20 = .ok (.aload_n 0, 1) := by decide +kernel
theorem dX8_init_21 : decode cX8_init 21 = .ok (.bipush 8, 2) := by decide +kernel
theorem dX8_init_23 : decode cX8_init 23 = .ok (.newarray .int, 2) := by decide +kernel
theorem dX8_init_25 : decode cX8_init 25 = .ok (.putfield 18, 3) := by decide +kernel
theorem dX8_init_28 : decode cX8_init 28 = .ok (.aload_n 0, 1) := by decide +kernel
theorem dX8_init_29 : decode cX8_init 29 = .ok (.bipush 8, 2) := by decide +kernel
theorem dX8_init_31 : decode cX8_init 31 = .ok (.newarray .int, 2) := by decide +kernel
theorem dX8_init_33 : decode cX8_init 33 = .ok (.putfield 21, 3) := by decide +kernel
theorem dX8_init_36 : decode cX8_init 36 = .ok (.return_, 1) := by decide +kernel
set_option maxHeartbeats 4000000 in
set_option maxRecDepth 100000 in
theorem c_X8_init (l : Launch) (D : va_G) (cy : ClassId) (nwf : Nat) : wk_Cv l yX8_init cX8_init 1 none { frames := 1, cells := 4, slots := 32, locals := 12 } D cy [.ref nwf] [(nwf, .inr (8, [.null, .null, .null, .null, .int 0]))] 4 32 (fun (u : Nat → Nat) => True) (fun u => [(nwf, .inr (8, [.ref (u 0), .ref (u 1), .ref (u 2), .ref (u 3), .int 0])), ((u 0), .inl (cy, 8, .inl (fun _ => 0))), ((u 1), .inl (cy, 8, .inl (fun _ => 0))), ((u 2), .inl (cy, 8, .inl (fun _ => 0))), ((u 3), .inl (cy, 8, .inl (fun _ => 0)))]) := by
  refine wk_mkCv (by decide) (Nat.le_of_ble_eq_true rfl) ?_
  intro p e s m below meth c A ls B hA hK hP hD hS hl
  obtain ⟨hx, hb, hr, hlocks, hml, hown, htb, hin⟩ := B
  have hl : lv_has ls 1 [(0, .ref nwf)] := hl
  refine lv_aload_n hx hb dX8_init_0 rfl (lv_at hl 0 rfl) ?_
  refine W.objInit hx hb hown (htb _ tw_113) (htb _ tw_84) (htb _ tw_85) rfl (by rw [hml]; exact hl.1) rfl dX8_init_1 (Nat.le_of_ble_eq_true rfl) (Nat.le_of_ble_eq_true rfl) ?_
  refine W.eq (g2 := F0 m 4 ls []) rfl ?_
  refine lv_aload_n hx hb dX8_init_4 rfl (lv_at hl 0 rfl) ?_
  refine lv_bipush (v := 8) hx hb dX8_init_5 (by decide) ?_
  refine wk_newa hx hb (htb _ tw_101) hK hP hD hS hA 8 (by decide) (by decide) (by decide) (Nat.le_of_ble_eq_true rfl) (Nat.le_of_ble_eq_true rfl) dX8_init_7 (fun q_1 H hP hD hS => ?_)
  refine W.widen (k := 1) (n := 8) (by decide) (by decide) ?_
  have hP : va_P D classes [(nwf, .inr (8, [.null, .null, .null, .null, .int 0])), (q_1, .inl (cy, 8, .inl (fun _ => 0)))] H := hP
  have hD : va_D A [(nwf, .inr (8, [.null, .null, .null, .null, .int 0])), (q_1, .inl (cy, 8, .inl (fun _ => 0)))] := hD
  refine va_putF (D := D) (ci := 8) (v := .ref q_1) (ty := (.array .int)) (C := RX8) (T := TX8) (N := 5) hx hb htb inX8 tyX8 tyX8_ok nmX8 hown hK hP hD hS 0 rfl rfl 0 (by decide) (htb _ tw_114) (fun _ h9 => h9) rfl hin rfl (by decide +kernel) rfl rfl (Nat.le_of_ble_eq_true rfl) dX8_init_9 (fun H locs hP hD hS => ?_)
  have hP : va_P D classes [(nwf, .inr (8, [.ref q_1, .null, .null, .null, .int 0])), (q_1, .inl (cy, 8, .inl (fun _ => 0)))] H := hP
  have hD : va_D A [(nwf, .inr (8, [.ref q_1, .null, .null, .null, .int 0])), (q_1, .inl (cy, 8, .inl (fun _ => 0)))] := hD
  refine lv_aload_n hx hb dX8_init_12 rfl (lv_at hl 0 rfl) ?_
  refine lv_bipush (v := 8) hx hb dX8_init_13 (by decide) ?_
  refine wk_newa hx hb (htb _ tw_101) hK hP hD hS hA 8 (by decide) (by decide) (by decide) (Nat.le_of_ble_eq_true rfl) (Nat.le_of_ble_eq_true rfl) dX8_init_15 (fun q_2 H hP hD hS => ?_)
  refine W.widen (k := 2) (n := 16) (by decide) (by decide) ?_
  have hP : va_P D classes [(nwf, .inr (8, [.ref q_1, .null, .null, .null, .int 0])), (q_1, .inl (cy, 8, .inl (fun _ => 0))), (q_2, .inl (cy, 8, .inl (fun _ => 0)))] H := hP
  have hD : va_D A [(nwf, .inr (8, [.ref q_1, .null, .null, .null, .int 0])), (q_1, .inl (cy, 8, .inl (fun _ => 0))), (q_2, .inl (cy, 8, .inl (fun _ => 0)))] := hD
  refine va_putF (D := D) (ci := 8) (v := .ref q_2) (ty := (.array .int)) (C := RX8) (T := TX8) (N := 5) hx hb htb inX8 tyX8 tyX8_ok nmX8 hown hK hP hD hS 0 rfl rfl 1 (by decide) (htb _ tw_119) (fun _ h9 => h9) rfl hin rfl (by decide +kernel) rfl rfl (Nat.le_of_ble_eq_true rfl) dX8_init_17 (fun H locs hP hD hS => ?_)
  have hP : va_P D classes [(nwf, .inr (8, [.ref q_1, .ref q_2, .null, .null, .int 0])), (q_1, .inl (cy, 8, .inl (fun _ => 0))), (q_2, .inl (cy, 8, .inl (fun _ => 0)))] H := hP
  have hD : va_D A [(nwf, .inr (8, [.ref q_1, .ref q_2, .null, .null, .int 0])), (q_1, .inl (cy, 8, .inl (fun _ => 0))), (q_2, .inl (cy, 8, .inl (fun _ => 0)))] := hD
  refine lv_aload_n hx hb dX8_init_20 rfl (lv_at hl 0 rfl) ?_
  refine lv_bipush (v := 8) hx hb dX8_init_21 (by decide) ?_
  refine wk_newa hx hb (htb _ tw_101) hK hP hD hS hA 8 (by decide) (by decide) (by decide) (Nat.le_of_ble_eq_true rfl) (Nat.le_of_ble_eq_true rfl) dX8_init_23 (fun q_3 H hP hD hS => ?_)
  refine W.widen (k := 3) (n := 24) (by decide) (by decide) ?_
  have hP : va_P D classes [(nwf, .inr (8, [.ref q_1, .ref q_2, .null, .null, .int 0])), (q_1, .inl (cy, 8, .inl (fun _ => 0))), (q_2, .inl (cy, 8, .inl (fun _ => 0))), (q_3, .inl (cy, 8, .inl (fun _ => 0)))] H := hP
  have hD : va_D A [(nwf, .inr (8, [.ref q_1, .ref q_2, .null, .null, .int 0])), (q_1, .inl (cy, 8, .inl (fun _ => 0))), (q_2, .inl (cy, 8, .inl (fun _ => 0))), (q_3, .inl (cy, 8, .inl (fun _ => 0)))] := hD
  refine va_putF (D := D) (ci := 8) (v := .ref q_3) (ty := (.array .int)) (C := RX8) (T := TX8) (N := 5) hx hb htb inX8 tyX8 tyX8_ok nmX8 hown hK hP hD hS 0 rfl rfl 2 (by decide) (htb _ tw_122) (fun _ h9 => h9) rfl hin rfl (by decide +kernel) rfl rfl (Nat.le_of_ble_eq_true rfl) dX8_init_25 (fun H locs hP hD hS => ?_)
  have hP : va_P D classes [(nwf, .inr (8, [.ref q_1, .ref q_2, .ref q_3, .null, .int 0])), (q_1, .inl (cy, 8, .inl (fun _ => 0))), (q_2, .inl (cy, 8, .inl (fun _ => 0))), (q_3, .inl (cy, 8, .inl (fun _ => 0)))] H := hP
  have hD : va_D A [(nwf, .inr (8, [.ref q_1, .ref q_2, .ref q_3, .null, .int 0])), (q_1, .inl (cy, 8, .inl (fun _ => 0))), (q_2, .inl (cy, 8, .inl (fun _ => 0))), (q_3, .inl (cy, 8, .inl (fun _ => 0)))] := hD
  refine lv_aload_n hx hb dX8_init_28 rfl (lv_at hl 0 rfl) ?_
  refine lv_bipush (v := 8) hx hb dX8_init_29 (by decide) ?_
  refine wk_newa hx hb (htb _ tw_101) hK hP hD hS hA 8 (by decide) (by decide) (by decide) (Nat.le_of_ble_eq_true rfl) (Nat.le_of_ble_eq_true rfl) dX8_init_31 (fun q_4 H hP hD hS => ?_)
  refine W.widen (k := 4) (n := 32) (by decide) (by decide) ?_
  have hP : va_P D classes [(nwf, .inr (8, [.ref q_1, .ref q_2, .ref q_3, .null, .int 0])), (q_1, .inl (cy, 8, .inl (fun _ => 0))), (q_2, .inl (cy, 8, .inl (fun _ => 0))), (q_3, .inl (cy, 8, .inl (fun _ => 0))), (q_4, .inl (cy, 8, .inl (fun _ => 0)))] H := hP
  have hD : va_D A [(nwf, .inr (8, [.ref q_1, .ref q_2, .ref q_3, .null, .int 0])), (q_1, .inl (cy, 8, .inl (fun _ => 0))), (q_2, .inl (cy, 8, .inl (fun _ => 0))), (q_3, .inl (cy, 8, .inl (fun _ => 0))), (q_4, .inl (cy, 8, .inl (fun _ => 0)))] := hD
  refine va_putF (D := D) (ci := 8) (v := .ref q_4) (ty := (.array .int)) (C := RX8) (T := TX8) (N := 5) hx hb htb inX8 tyX8 tyX8_ok nmX8 hown hK hP hD hS 0 rfl rfl 3 (by decide) (htb _ tw_126) (fun _ h9 => h9) rfl hin rfl (by decide +kernel) rfl rfl (Nat.le_of_ble_eq_true rfl) dX8_init_33 (fun H locs hP hD hS => ?_)
  have hP : va_P D classes [(nwf, .inr (8, [.ref q_1, .ref q_2, .ref q_3, .ref q_4, .int 0])), (q_1, .inl (cy, 8, .inl (fun _ => 0))), (q_2, .inl (cy, 8, .inl (fun _ => 0))), (q_3, .inl (cy, 8, .inl (fun _ => 0))), (q_4, .inl (cy, 8, .inl (fun _ => 0)))] H := hP
  have hD : va_D A [(nwf, .inr (8, [.ref q_1, .ref q_2, .ref q_3, .ref q_4, .int 0])), (q_1, .inl (cy, 8, .inl (fun _ => 0))), (q_2, .inl (cy, 8, .inl (fun _ => 0))), (q_3, .inl (cy, 8, .inl (fun _ => 0))), (q_4, .inl (cy, 8, .inl (fun _ => 0)))] := hD
  refine W.widen (k := 4) (n := 32) (by decide) (by decide) ?_
  exact wk_vret (fun i => [q_1, q_2, q_3, q_4].getD i 0) hx hb hr hlocks trivial hK hP hD hS [0, 1, 2, 3, 4] rfl rfl dX8_init_36
theorem dX4_init_0 : decode cX4_init 0 = .ok (.aload_n 0, 1) := by decide +kernel
theorem dX4_init_1 : decode cX4_init 1 = .ok (.invokespecial 3, 3) := by decide +kernel
theorem dX4_init_4 : decode cX4_init 4 = .ok (.aload_n 0, 1) := by decide +kernel
theorem dX4_init_5 : decode cX4_init 5 = .ok (.bipush 6, 2) := by decide +kernel
theorem dX4_init_7 : decode cX4_init 7 = .ok (.newarray .int, 2) := by decide +kernel
theorem dX4_init_9 : decode cX4_init 9 = .ok (.putfield 9, 3) := by decide +kernel
theorem dX4_init_12 : decode cX4_init 12 = .ok (.aload_n 0, 1) := by decide +kernel
theorem dX4_init_13 : decode cX4_init 13 = .ok (.bipush 6, 2) := by decide +kernel
theorem dX4_init_15 : decode cX4_init 15 = .ok (.newarray .int, 2) := by decide +kernel
theorem dX4_init_17 : decode cX4_init 17 = .ok (.putfield 15, 3) := by decide +kernel
theorem dX4_init_20 : decode cX4_init 20 = .ok (.aload_n 0, 1) := by decide +kernel
theorem dX4_init_21 : decode cX4_init 21 = .ok (.bipush 6, 2) := by decide +kernel
theorem dX4_init_23 : decode cX4_init 23 = .ok (.newarray .int, 2) := by decide +kernel
theorem dX4_init_25 : decode cX4_init 25 = .ok (.putfield 18, 3) := by decide +kernel
theorem dX4_init_28 : decode cX4_init 28 = .ok (.return_, 1) := by decide +kernel
set_option maxHeartbeats 4000000 in
set_option maxRecDepth 100000 in
theorem c_X4_init (l : Launch) (D : va_G) (cy : ClassId) (nwe : Nat) : wk_Cv l yX4_init cX4_init 1 none { frames := 1, cells := 3, slots := 18, locals := 12 } D cy [.ref nwe] [(nwe, .inr (4, [.null, .null, .null, .int 0]))] 3 18 (fun (u : Nat → Nat) => True) (fun u => [(nwe, .inr (4, [.ref (u 0), .ref (u 1), .ref (u 2), .int 0])), ((u 0), .inl (cy, 6, .inl (fun _ => 0))), ((u 1), .inl (cy, 6, .inl (fun _ => 0))), ((u 2), .inl (cy, 6, .inl (fun _ => 0)))]) := by
  refine wk_mkCv (by decide) (Nat.le_of_ble_eq_true rfl) ?_
  intro p e s m below meth c A ls B hA hK hP hD hS hl
  obtain ⟨hx, hb, hr, hlocks, hml, hown, htb, hin⟩ := B
  have hl : lv_has ls 1 [(0, .ref nwe)] := hl
  refine lv_aload_n hx hb dX4_init_0 rfl (lv_at hl 0 rfl) ?_
  refine W.objInit hx hb hown (htb _ tw_151) (htb _ tw_84) (htb _ tw_85) rfl (by rw [hml]; exact hl.1) rfl dX4_init_1 (Nat.le_of_ble_eq_true rfl) (Nat.le_of_ble_eq_true rfl) ?_
  refine W.eq (g2 := F0 m 4 ls []) rfl ?_
  refine lv_aload_n hx hb dX4_init_4 rfl (lv_at hl 0 rfl) ?_
  refine lv_bipush (v := 6) hx hb dX4_init_5 (by decide) ?_
  refine wk_newa hx hb (htb _ tw_101) hK hP hD hS hA 6 (by decide) (by decide) (by decide) (Nat.le_of_ble_eq_true rfl) (Nat.le_of_ble_eq_true rfl) dX4_init_7 (fun q_1 H hP hD hS => ?_)
  refine W.widen (k := 1) (n := 6) (by decide) (by decide) ?_
  have hP : va_P D classes [(nwe, .inr (4, [.null, .null, .null, .int 0])), (q_1, .inl (cy, 6, .inl (fun _ => 0)))] H := hP
  have hD : va_D A [(nwe, .inr (4, [.null, .null, .null, .int 0])), (q_1, .inl (cy, 6, .inl (fun _ => 0)))] := hD
  refine va_putF (D := D) (ci := 4) (v := .ref q_1) (ty := (.array .int)) (C := RX4) (T := TX4) (N := 4) hx hb htb inX4 tyX4 tyX4_ok nmX4 hown hK hP hD hS 0 rfl rfl 0 (by decide) (htb _ tw_152) (fun _ h9 => h9) rfl hin rfl (by decide +kernel) rfl rfl (Nat.le_of_ble_eq_true rfl) dX4_init_9 (fun H locs hP hD hS => ?_)
  have hP : va_P D classes [(nwe, .inr (4, [.ref q_1, .null, .null, .int 0])), (q_1, .inl (cy, 6, .inl (fun _ => 0)))] H := hP
  have hD : va_D A [(nwe, .inr (4, [.ref q_1, .null, .null, .int 0])), (q_1, .inl (cy, 6, .inl (fun _ => 0)))] := hD
  refine lv_aload_n hx hb dX4_init_12 rfl (lv_at hl 0 rfl) ?_
  refine lv_bipush (v := 6) hx hb dX4_init_13 (by decide) ?_
  refine wk_newa hx hb (htb _ tw_101) hK hP hD hS hA 6 (by decide) (by decide) (by decide) (Nat.le_of_ble_eq_true rfl) (Nat.le_of_ble_eq_true rfl) dX4_init_15 (fun q_2 H hP hD hS => ?_)
  refine W.widen (k := 2) (n := 12) (by decide) (by decide) ?_
  have hP : va_P D classes [(nwe, .inr (4, [.ref q_1, .null, .null, .int 0])), (q_1, .inl (cy, 6, .inl (fun _ => 0))), (q_2, .inl (cy, 6, .inl (fun _ => 0)))] H := hP
  have hD : va_D A [(nwe, .inr (4, [.ref q_1, .null, .null, .int 0])), (q_1, .inl (cy, 6, .inl (fun _ => 0))), (q_2, .inl (cy, 6, .inl (fun _ => 0)))] := hD
  refine va_putF (D := D) (ci := 4) (v := .ref q_2) (ty := (.array .int)) (C := RX4) (T := TX4) (N := 4) hx hb htb inX4 tyX4 tyX4_ok nmX4 hown hK hP hD hS 0 rfl rfl 1 (by decide) (htb _ tw_154) (fun _ h9 => h9) rfl hin rfl (by decide +kernel) rfl rfl (Nat.le_of_ble_eq_true rfl) dX4_init_17 (fun H locs hP hD hS => ?_)
  have hP : va_P D classes [(nwe, .inr (4, [.ref q_1, .ref q_2, .null, .int 0])), (q_1, .inl (cy, 6, .inl (fun _ => 0))), (q_2, .inl (cy, 6, .inl (fun _ => 0)))] H := hP
  have hD : va_D A [(nwe, .inr (4, [.ref q_1, .ref q_2, .null, .int 0])), (q_1, .inl (cy, 6, .inl (fun _ => 0))), (q_2, .inl (cy, 6, .inl (fun _ => 0)))] := hD
  refine lv_aload_n hx hb dX4_init_20 rfl (lv_at hl 0 rfl) ?_
  refine lv_bipush (v := 6) hx hb dX4_init_21 (by decide) ?_
  refine wk_newa hx hb (htb _ tw_101) hK hP hD hS hA 6 (by decide) (by decide) (by decide) (Nat.le_of_ble_eq_true rfl) (Nat.le_of_ble_eq_true rfl) dX4_init_23 (fun q_3 H hP hD hS => ?_)
  refine W.widen (k := 3) (n := 18) (by decide) (by decide) ?_
  have hP : va_P D classes [(nwe, .inr (4, [.ref q_1, .ref q_2, .null, .int 0])), (q_1, .inl (cy, 6, .inl (fun _ => 0))), (q_2, .inl (cy, 6, .inl (fun _ => 0))), (q_3, .inl (cy, 6, .inl (fun _ => 0)))] H := hP
  have hD : va_D A [(nwe, .inr (4, [.ref q_1, .ref q_2, .null, .int 0])), (q_1, .inl (cy, 6, .inl (fun _ => 0))), (q_2, .inl (cy, 6, .inl (fun _ => 0))), (q_3, .inl (cy, 6, .inl (fun _ => 0)))] := hD
  refine va_putF (D := D) (ci := 4) (v := .ref q_3) (ty := (.array .int)) (C := RX4) (T := TX4) (N := 4) hx hb htb inX4 tyX4 tyX4_ok nmX4 hown hK hP hD hS 0 rfl rfl 2 (by decide) (htb _ tw_156) (fun _ h9 => h9) rfl hin rfl (by decide +kernel) rfl rfl (Nat.le_of_ble_eq_true rfl) dX4_init_25 (fun H locs hP hD hS => ?_)
  have hP : va_P D classes [(nwe, .inr (4, [.ref q_1, .ref q_2, .ref q_3, .int 0])), (q_1, .inl (cy, 6, .inl (fun _ => 0))), (q_2, .inl (cy, 6, .inl (fun _ => 0))), (q_3, .inl (cy, 6, .inl (fun _ => 0)))] H := hP
  have hD : va_D A [(nwe, .inr (4, [.ref q_1, .ref q_2, .ref q_3, .int 0])), (q_1, .inl (cy, 6, .inl (fun _ => 0))), (q_2, .inl (cy, 6, .inl (fun _ => 0))), (q_3, .inl (cy, 6, .inl (fun _ => 0)))] := hD
  refine W.widen (k := 3) (n := 18) (by decide) (by decide) ?_
  exact wk_vret (fun i => [q_1, q_2, q_3].getD i 0) hx hb hr hlocks trivial hK hP hD hS [0, 1, 2, 3] rfl rfl dX4_init_28
theorem dX10_init_0 : decode cX10_init 0 = .ok (.aload_n 0, 1) := by decide +kernel
theorem dX10_init_1 : decode cX10_init 1 = .ok (.invokespecial 3, 3) := by decide +kernel
theorem dX10_init_4 : decode cX10_init 4 = .ok (.return_, 1) := by decide +kernel
set_option maxHeartbeats 4000000 in
set_option maxRecDepth 100000 in
theorem c_X10_init (l : Launch) (D : va_G) (cy : ClassId) (wk : Nat) : wk_Cv l yX10_init cX10_init 1 none { frames := 1, cells := 0, slots := 0, locals := 12 } D cy [.ref wk] [(wk, .inr (10, [.int 0, .int 0, .int 0]))] 0 0 (fun (u : Unit) => True) (fun u => [(wk, .inr (10, [.int 0, .int 0, .int 0]))]) := by
  refine wk_mkCv (by decide) (Nat.le_of_ble_eq_true rfl) ?_
  intro p e s m below meth c A ls B hA hK hP hD hS hl
  obtain ⟨hx, hb, hr, hlocks, hml, hown, htb, hin⟩ := B
  have hl : lv_has ls 1 [(0, .ref wk)] := hl
  refine lv_aload_n hx hb dX10_init_0 rfl (lv_at hl 0 rfl) ?_
  refine W.objInit hx hb hown (htb _ tw_200) (htb _ tw_84) (htb _ tw_85) rfl (by rw [hml]; exact hl.1) rfl dX10_init_1 (Nat.le_of_ble_eq_true rfl) (Nat.le_of_ble_eq_true rfl) ?_
  refine W.eq (g2 := F0 m 4 ls []) rfl ?_
  refine W.widen (k := 0) (n := 0) (by decide) (by decide) ?_
  exact wk_vret () hx hb hr hlocks trivial hK hP hD hS [0] rfl rfl dX10_init_4
theorem dX2_init_0 : decode cX2_init 0 = .ok (.aload_n 0, 1) := by decide +kernel
theorem dX2_init_1 : decode cX2_init 1 = .ok (.invokespecial 1, 3) := by decide +kernel
theorem dX2_init_4 : decode cX2_init 4 = .ok (.aload_n 0, 1) := by decide +kernel
theorem dX2_init_5 : decode cX2_init 5 = .ok (.new 7, 3) := by decide +kernel
theorem dX2_init_8 : decode cX2_init 8 = .ok (.dup, 1) := by decide +kernel
theorem dX2_init_9 : decode cX2_init 9 = .ok (.invokespecial 9, 3) := by decide +kernel
theorem dX2_init_12 : decode cX2_init 12 = .ok (.putfield 10, 3) := by decide +kernel
theorem dX2_init_15 : decode cX2_init 15 = .ok (.aload_n 0, 1) := by decide +kernel
theorem dX2_init_16 : decode cX2_init 16 = .ok (.new 7, 3) := by decide +kernel
theorem dX2_init_19 : decode cX2_init 19 = .ok (.dup, 1) := by decide +kernel
theorem dX2_init_20 : decode cX2_init 20 = .ok (.invokespecial 9, 3) := by decide +kernel
theorem dX2_init_23 : decode cX2_init 23 = .ok (.putfield 16, 3) := by decide +kernel
theorem dX2_init_26 : decode cX2_init 26 = .ok (.aload_n 0, 1) := by decide +kernel
theorem dX2_init_27 : decode cX2_init 27 = .ok (.new 19, 3) := by decide +kernel
theorem dX2_init_30 : decode cX2_init 30 = .ok (.dup, 1) := by decide +kernel
theorem dX2_init_31 : decode cX2_init 31 = .ok (.invokespecial 21, 3) := by decide +kernel
theorem dX2_init_34 : decode cX2_init 34 = .ok (.putfield 22, 3) := by decide +kernel
theorem dX2_init_37 : decode cX2_init 37 = .ok (.return_, 1) := by decide +kernel
set_option maxHeartbeats 4000000 in
set_option maxRecDepth 100000 in
theorem c_X2_init (l : Launch) (D : va_G) (cy : ClassId) (nw : Nat) : wk_Cv l yX2_init cX2_init 1 none { frames := 2, cells := 14, slots := 96, locals := 32 } D cy [.ref nw] [(nw, .inr (2, [.null, .null, .null, .int 0, .int 0, .int 0]))] 14 96 (fun (u : Nat → Nat) => True) (fun u => [(nw, .inr (2, [.ref (u 0), .ref (u 5), .ref (u 10), .int 0, .int 0, .int 0])), ((u 0), .inr (8, [.ref (u 1), .ref (u 2), .ref (u 3), .ref (u 4), .int 0])), ((u 1), .inl (cy, 8, .inl (fun _ => 0))), ((u 2), .inl (cy, 8, .inl (fun _ => 0))), ((u 3), .inl (cy, 8, .inl (fun _ => 0))), ((u 4), .inl (cy, 8, .inl (fun _ => 0))), ((u 5), .inr (8, [.ref (u 6), .ref (u 7), .ref (u 8), .ref (u 9), .int 0])), ((u 6), .inl (cy, 8, .inl (fun _ => 0))), ((u 7), .inl (cy, 8, .inl (fun _ => 0))), ((u 8), .inl (cy, 8, .inl (fun _ => 0))), ((u 9), .inl (cy, 8, .inl (fun _ => 0))), ((u 10), .inr (4, [.ref (u 11), .ref (u 12), .ref (u 13), .int 0])), ((u 11), .inl (cy, 6, .inl (fun _ => 0))), ((u 12), .inl (cy, 6, .inl (fun _ => 0))), ((u 13), .inl (cy, 6, .inl (fun _ => 0)))]) := by
  refine wk_mkCv (by decide) (Nat.le_of_ble_eq_true rfl) ?_
  intro p e s m below meth c A ls B hA hK hP hD hS hl
  obtain ⟨hx, hb, hr, hlocks, hml, hown, htb, hin⟩ := B
  have hl : lv_has ls 1 [(0, .ref nw)] := hl
  refine lv_aload_n hx hb dX2_init_0 rfl (lv_at hl 0 rfl) ?_
  refine W.objInit hx hb hown (htb _ tw_107) (htb _ tw_84) (htb _ tw_85) rfl (by rw [hml]; exact hl.1) rfl dX2_init_1 (Nat.le_of_ble_eq_true rfl) (Nat.le_of_ble_eq_true rfl) ?_
  refine W.eq (g2 := F0 m 4 ls []) rfl ?_
  refine lv_aload_n hx hb dX2_init_4 rfl (lv_at hl 0 rfl) ?_
  refine va_new (ci := 8) (fs := [.null, .null, .null, .null, .int 0]) (C := RX8) (T := TX8) (N := 5) hx hb htb inX8 tyX8 tyX8_ok hown (htb _ tw_108) (htb _ tw_109) (htb _ tw_67) hK hP hD hS hA rfl (fun j hj => by rcases (show j = 0 ∨ j = 1 ∨ j = 2 ∨ j = 3 ∨ j = 4 by omega) with rfl | rfl | rfl | rfl | rfl <;> rfl) (Nat.le_of_ble_eq_true rfl) (Nat.le_of_ble_eq_true rfl) dX2_init_5 (fun q_1 H hP hD hS => ?_)
  refine W.widen (k := 1) (n := 5) (by decide) (by decide) ?_
  have hP : va_P D classes [(nw, .inr (2, [.null, .null, .null, .int 0, .int 0, .int 0])), (q_1, .inr (8, [.null, .null, .null, .null, .int 0]))] H := hP
  have hD : va_D A [(nw, .inr (2, [.null, .null, .null, .int 0, .int 0, .int 0])), (q_1, .inr (8, [.null, .null, .null, .null, .int 0]))] := hD
  refine lv_dup hx hb dX2_init_8 rfl ?_
  refine wk_vI (As := []) (rest := [.ref q_1, .ref nw]) (wc := [(q_1, .inr (8, [.null, .null, .null, .null, .int 0]))]) (wr := [(nw, .inr (2, [.null, .null, .null, .int 0, .int 0, .int 0]))]) (n := 0) (R := _) ⟨hx, hb, hml, hown, htb⟩ (c_X8_init l D cy q_1) tw_112 tw_110 tw_111 tw_67 rfl rfl rfl (by decide +kernel) ⟨Nat.le_of_ble_eq_true rfl, Nat.le_of_ble_eq_true rfl⟩ hK hP hD hS hA [1] [0] rfl rfl rfl rfl (by decide) rfl hl.1 rfl (Nat.le_of_ble_eq_true rfl) dX2_init_9 ⟨Nat.le_of_ble_eq_true rfl, Nat.le_of_ble_eq_true rfl⟩ (fun u_3 H locs hw_4 hP hD hS => ?_)
  refine W.widen (k := 5) (n := 37) (by decide) (by decide) ?_
  have hP : va_P D classes [(nw, .inr (2, [.null, .null, .null, .int 0, .int 0, .int 0])), (q_1, .inr (8, [.ref (u_3 0), .ref (u_3 1), .ref (u_3 2), .ref (u_3 3), .int 0])), ((u_3 0), .inl (cy, 8, .inl (fun _ => 0))), ((u_3 1), .inl (cy, 8, .inl (fun _ => 0))), ((u_3 2), .inl (cy, 8, .inl (fun _ => 0))), ((u_3 3), .inl (cy, 8, .inl (fun _ => 0)))] H := hP
  have hD : va_D A [(nw, .inr (2, [.null, .null, .null, .int 0, .int 0, .int 0])), (q_1, .inr (8, [.ref (u_3 0), .ref (u_3 1), .ref (u_3 2), .ref (u_3 3), .int 0])), ((u_3 0), .inl (cy, 8, .inl (fun _ => 0))), ((u_3 1), .inl (cy, 8, .inl (fun _ => 0))), ((u_3 2), .inl (cy, 8, .inl (fun _ => 0))), ((u_3 3), .inl (cy, 8, .inl (fun _ => 0)))] := hD
  refine va_putF (D := D) (ci := 2) (v := .ref q_1) (ty := (.object "LaneRow$Towers")) (C := RX2) (T := TX2) (N := 6) hx hb htb inX2 tyX2 tyX2_ok nmX2 hown hK hP hD hS 0 rfl rfl 0 (by decide) (htb _ tw_170) (fun _ h9 => h9) rfl hin rfl (by decide +kernel) rfl rfl (Nat.le_of_ble_eq_true rfl) dX2_init_12 (fun H locs hP hD hS => ?_)
  have hP : va_P D classes [(nw, .inr (2, [.ref q_1, .null, .null, .int 0, .int 0, .int 0])), (q_1, .inr (8, [.ref (u_3 0), .ref (u_3 1), .ref (u_3 2), .ref (u_3 3), .int 0])), ((u_3 0), .inl (cy, 8, .inl (fun _ => 0))), ((u_3 1), .inl (cy, 8, .inl (fun _ => 0))), ((u_3 2), .inl (cy, 8, .inl (fun _ => 0))), ((u_3 3), .inl (cy, 8, .inl (fun _ => 0)))] H := hP
  have hD : va_D A [(nw, .inr (2, [.ref q_1, .null, .null, .int 0, .int 0, .int 0])), (q_1, .inr (8, [.ref (u_3 0), .ref (u_3 1), .ref (u_3 2), .ref (u_3 3), .int 0])), ((u_3 0), .inl (cy, 8, .inl (fun _ => 0))), ((u_3 1), .inl (cy, 8, .inl (fun _ => 0))), ((u_3 2), .inl (cy, 8, .inl (fun _ => 0))), ((u_3 3), .inl (cy, 8, .inl (fun _ => 0)))] := hD
  refine lv_aload_n hx hb dX2_init_15 rfl (lv_at hl 0 rfl) ?_
  refine va_new (ci := 8) (fs := [.null, .null, .null, .null, .int 0]) (C := RX8) (T := TX8) (N := 5) hx hb htb inX8 tyX8 tyX8_ok hown (htb _ tw_108) (htb _ tw_109) (htb _ tw_67) hK hP hD hS hA rfl (fun j hj => by rcases (show j = 0 ∨ j = 1 ∨ j = 2 ∨ j = 3 ∨ j = 4 by omega) with rfl | rfl | rfl | rfl | rfl <;> rfl) (Nat.le_of_ble_eq_true rfl) (Nat.le_of_ble_eq_true rfl) dX2_init_16 (fun q_5 H hP hD hS => ?_)
  refine W.widen (k := 6) (n := 42) (by decide) (by decide) ?_
  have hP : va_P D classes [(nw, .inr (2, [.ref q_1, .null, .null, .int 0, .int 0, .int 0])), (q_1, .inr (8, [.ref (u_3 0), .ref (u_3 1), .ref (u_3 2), .ref (u_3 3), .int 0])), ((u_3 0), .inl (cy, 8, .inl (fun _ => 0))), ((u_3 1), .inl (cy, 8, .inl (fun _ => 0))), ((u_3 2), .inl (cy, 8, .inl (fun _ => 0))), ((u_3 3), .inl (cy, 8, .inl (fun _ => 0))), (q_5, .inr (8, [.null, .null, .null, .null, .int 0]))] H := hP
  have hD : va_D A [(nw, .inr (2, [.ref q_1, .null, .null, .int 0, .int 0, .int 0])), (q_1, .inr (8, [.ref (u_3 0), .ref (u_3 1), .ref (u_3 2), .ref (u_3 3), .int 0])), ((u_3 0), .inl (cy, 8, .inl (fun _ => 0))), ((u_3 1), .inl (cy, 8, .inl (fun _ => 0))), ((u_3 2), .inl (cy, 8, .inl (fun _ => 0))), ((u_3 3), .inl (cy, 8, .inl (fun _ => 0))), (q_5, .inr (8, [.null, .null, .null, .null, .int 0]))] := hD
  refine lv_dup hx hb dX2_init_19 rfl ?_
  refine wk_vI (As := []) (rest := [.ref q_5, .ref nw]) (wc := [(q_5, .inr (8, [.null, .null, .null, .null, .int 0]))]) (wr := [(nw, .inr (2, [.ref q_1, .null, .null, .int 0, .int 0, .int 0])), (q_1, .inr (8, [.ref (u_3 0), .ref (u_3 1), .ref (u_3 2), .ref (u_3 3), .int 0])), ((u_3 0), .inl (cy, 8, .inl (fun _ => 0))), ((u_3 1), .inl (cy, 8, .inl (fun _ => 0))), ((u_3 2), .inl (cy, 8, .inl (fun _ => 0))), ((u_3 3), .inl (cy, 8, .inl (fun _ => 0)))]) (n := 0) (R := _) ⟨hx, hb, hml, hown, htb⟩ (c_X8_init l D cy q_5) tw_112 tw_110 tw_111 tw_67 rfl rfl rfl (by decide +kernel) ⟨Nat.le_of_ble_eq_true rfl, Nat.le_of_ble_eq_true rfl⟩ hK hP hD hS hA [6] [0, 1, 2, 3, 4, 5] rfl rfl rfl rfl (by decide) rfl hl.1 rfl (Nat.le_of_ble_eq_true rfl) dX2_init_20 ⟨Nat.le_of_ble_eq_true rfl, Nat.le_of_ble_eq_true rfl⟩ (fun u_7 H locs hw_8 hP hD hS => ?_)
  refine W.widen (k := 10) (n := 74) (by decide) (by decide) ?_
  have hP : va_P D classes [(nw, .inr (2, [.ref q_1, .null, .null, .int 0, .int 0, .int 0])), (q_1, .inr (8, [.ref (u_3 0), .ref (u_3 1), .ref (u_3 2), .ref (u_3 3), .int 0])), ((u_3 0), .inl (cy, 8, .inl (fun _ => 0))), ((u_3 1), .inl (cy, 8, .inl (fun _ => 0))), ((u_3 2), .inl (cy, 8, .inl (fun _ => 0))), ((u_3 3), .inl (cy, 8, .inl (fun _ => 0))), (q_5, .inr (8, [.ref (u_7 0), .ref (u_7 1), .ref (u_7 2), .ref (u_7 3), .int 0])), ((u_7 0), .inl (cy, 8, .inl (fun _ => 0))), ((u_7 1), .inl (cy, 8, .inl (fun _ => 0))), ((u_7 2), .inl (cy, 8, .inl (fun _ => 0))), ((u_7 3), .inl (cy, 8, .inl (fun _ => 0)))] H := hP
  have hD : va_D A [(nw, .inr (2, [.ref q_1, .null, .null, .int 0, .int 0, .int 0])), (q_1, .inr (8, [.ref (u_3 0), .ref (u_3 1), .ref (u_3 2), .ref (u_3 3), .int 0])), ((u_3 0), .inl (cy, 8, .inl (fun _ => 0))), ((u_3 1), .inl (cy, 8, .inl (fun _ => 0))), ((u_3 2), .inl (cy, 8, .inl (fun _ => 0))), ((u_3 3), .inl (cy, 8, .inl (fun _ => 0))), (q_5, .inr (8, [.ref (u_7 0), .ref (u_7 1), .ref (u_7 2), .ref (u_7 3), .int 0])), ((u_7 0), .inl (cy, 8, .inl (fun _ => 0))), ((u_7 1), .inl (cy, 8, .inl (fun _ => 0))), ((u_7 2), .inl (cy, 8, .inl (fun _ => 0))), ((u_7 3), .inl (cy, 8, .inl (fun _ => 0)))] := hD
  refine va_putF (D := D) (ci := 2) (v := .ref q_5) (ty := (.object "LaneRow$Towers")) (C := RX2) (T := TX2) (N := 6) hx hb htb inX2 tyX2 tyX2_ok nmX2 hown hK hP hD hS 0 rfl rfl 1 (by decide) (htb _ tw_172) (fun _ h9 => h9) rfl hin rfl (by decide +kernel) rfl rfl (Nat.le_of_ble_eq_true rfl) dX2_init_23 (fun H locs hP hD hS => ?_)
  have hP : va_P D classes [(nw, .inr (2, [.ref q_1, .ref q_5, .null, .int 0, .int 0, .int 0])), (q_1, .inr (8, [.ref (u_3 0), .ref (u_3 1), .ref (u_3 2), .ref (u_3 3), .int 0])), ((u_3 0), .inl (cy, 8, .inl (fun _ => 0))), ((u_3 1), .inl (cy, 8, .inl (fun _ => 0))), ((u_3 2), .inl (cy, 8, .inl (fun _ => 0))), ((u_3 3), .inl (cy, 8, .inl (fun _ => 0))), (q_5, .inr (8, [.ref (u_7 0), .ref (u_7 1), .ref (u_7 2), .ref (u_7 3), .int 0])), ((u_7 0), .inl (cy, 8, .inl (fun _ => 0))), ((u_7 1), .inl (cy, 8, .inl (fun _ => 0))), ((u_7 2), .inl (cy, 8, .inl (fun _ => 0))), ((u_7 3), .inl (cy, 8, .inl (fun _ => 0)))] H := hP
  have hD : va_D A [(nw, .inr (2, [.ref q_1, .ref q_5, .null, .int 0, .int 0, .int 0])), (q_1, .inr (8, [.ref (u_3 0), .ref (u_3 1), .ref (u_3 2), .ref (u_3 3), .int 0])), ((u_3 0), .inl (cy, 8, .inl (fun _ => 0))), ((u_3 1), .inl (cy, 8, .inl (fun _ => 0))), ((u_3 2), .inl (cy, 8, .inl (fun _ => 0))), ((u_3 3), .inl (cy, 8, .inl (fun _ => 0))), (q_5, .inr (8, [.ref (u_7 0), .ref (u_7 1), .ref (u_7 2), .ref (u_7 3), .int 0])), ((u_7 0), .inl (cy, 8, .inl (fun _ => 0))), ((u_7 1), .inl (cy, 8, .inl (fun _ => 0))), ((u_7 2), .inl (cy, 8, .inl (fun _ => 0))), ((u_7 3), .inl (cy, 8, .inl (fun _ => 0)))] := hD
  refine lv_aload_n hx hb dX2_init_26 rfl (lv_at hl 0 rfl) ?_
  refine va_new (ci := 4) (fs := [.null, .null, .null, .int 0]) (C := RX4) (T := TX4) (N := 4) hx hb htb inX4 tyX4 tyX4_ok hown (htb _ tw_146) (htb _ tw_147) (htb _ tw_68) hK hP hD hS hA rfl (fun j hj => by rcases (show j = 0 ∨ j = 1 ∨ j = 2 ∨ j = 3 by omega) with rfl | rfl | rfl | rfl <;> rfl) (Nat.le_of_ble_eq_true rfl) (Nat.le_of_ble_eq_true rfl) dX2_init_27 (fun q_9 H hP hD hS => ?_)
  refine W.widen (k := 11) (n := 78) (by decide) (by decide) ?_
  have hP : va_P D classes [(nw, .inr (2, [.ref q_1, .ref q_5, .null, .int 0, .int 0, .int 0])), (q_1, .inr (8, [.ref (u_3 0), .ref (u_3 1), .ref (u_3 2), .ref (u_3 3), .int 0])), ((u_3 0), .inl (cy, 8, .inl (fun _ => 0))), ((u_3 1), .inl (cy, 8, .inl (fun _ => 0))), ((u_3 2), .inl (cy, 8, .inl (fun _ => 0))), ((u_3 3), .inl (cy, 8, .inl (fun _ => 0))), (q_5, .inr (8, [.ref (u_7 0), .ref (u_7 1), .ref (u_7 2), .ref (u_7 3), .int 0])), ((u_7 0), .inl (cy, 8, .inl (fun _ => 0))), ((u_7 1), .inl (cy, 8, .inl (fun _ => 0))), ((u_7 2), .inl (cy, 8, .inl (fun _ => 0))), ((u_7 3), .inl (cy, 8, .inl (fun _ => 0))), (q_9, .inr (4, [.null, .null, .null, .int 0]))] H := hP
  have hD : va_D A [(nw, .inr (2, [.ref q_1, .ref q_5, .null, .int 0, .int 0, .int 0])), (q_1, .inr (8, [.ref (u_3 0), .ref (u_3 1), .ref (u_3 2), .ref (u_3 3), .int 0])), ((u_3 0), .inl (cy, 8, .inl (fun _ => 0))), ((u_3 1), .inl (cy, 8, .inl (fun _ => 0))), ((u_3 2), .inl (cy, 8, .inl (fun _ => 0))), ((u_3 3), .inl (cy, 8, .inl (fun _ => 0))), (q_5, .inr (8, [.ref (u_7 0), .ref (u_7 1), .ref (u_7 2), .ref (u_7 3), .int 0])), ((u_7 0), .inl (cy, 8, .inl (fun _ => 0))), ((u_7 1), .inl (cy, 8, .inl (fun _ => 0))), ((u_7 2), .inl (cy, 8, .inl (fun _ => 0))), ((u_7 3), .inl (cy, 8, .inl (fun _ => 0))), (q_9, .inr (4, [.null, .null, .null, .int 0]))] := hD
  refine lv_dup hx hb dX2_init_30 rfl ?_
  refine wk_vI (As := []) (rest := [.ref q_9, .ref nw]) (wc := [(q_9, .inr (4, [.null, .null, .null, .int 0]))]) (wr := [(nw, .inr (2, [.ref q_1, .ref q_5, .null, .int 0, .int 0, .int 0])), (q_1, .inr (8, [.ref (u_3 0), .ref (u_3 1), .ref (u_3 2), .ref (u_3 3), .int 0])), ((u_3 0), .inl (cy, 8, .inl (fun _ => 0))), ((u_3 1), .inl (cy, 8, .inl (fun _ => 0))), ((u_3 2), .inl (cy, 8, .inl (fun _ => 0))), ((u_3 3), .inl (cy, 8, .inl (fun _ => 0))), (q_5, .inr (8, [.ref (u_7 0), .ref (u_7 1), .ref (u_7 2), .ref (u_7 3), .int 0])), ((u_7 0), .inl (cy, 8, .inl (fun _ => 0))), ((u_7 1), .inl (cy, 8, .inl (fun _ => 0))), ((u_7 2), .inl (cy, 8, .inl (fun _ => 0))), ((u_7 3), .inl (cy, 8, .inl (fun _ => 0)))]) (n := 0) (R := _) ⟨hx, hb, hml, hown, htb⟩ (c_X4_init l D cy q_9) tw_150 tw_148 tw_149 tw_68 rfl rfl rfl (by decide +kernel) ⟨Nat.le_of_ble_eq_true rfl, Nat.le_of_ble_eq_true rfl⟩ hK hP hD hS hA [11] [0, 1, 2, 3, 4, 5, 6, 7, 8, 9, 10] rfl rfl rfl rfl (by decide) rfl hl.1 rfl (Nat.le_of_ble_eq_true rfl) dX2_init_31 ⟨Nat.le_of_ble_eq_true rfl, Nat.le_of_ble_eq_true rfl⟩ (fun u_11 H locs hw_12 hP hD hS => ?_)
  refine W.widen (k := 14) (n := 96) (by decide) (by decide) ?_
  have hP : va_P D classes [(nw, .inr (2, [.ref q_1, .ref q_5, .null, .int 0, .int 0, .int 0])), (q_1, .inr (8, [.ref (u_3 0), .ref (u_3 1), .ref (u_3 2), .ref (u_3 3), .int 0])), ((u_3 0), .inl (cy, 8, .inl (fun _ => 0))), ((u_3 1), .inl (cy, 8, .inl (fun _ => 0))), ((u_3 2), .inl (cy, 8, .inl (fun _ => 0))), ((u_3 3), .inl (cy, 8, .inl (fun _ => 0))), (q_5, .inr (8, [.ref (u_7 0), .ref (u_7 1), .ref (u_7 2), .ref (u_7 3), .int 0])), ((u_7 0), .inl (cy, 8, .inl (fun _ => 0))), ((u_7 1), .inl (cy, 8, .inl (fun _ => 0))), ((u_7 2), .inl (cy, 8, .inl (fun _ => 0))), ((u_7 3), .inl (cy, 8, .inl (fun _ => 0))), (q_9, .inr (4, [.ref (u_11 0), .ref (u_11 1), .ref (u_11 2), .int 0])), ((u_11 0), .inl (cy, 6, .inl (fun _ => 0))), ((u_11 1), .inl (cy, 6, .inl (fun _ => 0))), ((u_11 2), .inl (cy, 6, .inl (fun _ => 0)))] H := hP
  have hD : va_D A [(nw, .inr (2, [.ref q_1, .ref q_5, .null, .int 0, .int 0, .int 0])), (q_1, .inr (8, [.ref (u_3 0), .ref (u_3 1), .ref (u_3 2), .ref (u_3 3), .int 0])), ((u_3 0), .inl (cy, 8, .inl (fun _ => 0))), ((u_3 1), .inl (cy, 8, .inl (fun _ => 0))), ((u_3 2), .inl (cy, 8, .inl (fun _ => 0))), ((u_3 3), .inl (cy, 8, .inl (fun _ => 0))), (q_5, .inr (8, [.ref (u_7 0), .ref (u_7 1), .ref (u_7 2), .ref (u_7 3), .int 0])), ((u_7 0), .inl (cy, 8, .inl (fun _ => 0))), ((u_7 1), .inl (cy, 8, .inl (fun _ => 0))), ((u_7 2), .inl (cy, 8, .inl (fun _ => 0))), ((u_7 3), .inl (cy, 8, .inl (fun _ => 0))), (q_9, .inr (4, [.ref (u_11 0), .ref (u_11 1), .ref (u_11 2), .int 0])), ((u_11 0), .inl (cy, 6, .inl (fun _ => 0))), ((u_11 1), .inl (cy, 6, .inl (fun _ => 0))), ((u_11 2), .inl (cy, 6, .inl (fun _ => 0)))] := hD
  refine va_putF (D := D) (ci := 2) (v := .ref q_9) (ty := (.object "LaneRow$Seen")) (C := RX2) (T := TX2) (N := 6) hx hb htb inX2 tyX2 tyX2_ok nmX2 hown hK hP hD hS 0 rfl rfl 2 (by decide) (htb _ tw_174) (fun _ h9 => h9) rfl hin rfl (by decide +kernel) rfl rfl (Nat.le_of_ble_eq_true rfl) dX2_init_34 (fun H locs hP hD hS => ?_)
  have hP : va_P D classes [(nw, .inr (2, [.ref q_1, .ref q_5, .ref q_9, .int 0, .int 0, .int 0])), (q_1, .inr (8, [.ref (u_3 0), .ref (u_3 1), .ref (u_3 2), .ref (u_3 3), .int 0])), ((u_3 0), .inl (cy, 8, .inl (fun _ => 0))), ((u_3 1), .inl (cy, 8, .inl (fun _ => 0))), ((u_3 2), .inl (cy, 8, .inl (fun _ => 0))), ((u_3 3), .inl (cy, 8, .inl (fun _ => 0))), (q_5, .inr (8, [.ref (u_7 0), .ref (u_7 1), .ref (u_7 2), .ref (u_7 3), .int 0])), ((u_7 0), .inl (cy, 8, .inl (fun _ => 0))), ((u_7 1), .inl (cy, 8, .inl (fun _ => 0))), ((u_7 2), .inl (cy, 8, .inl (fun _ => 0))), ((u_7 3), .inl (cy, 8, .inl (fun _ => 0))), (q_9, .inr (4, [.ref (u_11 0), .ref (u_11 1), .ref (u_11 2), .int 0])), ((u_11 0), .inl (cy, 6, .inl (fun _ => 0))), ((u_11 1), .inl (cy, 6, .inl (fun _ => 0))), ((u_11 2), .inl (cy, 6, .inl (fun _ => 0)))] H := hP
  have hD : va_D A [(nw, .inr (2, [.ref q_1, .ref q_5, .ref q_9, .int 0, .int 0, .int 0])), (q_1, .inr (8, [.ref (u_3 0), .ref (u_3 1), .ref (u_3 2), .ref (u_3 3), .int 0])), ((u_3 0), .inl (cy, 8, .inl (fun _ => 0))), ((u_3 1), .inl (cy, 8, .inl (fun _ => 0))), ((u_3 2), .inl (cy, 8, .inl (fun _ => 0))), ((u_3 3), .inl (cy, 8, .inl (fun _ => 0))), (q_5, .inr (8, [.ref (u_7 0), .ref (u_7 1), .ref (u_7 2), .ref (u_7 3), .int 0])), ((u_7 0), .inl (cy, 8, .inl (fun _ => 0))), ((u_7 1), .inl (cy, 8, .inl (fun _ => 0))), ((u_7 2), .inl (cy, 8, .inl (fun _ => 0))), ((u_7 3), .inl (cy, 8, .inl (fun _ => 0))), (q_9, .inr (4, [.ref (u_11 0), .ref (u_11 1), .ref (u_11 2), .int 0])), ((u_11 0), .inl (cy, 6, .inl (fun _ => 0))), ((u_11 1), .inl (cy, 6, .inl (fun _ => 0))), ((u_11 2), .inl (cy, 6, .inl (fun _ => 0)))] := hD
  refine W.widen (k := 14) (n := 96) (by decide) (by decide) ?_
  exact wk_vret (fun i => [q_1, (u_3 0), (u_3 1), (u_3 2), (u_3 3), q_5, (u_7 0), (u_7 1), (u_7 2), (u_7 3), q_9, (u_11 0), (u_11 1), (u_11 2)].getD i 0) hx hb hr hlocks trivial hK hP hD hS [0, 1, 2, 3, 4, 5, 6, 7, 8, 9, 10, 11, 12, 13, 14] rfl rfl dX2_init_37
theorem dX9_init_0 : decode cX9_init 0 = .ok (.aload_n 0, 1) := by decide +kernel
theorem dX9_init_1 : decode cX9_init 1 = .ok (.invokespecial 3, 3) := by decide +kernel
theorem dX9_init_4 : decode cX9_init 4 = .ok (.aload_n 0, 1) := by decide +kernel
theorem dX9_init_5 : decode cX9_init 5 = .ok (.new 9, 3) := by decide +kernel
theorem dX9_init_8 : decode cX9_init 8 = .ok (.dup, 1) := by decide +kernel
theorem dX9_init_9 : decode cX9_init 9 = .ok (.invokespecial 11, 3) := by decide +kernel
theorem dX9_init_12 : decode cX9_init 12 = .ok (.putfield 12, 3) := by decide +kernel
theorem dX9_init_15 : decode cX9_init 15 = .ok (.aload_n 0, 1) := by decide +kernel
theorem dX9_init_16 : decode cX9_init 16 = .ok (.bipush 8, 2) := by decide +kernel
theorem dX9_init_18 : decode cX9_init 18 = .ok (.newarray .int, 2) := by decide +kernel
theorem dX9_init_20 : decode cX9_init 20 = .ok (.putfield 18, 3) := by decide +kernel
theorem dX9_init_23 : decode cX9_init 23 = .ok (.aload_n 0, 1) := by decide +kernel
theorem dX9_init_24 : decode cX9_init 24 = .ok (.bipush 8, 2) := by decide +kernel
theorem dX9_init_26 : decode cX9_init 26 = .ok (.newarray .int, 2) := by decide +kernel
theorem dX9_init_28 : decode cX9_init 28 = .ok (.putfield 22, 3) := by decide +kernel
theorem dX9_init_31 : decode cX9_init 31 = .ok (.aload_n 0, 1) := by decide +kernel
theorem dX9_init_32 : decode cX9_init 32 = .ok (.iconst 5, 1) := by decide +kernel
theorem dX9_init_33 : decode cX9_init 33 = .ok (.newarray .int, 2) := by decide +kernel
theorem dX9_init_35 : decode cX9_init 35 = .ok (.putfield 25, 3) := by decide +kernel
theorem dX9_init_38 : decode cX9_init 38 = .ok (.return_, 1) := by decide +kernel
set_option maxHeartbeats 4000000 in
set_option maxRecDepth 100000 in
theorem c_X9_init (l : Launch) (D : va_G) (cy : ClassId) (tr : Nat) : wk_Cv l yX9_init cX9_init 1 none { frames := 2, cells := 4, slots := 24, locals := 32 } D cy [.ref tr] [(tr, .inr (9, [.null, .null, .null, .null, .int 0, .int 0, .int 0, .int 0]))] 4 24 (fun (u : Nat → Nat) => True) (fun u => [(tr, .inr (9, [.ref (u 0), .ref (u 1), .ref (u 2), .ref (u 3), .int 0, .int 0, .int 0, .int 0])), ((u 0), .inr (10, [.int 0, .int 0, .int 0])), ((u 1), .inl (cy, 8, .inl (fun _ => 0))), ((u 2), .inl (cy, 8, .inl (fun _ => 0))), ((u 3), .inl (cy, 5, .inl (fun _ => 0)))]) := by
  refine wk_mkCv (by decide) (Nat.le_of_ble_eq_true rfl) ?_
  intro p e s m below meth c A ls B hA hK hP hD hS hl
  obtain ⟨hx, hb, hr, hlocks, hml, hown, htb, hin⟩ := B
  have hl : lv_has ls 1 [(0, .ref tr)] := hl
  refine lv_aload_n hx hb dX9_init_0 rfl (lv_at hl 0 rfl) ?_
  refine W.objInit hx hb hown (htb _ tw_220) (htb _ tw_84) (htb _ tw_85) rfl (by rw [hml]; exact hl.1) rfl dX9_init_1 (Nat.le_of_ble_eq_true rfl) (Nat.le_of_ble_eq_true rfl) ?_
  refine W.eq (g2 := F0 m 4 ls []) rfl ?_
  refine lv_aload_n hx hb dX9_init_4 rfl (lv_at hl 0 rfl) ?_
  refine va_new (ci := 10) (fs := [.int 0, .int 0, .int 0]) (C := RX10) (T := TX10) (N := 3) hx hb htb inX10 tyX10 tyX10_ok hown (htb _ tw_221) (htb _ tw_196) (htb _ tw_69) hK hP hD hS hA rfl (fun j hj => by rcases (show j = 0 ∨ j = 1 ∨ j = 2 by omega) with rfl | rfl | rfl <;> rfl) (Nat.le_of_ble_eq_true rfl) (Nat.le_of_ble_eq_true rfl) dX9_init_5 (fun q_1 H hP hD hS => ?_)
  refine W.widen (k := 1) (n := 3) (by decide) (by decide) ?_
  have hP : va_P D classes [(tr, .inr (9, [.null, .null, .null, .null, .int 0, .int 0, .int 0, .int 0])), (q_1, .inr (10, [.int 0, .int 0, .int 0]))] H := hP
  have hD : va_D A [(tr, .inr (9, [.null, .null, .null, .null, .int 0, .int 0, .int 0, .int 0])), (q_1, .inr (10, [.int 0, .int 0, .int 0]))] := hD
  refine lv_dup hx hb dX9_init_8 rfl ?_
  refine wk_vI (As := []) (rest := [.ref q_1, .ref tr]) (wc := [(q_1, .inr (10, [.int 0, .int 0, .int 0]))]) (wr := [(tr, .inr (9, [.null, .null, .null, .null, .int 0, .int 0, .int 0, .int 0]))]) (n := 0) (R := _) ⟨hx, hb, hml, hown, htb⟩ (c_X10_init l D cy q_1) tw_199 tw_222 tw_198 tw_69 rfl rfl rfl (by decide +kernel) ⟨Nat.le_of_ble_eq_true rfl, Nat.le_of_ble_eq_true rfl⟩ hK hP hD hS hA [1] [0] rfl rfl rfl rfl (by decide) rfl hl.1 rfl (Nat.le_of_ble_eq_true rfl) dX9_init_9 ⟨Nat.le_of_ble_eq_true rfl, Nat.le_of_ble_eq_true rfl⟩ (fun u_3 H locs hw_4 hP hD hS => ?_)
  refine W.widen (k := 1) (n := 3) (by decide) (by decide) ?_
  have hP : va_P D classes [(tr, .inr (9, [.null, .null, .null, .null, .int 0, .int 0, .int 0, .int 0])), (q_1, .inr (10, [.int 0, .int 0, .int 0]))] H := hP
  have hD : va_D A [(tr, .inr (9, [.null, .null, .null, .null, .int 0, .int 0, .int 0, .int 0])), (q_1, .inr (10, [.int 0, .int 0, .int 0]))] := hD
  refine va_putF (D := D) (ci := 9) (v := .ref q_1) (ty := (.object "LaneRow$Walk")) (C := RX9) (T := TX9) (N := 8) hx hb htb inX9 tyX9 tyX9_ok nmX9 hown hK hP hD hS 0 rfl rfl 0 (by decide) (htb _ tw_223) (fun _ h9 => h9) rfl hin rfl (by decide +kernel) rfl rfl (Nat.le_of_ble_eq_true rfl) dX9_init_12 (fun H locs hP hD hS => ?_)
  have hP : va_P D classes [(tr, .inr (9, [.ref q_1, .null, .null, .null, .int 0, .int 0, .int 0, .int 0])), (q_1, .inr (10, [.int 0, .int 0, .int 0]))] H := hP
  have hD : va_D A [(tr, .inr (9, [.ref q_1, .null, .null, .null, .int 0, .int 0, .int 0, .int 0])), (q_1, .inr (10, [.int 0, .int 0, .int 0]))] := hD
  refine lv_aload_n hx hb dX9_init_15 rfl (lv_at hl 0 rfl) ?_
  refine lv_bipush (v := 8) hx hb dX9_init_16 (by decide) ?_
  refine wk_newa hx hb (htb _ tw_101) hK hP hD hS hA 8 (by decide) (by decide) (by decide) (Nat.le_of_ble_eq_true rfl) (Nat.le_of_ble_eq_true rfl) dX9_init_18 (fun q_5 H hP hD hS => ?_)
  refine W.widen (k := 2) (n := 11) (by decide) (by decide) ?_
  have hP : va_P D classes [(tr, .inr (9, [.ref q_1, .null, .null, .null, .int 0, .int 0, .int 0, .int 0])), (q_1, .inr (10, [.int 0, .int 0, .int 0])), (q_5, .inl (cy, 8, .inl (fun _ => 0)))] H := hP
  have hD : va_D A [(tr, .inr (9, [.ref q_1, .null, .null, .null, .int 0, .int 0, .int 0, .int 0])), (q_1, .inr (10, [.int 0, .int 0, .int 0])), (q_5, .inl (cy, 8, .inl (fun _ => 0)))] := hD
  refine va_putF (D := D) (ci := 9) (v := .ref q_5) (ty := (.array .int)) (C := RX9) (T := TX9) (N := 8) hx hb htb inX9 tyX9 tyX9_ok nmX9 hown hK hP hD hS 0 rfl rfl 1 (by decide) (htb _ tw_224) (fun _ h9 => h9) rfl hin rfl (by decide +kernel) rfl rfl (Nat.le_of_ble_eq_true rfl) dX9_init_20 (fun H locs hP hD hS => ?_)
  have hP : va_P D classes [(tr, .inr (9, [.ref q_1, .ref q_5, .null, .null, .int 0, .int 0, .int 0, .int 0])), (q_1, .inr (10, [.int 0, .int 0, .int 0])), (q_5, .inl (cy, 8, .inl (fun _ => 0)))] H := hP
  have hD : va_D A [(tr, .inr (9, [.ref q_1, .ref q_5, .null, .null, .int 0, .int 0, .int 0, .int 0])), (q_1, .inr (10, [.int 0, .int 0, .int 0])), (q_5, .inl (cy, 8, .inl (fun _ => 0)))] := hD
  refine lv_aload_n hx hb dX9_init_23 rfl (lv_at hl 0 rfl) ?_
  refine lv_bipush (v := 8) hx hb dX9_init_24 (by decide) ?_
  refine wk_newa hx hb (htb _ tw_101) hK hP hD hS hA 8 (by decide) (by decide) (by decide) (Nat.le_of_ble_eq_true rfl) (Nat.le_of_ble_eq_true rfl) dX9_init_26 (fun q_6 H hP hD hS => ?_)
  refine W.widen (k := 3) (n := 19) (by decide) (by decide) ?_
  have hP : va_P D classes [(tr, .inr (9, [.ref q_1, .ref q_5, .null, .null, .int 0, .int 0, .int 0, .int 0])), (q_1, .inr (10, [.int 0, .int 0, .int 0])), (q_5, .inl (cy, 8, .inl (fun _ => 0))), (q_6, .inl (cy, 8, .inl (fun _ => 0)))] H := hP
  have hD : va_D A [(tr, .inr (9, [.ref q_1, .ref q_5, .null, .null, .int 0, .int 0, .int 0, .int 0])), (q_1, .inr (10, [.int 0, .int 0, .int 0])), (q_5, .inl (cy, 8, .inl (fun _ => 0))), (q_6, .inl (cy, 8, .inl (fun _ => 0)))] := hD
  refine va_putF (D := D) (ci := 9) (v := .ref q_6) (ty := (.array .int)) (C := RX9) (T := TX9) (N := 8) hx hb htb inX9 tyX9 tyX9_ok nmX9 hown hK hP hD hS 0 rfl rfl 2 (by decide) (htb _ tw_225) (fun _ h9 => h9) rfl hin rfl (by decide +kernel) rfl rfl (Nat.le_of_ble_eq_true rfl) dX9_init_28 (fun H locs hP hD hS => ?_)
  have hP : va_P D classes [(tr, .inr (9, [.ref q_1, .ref q_5, .ref q_6, .null, .int 0, .int 0, .int 0, .int 0])), (q_1, .inr (10, [.int 0, .int 0, .int 0])), (q_5, .inl (cy, 8, .inl (fun _ => 0))), (q_6, .inl (cy, 8, .inl (fun _ => 0)))] H := hP
  have hD : va_D A [(tr, .inr (9, [.ref q_1, .ref q_5, .ref q_6, .null, .int 0, .int 0, .int 0, .int 0])), (q_1, .inr (10, [.int 0, .int 0, .int 0])), (q_5, .inl (cy, 8, .inl (fun _ => 0))), (q_6, .inl (cy, 8, .inl (fun _ => 0)))] := hD
  refine lv_aload_n hx hb dX9_init_31 rfl (lv_at hl 0 rfl) ?_
  refine lv_iconst (v := 5) hx hb dX9_init_32 (by decide) ?_
  refine wk_newa hx hb (htb _ tw_101) hK hP hD hS hA 5 (by decide) (by decide) (by decide) (Nat.le_of_ble_eq_true rfl) (Nat.le_of_ble_eq_true rfl) dX9_init_33 (fun q_7 H hP hD hS => ?_)
  refine W.widen (k := 4) (n := 24) (by decide) (by decide) ?_
  have hP : va_P D classes [(tr, .inr (9, [.ref q_1, .ref q_5, .ref q_6, .null, .int 0, .int 0, .int 0, .int 0])), (q_1, .inr (10, [.int 0, .int 0, .int 0])), (q_5, .inl (cy, 8, .inl (fun _ => 0))), (q_6, .inl (cy, 8, .inl (fun _ => 0))), (q_7, .inl (cy, 5, .inl (fun _ => 0)))] H := hP
  have hD : va_D A [(tr, .inr (9, [.ref q_1, .ref q_5, .ref q_6, .null, .int 0, .int 0, .int 0, .int 0])), (q_1, .inr (10, [.int 0, .int 0, .int 0])), (q_5, .inl (cy, 8, .inl (fun _ => 0))), (q_6, .inl (cy, 8, .inl (fun _ => 0))), (q_7, .inl (cy, 5, .inl (fun _ => 0)))] := hD
  refine va_putF (D := D) (ci := 9) (v := .ref q_7) (ty := (.array .int)) (C := RX9) (T := TX9) (N := 8) hx hb htb inX9 tyX9 tyX9_ok nmX9 hown hK hP hD hS 0 rfl rfl 3 (by decide) (htb _ tw_226) (fun _ h9 => h9) rfl hin rfl (by decide +kernel) rfl rfl (Nat.le_of_ble_eq_true rfl) dX9_init_35 (fun H locs hP hD hS => ?_)
  have hP : va_P D classes [(tr, .inr (9, [.ref q_1, .ref q_5, .ref q_6, .ref q_7, .int 0, .int 0, .int 0, .int 0])), (q_1, .inr (10, [.int 0, .int 0, .int 0])), (q_5, .inl (cy, 8, .inl (fun _ => 0))), (q_6, .inl (cy, 8, .inl (fun _ => 0))), (q_7, .inl (cy, 5, .inl (fun _ => 0)))] H := hP
  have hD : va_D A [(tr, .inr (9, [.ref q_1, .ref q_5, .ref q_6, .ref q_7, .int 0, .int 0, .int 0, .int 0])), (q_1, .inr (10, [.int 0, .int 0, .int 0])), (q_5, .inl (cy, 8, .inl (fun _ => 0))), (q_6, .inl (cy, 8, .inl (fun _ => 0))), (q_7, .inl (cy, 5, .inl (fun _ => 0)))] := hD
  refine W.widen (k := 4) (n := 24) (by decide) (by decide) ?_
  exact wk_vret (fun i => [q_1, q_5, q_6, q_7].getD i 0) hx hb hr hlocks trivial hK hP hD hS [0, 1, 2, 3, 4] rfl rfl dX9_init_38
theorem dX11_init_0 : decode cX11_init 0 = .ok (.aload_n 0, 1) := by decide +kernel
theorem dX11_init_1 : decode cX11_init 1 = .ok (.invokespecial 1, 3) := by decide +kernel
theorem dX11_init_4 : decode cX11_init 4 = .ok (.aload_n 0, 1) := by decide +kernel
theorem dX11_init_5 : decode cX11_init 5 = .ok (.new 7, 3) := by decide +kernel
theorem dX11_init_8 : decode cX11_init 8 = .ok (.dup, 1) := by decide +kernel
theorem dX11_init_9 : decode cX11_init 9 = .ok (.invokespecial 9, 3) := by decide +kernel
theorem dX11_init_12 : decode cX11_init 12 = .ok (.putfield 10, 3) := by decide +kernel
theorem dX11_init_15 : decode cX11_init 15 = .ok (.aload_n 0, 1) := by decide +kernel
theorem dX11_init_16 : decode cX11_init 16 = .ok (.new 7, 3) := by decide +kernel
theorem dX11_init_19 : decode cX11_init 19 = .ok (.dup, 1) := by decide +kernel
theorem dX11_init_20 : decode cX11_init 20 = .ok (.invokespecial 9, 3) := by decide +kernel
theorem dX11_init_23 : decode cX11_init 23 = .ok (.putfield 16, 3) := by decide +kernel
theorem dX11_init_26 : decode cX11_init 26 = .ok (.aload_n 0, 1) := by decide +kernel
theorem dX11_init_27 : decode cX11_init 27 = .ok (.new 19, 3) := by decide +kernel
theorem dX11_init_30 : decode cX11_init 30 = .ok (.dup, 1) := by decide +kernel
theorem dX11_init_31 : decode cX11_init 31 = .ok (.invokespecial 21, 3) := by decide +kernel
theorem dX11_init_34 : decode cX11_init 34 = .ok (.putfield 22, 3) := by decide +kernel
theorem dX11_init_37 : decode cX11_init 37 = .ok (.aload_n 0, 1) := by decide +kernel
theorem dX11_init_38 : decode cX11_init 38 = .ok (.new 19, 3) := by decide +kernel
theorem dX11_init_41 : decode cX11_init 41 = .ok (.dup, 1) := by decide +kernel
theorem dX11_init_42 : decode cX11_init 42 = .ok (.invokespecial 21, 3) := by decide +kernel
theorem dX11_init_45 : decode cX11_init 45 = .ok (.putfield 26, 3) := by decide +kernel
theorem dX11_init_48 : decode cX11_init 48 = .ok (.aload_n 0, 1) := by decide +kernel
theorem dX11_init_49 : decode cX11_init 49 = .ok (.new 29, 3) := by decide +kernel
theorem dX11_init_52 : decode cX11_init 52 = .ok (.dup, 1) := by decide +kernel
theorem dX11_init_53 : decode cX11_init 53 = .ok (.invokespecial 31, 3) := by decide +kernel
theorem dX11_init_56 : decode cX11_init 56 = .ok (.putfield 32, 3) := by decide +kernel
theorem dX11_init_59 : decode cX11_init 59 = .ok (.aload_n 0, 1) := by decide +kernel
theorem dX11_init_60 : decode cX11_init 60 = .ok (.new 36, 3) := by decide +kernel
theorem dX11_init_63 : decode cX11_init 63 = .ok (.dup, 1) := by decide +kernel
theorem dX11_init_64 : decode cX11_init 64 = .ok (.invokespecial 38, 3) := by decide +kernel
theorem dX11_init_67 : decode cX11_init 67 = .ok (.putfield 39, 3) := by decide +kernel
theorem dX11_init_70 : decode cX11_init 70 = .ok (.return_, 1) := by decide +kernel
set_option maxHeartbeats 4000000 in
set_option maxRecDepth 100000 in
theorem c_X11_init (l : Launch) (D : va_G) (cy : ClassId) (x : Nat) : wk_Cv l yX11_init cX11_init 1 none { frames := 3, cells := 40, slots := 331, locals := 52 } D cy [.ref x] [(x, .inr (11, [.null, .null, .null, .null, .null, .null, .null, .int 0, .int 0, .int 0]))] 40 331 (fun (u : Nat → Nat) => True) (fun u => [(x, .inr (11, [.ref (u 0), .ref (u 2), .ref (u 4), .ref (u 19), .ref (u 34), .ref (u 35), .null, .int 0, .int 0, .int 0])), ((u 0), .inr (6, [.ref (u 1), .int 0])), ((u 1), .inl (cy, 44, .inl (fun _ => 0))), ((u 2), .inr (6, [.ref (u 3), .int 0])), ((u 3), .inl (cy, 44, .inl (fun _ => 0))), ((u 4), .inr (2, [.ref (u 5), .ref (u 10), .ref (u 15), .int 0, .int 0, .int 0])), ((u 5), .inr (8, [.ref (u 6), .ref (u 7), .ref (u 8), .ref (u 9), .int 0])), ((u 6), .inl (cy, 8, .inl (fun _ => 0))), ((u 7), .inl (cy, 8, .inl (fun _ => 0))), ((u 8), .inl (cy, 8, .inl (fun _ => 0))), ((u 9), .inl (cy, 8, .inl (fun _ => 0))), ((u 10), .inr (8, [.ref (u 11), .ref (u 12), .ref (u 13), .ref (u 14), .int 0])), ((u 11), .inl (cy, 8, .inl (fun _ => 0))), ((u 12), .inl (cy, 8, .inl (fun _ => 0))), ((u 13), .inl (cy, 8, .inl (fun _ => 0))), ((u 14), .inl (cy, 8, .inl (fun _ => 0))), ((u 15), .inr (4, [.ref (u 16), .ref (u 17), .ref (u 18), .int 0])), ((u 16), .inl (cy, 6, .inl (fun _ => 0))), ((u 17), .inl (cy, 6, .inl (fun _ => 0))), ((u 18), .inl (cy, 6, .inl (fun _ => 0))), ((u 19), .inr (2, [.ref (u 20), .ref (u 25), .ref (u 30), .int 0, .int 0, .int 0])), ((u 20), .inr (8, [.ref (u 21), .ref (u 22), .ref (u 23), .ref (u 24), .int 0])), ((u 21), .inl (cy, 8, .inl (fun _ => 0))), ((u 22), .inl (cy, 8, .inl (fun _ => 0))), ((u 23), .inl (cy, 8, .inl (fun _ => 0))), ((u 24), .inl (cy, 8, .inl (fun _ => 0))), ((u 25), .inr (8, [.ref (u 26), .ref (u 27), .ref (u 28), .ref (u 29), .int 0])), ((u 26), .inl (cy, 8, .inl (fun _ => 0))), ((u 27), .inl (cy, 8, .inl (fun _ => 0))), ((u 28), .inl (cy, 8, .inl (fun _ => 0))), ((u 29), .inl (cy, 8, .inl (fun _ => 0))), ((u 30), .inr (4, [.ref (u 31), .ref (u 32), .ref (u 33), .int 0])), ((u 31), .inl (cy, 6, .inl (fun _ => 0))), ((u 32), .inl (cy, 6, .inl (fun _ => 0))), ((u 33), .inl (cy, 6, .inl (fun _ => 0))), ((u 34), .inr (10, [.int 0, .int 0, .int 0])), ((u 35), .inr (9, [.ref (u 36), .ref (u 37), .ref (u 38), .ref (u 39), .int 0, .int 0, .int 0, .int 0])), ((u 36), .inr (10, [.int 0, .int 0, .int 0])), ((u 37), .inl (cy, 8, .inl (fun _ => 0))), ((u 38), .inl (cy, 8, .inl (fun _ => 0))), ((u 39), .inl (cy, 5, .inl (fun _ => 0)))]) := by
  refine wk_mkCv (by decide) (Nat.le_of_ble_eq_true rfl) ?_
  intro p e s m below meth c A ls B hA hK hP hD hS hl
  obtain ⟨hx, hb, hr, hlocks, hml, hown, htb, hin⟩ := B
  have hl : lv_has ls 1 [(0, .ref x)] := hl
  refine lv_aload_n hx hb dX11_init_0 rfl (lv_at hl 0 rfl) ?_
  refine W.objInit hx hb hown (htb _ tw_83) (htb _ tw_84) (htb _ tw_85) rfl (by rw [hml]; exact hl.1) rfl dX11_init_1 (Nat.le_of_ble_eq_true rfl) (Nat.le_of_ble_eq_true rfl) ?_
  refine W.eq (g2 := F0 m 4 ls []) rfl ?_
  refine lv_aload_n hx hb dX11_init_4 rfl (lv_at hl 0 rfl) ?_
  refine va_new (ci := 6) (fs := [.null, .int 0]) (C := RX6) (T := TX6) (N := 2) hx hb htb inX6 tyX6 tyX6_ok hown (htb _ tw_86) (htb _ tw_87) (htb _ tw_65) hK hP hD hS hA rfl (fun j hj => by rcases (show j = 0 ∨ j = 1 by omega) with rfl | rfl <;> rfl) (Nat.le_of_ble_eq_true rfl) (Nat.le_of_ble_eq_true rfl) dX11_init_5 (fun q_1 H hP hD hS => ?_)
  refine W.widen (k := 1) (n := 2) (by decide) (by decide) ?_
  have hP : va_P D classes [(x, .inr (11, [.null, .null, .null, .null, .null, .null, .null, .int 0, .int 0, .int 0])), (q_1, .inr (6, [.null, .int 0]))] H := hP
  have hD : va_D A [(x, .inr (11, [.null, .null, .null, .null, .null, .null, .null, .int 0, .int 0, .int 0])), (q_1, .inr (6, [.null, .int 0]))] := hD
  refine lv_dup hx hb dX11_init_8 rfl ?_
  refine wk_vI (As := []) (rest := [.ref q_1, .ref x]) (wc := [(q_1, .inr (6, [.null, .int 0]))]) (wr := [(x, .inr (11, [.null, .null, .null, .null, .null, .null, .null, .int 0, .int 0, .int 0]))]) (n := 0) (R := _) ⟨hx, hb, hml, hown, htb⟩ (c_X6_init l D cy q_1) tw_90 tw_88 tw_89 tw_65 rfl rfl rfl (by decide +kernel) ⟨Nat.le_of_ble_eq_true rfl, Nat.le_of_ble_eq_true rfl⟩ hK hP hD hS hA [1] [0] rfl rfl rfl rfl (by decide) rfl hl.1 rfl (Nat.le_of_ble_eq_true rfl) dX11_init_9 ⟨Nat.le_of_ble_eq_true rfl, Nat.le_of_ble_eq_true rfl⟩ (fun u_3 H locs hw_4 hP hD hS => ?_)
  refine W.widen (k := 2) (n := 46) (by decide) (by decide) ?_
  have hP : va_P D classes [(x, .inr (11, [.null, .null, .null, .null, .null, .null, .null, .int 0, .int 0, .int 0])), (q_1, .inr (6, [.ref (u_3 0), .int 0])), ((u_3 0), .inl (cy, 44, .inl (fun _ => 0)))] H := hP
  have hD : va_D A [(x, .inr (11, [.null, .null, .null, .null, .null, .null, .null, .int 0, .int 0, .int 0])), (q_1, .inr (6, [.ref (u_3 0), .int 0])), ((u_3 0), .inl (cy, 44, .inl (fun _ => 0)))] := hD
  refine va_putF (D := D) (ci := 11) (v := .ref q_1) (ty := (.object "LaneRow$Text")) (C := RX11) (T := TX11) (N := 10) hx hb htb inX11 tyX11 tyX11_ok nmX11 hown hK hP hD hS 0 rfl rfl 0 (by decide) (htb _ tw_252) (fun _ h9 => h9) rfl hin rfl (by decide +kernel) rfl rfl (Nat.le_of_ble_eq_true rfl) dX11_init_12 (fun H locs hP hD hS => ?_)
  have hP : va_P D classes [(x, .inr (11, [.ref q_1, .null, .null, .null, .null, .null, .null, .int 0, .int 0, .int 0])), (q_1, .inr (6, [.ref (u_3 0), .int 0])), ((u_3 0), .inl (cy, 44, .inl (fun _ => 0)))] H := hP
  have hD : va_D A [(x, .inr (11, [.ref q_1, .null, .null, .null, .null, .null, .null, .int 0, .int 0, .int 0])), (q_1, .inr (6, [.ref (u_3 0), .int 0])), ((u_3 0), .inl (cy, 44, .inl (fun _ => 0)))] := hD
  refine lv_aload_n hx hb dX11_init_15 rfl (lv_at hl 0 rfl) ?_
  refine va_new (ci := 6) (fs := [.null, .int 0]) (C := RX6) (T := TX6) (N := 2) hx hb htb inX6 tyX6 tyX6_ok hown (htb _ tw_86) (htb _ tw_87) (htb _ tw_65) hK hP hD hS hA rfl (fun j hj => by rcases (show j = 0 ∨ j = 1 by omega) with rfl | rfl <;> rfl) (Nat.le_of_ble_eq_true rfl) (Nat.le_of_ble_eq_true rfl) dX11_init_16 (fun q_5 H hP hD hS => ?_)
  refine W.widen (k := 3) (n := 48) (by decide) (by decide) ?_
  have hP : va_P D classes [(x, .inr (11, [.ref q_1, .null, .null, .null, .null, .null, .null, .int 0, .int 0, .int 0])), (q_1, .inr (6, [.ref (u_3 0), .int 0])), ((u_3 0), .inl (cy, 44, .inl (fun _ => 0))), (q_5, .inr (6, [.null, .int 0]))] H := hP
  have hD : va_D A [(x, .inr (11, [.ref q_1, .null, .null, .null, .null, .null, .null, .int 0, .int 0, .int 0])), (q_1, .inr (6, [.ref (u_3 0), .int 0])), ((u_3 0), .inl (cy, 44, .inl (fun _ => 0))), (q_5, .inr (6, [.null, .int 0]))] := hD
  refine lv_dup hx hb dX11_init_19 rfl ?_
  refine wk_vI (As := []) (rest := [.ref q_5, .ref x]) (wc := [(q_5, .inr (6, [.null, .int 0]))]) (wr := [(x, .inr (11, [.ref q_1, .null, .null, .null, .null, .null, .null, .int 0, .int 0, .int 0])), (q_1, .inr (6, [.ref (u_3 0), .int 0])), ((u_3 0), .inl (cy, 44, .inl (fun _ => 0)))]) (n := 0) (R := _) ⟨hx, hb, hml, hown, htb⟩ (c_X6_init l D cy q_5) tw_90 tw_88 tw_89 tw_65 rfl rfl rfl (by decide +kernel) ⟨Nat.le_of_ble_eq_true rfl, Nat.le_of_ble_eq_true rfl⟩ hK hP hD hS hA [3] [0, 1, 2] rfl rfl rfl rfl (by decide) rfl hl.1 rfl (Nat.le_of_ble_eq_true rfl) dX11_init_20 ⟨Nat.le_of_ble_eq_true rfl, Nat.le_of_ble_eq_true rfl⟩ (fun u_7 H locs hw_8 hP hD hS => ?_)
  refine W.widen (k := 4) (n := 92) (by decide) (by decide) ?_
  have hP : va_P D classes [(x, .inr (11, [.ref q_1, .null, .null, .null, .null, .null, .null, .int 0, .int 0, .int 0])), (q_1, .inr (6, [.ref (u_3 0), .int 0])), ((u_3 0), .inl (cy, 44, .inl (fun _ => 0))), (q_5, .inr (6, [.ref (u_7 0), .int 0])), ((u_7 0), .inl (cy, 44, .inl (fun _ => 0)))] H := hP
  have hD : va_D A [(x, .inr (11, [.ref q_1, .null, .null, .null, .null, .null, .null, .int 0, .int 0, .int 0])), (q_1, .inr (6, [.ref (u_3 0), .int 0])), ((u_3 0), .inl (cy, 44, .inl (fun _ => 0))), (q_5, .inr (6, [.ref (u_7 0), .int 0])), ((u_7 0), .inl (cy, 44, .inl (fun _ => 0)))] := hD
  refine va_putF (D := D) (ci := 11) (v := .ref q_5) (ty := (.object "LaneRow$Text")) (C := RX11) (T := TX11) (N := 10) hx hb htb inX11 tyX11 tyX11_ok nmX11 hown hK hP hD hS 0 rfl rfl 1 (by decide) (htb _ tw_253) (fun _ h9 => h9) rfl hin rfl (by decide +kernel) rfl rfl (Nat.le_of_ble_eq_true rfl) dX11_init_23 (fun H locs hP hD hS => ?_)
  have hP : va_P D classes [(x, .inr (11, [.ref q_1, .ref q_5, .null, .null, .null, .null, .null, .int 0, .int 0, .int 0])), (q_1, .inr (6, [.ref (u_3 0), .int 0])), ((u_3 0), .inl (cy, 44, .inl (fun _ => 0))), (q_5, .inr (6, [.ref (u_7 0), .int 0])), ((u_7 0), .inl (cy, 44, .inl (fun _ => 0)))] H := hP
  have hD : va_D A [(x, .inr (11, [.ref q_1, .ref q_5, .null, .null, .null, .null, .null, .int 0, .int 0, .int 0])), (q_1, .inr (6, [.ref (u_3 0), .int 0])), ((u_3 0), .inl (cy, 44, .inl (fun _ => 0))), (q_5, .inr (6, [.ref (u_7 0), .int 0])), ((u_7 0), .inl (cy, 44, .inl (fun _ => 0)))] := hD
  refine lv_aload_n hx hb dX11_init_26 rfl (lv_at hl 0 rfl) ?_
  refine va_new (ci := 2) (fs := [.null, .null, .null, .int 0, .int 0, .int 0]) (C := RX2) (T := TX2) (N := 6) hx hb htb inX2 tyX2 tyX2_ok hown (htb _ tw_102) (htb _ tw_103) (htb _ tw_66) hK hP hD hS hA rfl (fun j hj => by rcases (show j = 0 ∨ j = 1 ∨ j = 2 ∨ j = 3 ∨ j = 4 ∨ j = 5 by omega) with rfl | rfl | rfl | rfl | rfl | rfl <;> rfl) (Nat.le_of_ble_eq_true rfl) (Nat.le_of_ble_eq_true rfl) dX11_init_27 (fun q_9 H hP hD hS => ?_)
  refine W.widen (k := 5) (n := 98) (by decide) (by decide) ?_
  have hP : va_P D classes [(x, .inr (11, [.ref q_1, .ref q_5, .null, .null, .null, .null, .null, .int 0, .int 0, .int 0])), (q_1, .inr (6, [.ref (u_3 0), .int 0])), ((u_3 0), .inl (cy, 44, .inl (fun _ => 0))), (q_5, .inr (6, [.ref (u_7 0), .int 0])), ((u_7 0), .inl (cy, 44, .inl (fun _ => 0))), (q_9, .inr (2, [.null, .null, .null, .int 0, .int 0, .int 0]))] H := hP
  have hD : va_D A [(x, .inr (11, [.ref q_1, .ref q_5, .null, .null, .null, .null, .null, .int 0, .int 0, .int 0])), (q_1, .inr (6, [.ref (u_3 0), .int 0])), ((u_3 0), .inl (cy, 44, .inl (fun _ => 0))), (q_5, .inr (6, [.ref (u_7 0), .int 0])), ((u_7 0), .inl (cy, 44, .inl (fun _ => 0))), (q_9, .inr (2, [.null, .null, .null, .int 0, .int 0, .int 0]))] := hD
  refine lv_dup hx hb dX11_init_30 rfl ?_
  refine wk_vI (As := []) (rest := [.ref q_9, .ref x]) (wc := [(q_9, .inr (2, [.null, .null, .null, .int 0, .int 0, .int 0]))]) (wr := [(x, .inr (11, [.ref q_1, .ref q_5, .null, .null, .null, .null, .null, .int 0, .int 0, .int 0])), (q_1, .inr (6, [.ref (u_3 0), .int 0])), ((u_3 0), .inl (cy, 44, .inl (fun _ => 0))), (q_5, .inr (6, [.ref (u_7 0), .int 0])), ((u_7 0), .inl (cy, 44, .inl (fun _ => 0)))]) (n := 0) (R := _) ⟨hx, hb, hml, hown, htb⟩ (c_X2_init l D cy q_9) tw_106 tw_104 tw_105 tw_66 rfl rfl rfl (by decide +kernel) ⟨Nat.le_of_ble_eq_true rfl, Nat.le_of_ble_eq_true rfl⟩ hK hP hD hS hA [5] [0, 1, 2, 3, 4] rfl rfl rfl rfl (by decide) rfl hl.1 rfl (Nat.le_of_ble_eq_true rfl) dX11_init_31 ⟨Nat.le_of_ble_eq_true rfl, Nat.le_of_ble_eq_true rfl⟩ (fun u_11 H locs hw_12 hP hD hS => ?_)
  refine W.widen (k := 19) (n := 194) (by decide) (by decide) ?_
  have hP : va_P D classes [(x, .inr (11, [.ref q_1, .ref q_5, .null, .null, .null, .null, .null, .int 0, .int 0, .int 0])), (q_1, .inr (6, [.ref (u_3 0), .int 0])), ((u_3 0), .inl (cy, 44, .inl (fun _ => 0))), (q_5, .inr (6, [.ref (u_7 0), .int 0])), ((u_7 0), .inl (cy, 44, .inl (fun _ => 0))), (q_9, .inr (2, [.ref (u_11 0), .ref (u_11 5), .ref (u_11 10), .int 0, .int 0, .int 0])), ((u_11 0), .inr (8, [.ref (u_11 1), .ref (u_11 2), .ref (u_11 3), .ref (u_11 4), .int 0])), ((u_11 1), .inl (cy, 8, .inl (fun _ => 0))), ((u_11 2), .inl (cy, 8, .inl (fun _ => 0))), ((u_11 3), .inl (cy, 8, .inl (fun _ => 0))), ((u_11 4), .inl (cy, 8, .inl (fun _ => 0))), ((u_11 5), .inr (8, [.ref (u_11 6), .ref (u_11 7), .ref (u_11 8), .ref (u_11 9), .int 0])), ((u_11 6), .inl (cy, 8, .inl (fun _ => 0))), ((u_11 7), .inl (cy, 8, .inl (fun _ => 0))), ((u_11 8), .inl (cy, 8, .inl (fun _ => 0))), ((u_11 9), .inl (cy, 8, .inl (fun _ => 0))), ((u_11 10), .inr (4, [.ref (u_11 11), .ref (u_11 12), .ref (u_11 13), .int 0])), ((u_11 11), .inl (cy, 6, .inl (fun _ => 0))), ((u_11 12), .inl (cy, 6, .inl (fun _ => 0))), ((u_11 13), .inl (cy, 6, .inl (fun _ => 0)))] H := hP
  have hD : va_D A [(x, .inr (11, [.ref q_1, .ref q_5, .null, .null, .null, .null, .null, .int 0, .int 0, .int 0])), (q_1, .inr (6, [.ref (u_3 0), .int 0])), ((u_3 0), .inl (cy, 44, .inl (fun _ => 0))), (q_5, .inr (6, [.ref (u_7 0), .int 0])), ((u_7 0), .inl (cy, 44, .inl (fun _ => 0))), (q_9, .inr (2, [.ref (u_11 0), .ref (u_11 5), .ref (u_11 10), .int 0, .int 0, .int 0])), ((u_11 0), .inr (8, [.ref (u_11 1), .ref (u_11 2), .ref (u_11 3), .ref (u_11 4), .int 0])), ((u_11 1), .inl (cy, 8, .inl (fun _ => 0))), ((u_11 2), .inl (cy, 8, .inl (fun _ => 0))), ((u_11 3), .inl (cy, 8, .inl (fun _ => 0))), ((u_11 4), .inl (cy, 8, .inl (fun _ => 0))), ((u_11 5), .inr (8, [.ref (u_11 6), .ref (u_11 7), .ref (u_11 8), .ref (u_11 9), .int 0])), ((u_11 6), .inl (cy, 8, .inl (fun _ => 0))), ((u_11 7), .inl (cy, 8, .inl (fun _ => 0))), ((u_11 8), .inl (cy, 8, .inl (fun _ => 0))), ((u_11 9), .inl (cy, 8, .inl (fun _ => 0))), ((u_11 10), .inr (4, [.ref (u_11 11), .ref (u_11 12), .ref (u_11 13), .int 0])), ((u_11 11), .inl (cy, 6, .inl (fun _ => 0))), ((u_11 12), .inl (cy, 6, .inl (fun _ => 0))), ((u_11 13), .inl (cy, 6, .inl (fun _ => 0)))] := hD
  refine va_putF (D := D) (ci := 11) (v := .ref q_9) (ty := (.object "LaneRow$Kept")) (C := RX11) (T := TX11) (N := 10) hx hb htb inX11 tyX11 tyX11_ok nmX11 hown hK hP hD hS 0 rfl rfl 2 (by decide) (htb _ tw_254) (fun _ h9 => h9) rfl hin rfl (by decide +kernel) rfl rfl (Nat.le_of_ble_eq_true rfl) dX11_init_34 (fun H locs hP hD hS => ?_)
  have hP : va_P D classes [(x, .inr (11, [.ref q_1, .ref q_5, .ref q_9, .null, .null, .null, .null, .int 0, .int 0, .int 0])), (q_1, .inr (6, [.ref (u_3 0), .int 0])), ((u_3 0), .inl (cy, 44, .inl (fun _ => 0))), (q_5, .inr (6, [.ref (u_7 0), .int 0])), ((u_7 0), .inl (cy, 44, .inl (fun _ => 0))), (q_9, .inr (2, [.ref (u_11 0), .ref (u_11 5), .ref (u_11 10), .int 0, .int 0, .int 0])), ((u_11 0), .inr (8, [.ref (u_11 1), .ref (u_11 2), .ref (u_11 3), .ref (u_11 4), .int 0])), ((u_11 1), .inl (cy, 8, .inl (fun _ => 0))), ((u_11 2), .inl (cy, 8, .inl (fun _ => 0))), ((u_11 3), .inl (cy, 8, .inl (fun _ => 0))), ((u_11 4), .inl (cy, 8, .inl (fun _ => 0))), ((u_11 5), .inr (8, [.ref (u_11 6), .ref (u_11 7), .ref (u_11 8), .ref (u_11 9), .int 0])), ((u_11 6), .inl (cy, 8, .inl (fun _ => 0))), ((u_11 7), .inl (cy, 8, .inl (fun _ => 0))), ((u_11 8), .inl (cy, 8, .inl (fun _ => 0))), ((u_11 9), .inl (cy, 8, .inl (fun _ => 0))), ((u_11 10), .inr (4, [.ref (u_11 11), .ref (u_11 12), .ref (u_11 13), .int 0])), ((u_11 11), .inl (cy, 6, .inl (fun _ => 0))), ((u_11 12), .inl (cy, 6, .inl (fun _ => 0))), ((u_11 13), .inl (cy, 6, .inl (fun _ => 0)))] H := hP
  have hD : va_D A [(x, .inr (11, [.ref q_1, .ref q_5, .ref q_9, .null, .null, .null, .null, .int 0, .int 0, .int 0])), (q_1, .inr (6, [.ref (u_3 0), .int 0])), ((u_3 0), .inl (cy, 44, .inl (fun _ => 0))), (q_5, .inr (6, [.ref (u_7 0), .int 0])), ((u_7 0), .inl (cy, 44, .inl (fun _ => 0))), (q_9, .inr (2, [.ref (u_11 0), .ref (u_11 5), .ref (u_11 10), .int 0, .int 0, .int 0])), ((u_11 0), .inr (8, [.ref (u_11 1), .ref (u_11 2), .ref (u_11 3), .ref (u_11 4), .int 0])), ((u_11 1), .inl (cy, 8, .inl (fun _ => 0))), ((u_11 2), .inl (cy, 8, .inl (fun _ => 0))), ((u_11 3), .inl (cy, 8, .inl (fun _ => 0))), ((u_11 4), .inl (cy, 8, .inl (fun _ => 0))), ((u_11 5), .inr (8, [.ref (u_11 6), .ref (u_11 7), .ref (u_11 8), .ref (u_11 9), .int 0])), ((u_11 6), .inl (cy, 8, .inl (fun _ => 0))), ((u_11 7), .inl (cy, 8, .inl (fun _ => 0))), ((u_11 8), .inl (cy, 8, .inl (fun _ => 0))), ((u_11 9), .inl (cy, 8, .inl (fun _ => 0))), ((u_11 10), .inr (4, [.ref (u_11 11), .ref (u_11 12), .ref (u_11 13), .int 0])), ((u_11 11), .inl (cy, 6, .inl (fun _ => 0))), ((u_11 12), .inl (cy, 6, .inl (fun _ => 0))), ((u_11 13), .inl (cy, 6, .inl (fun _ => 0)))] := hD
  refine lv_aload_n hx hb dX11_init_37 rfl (lv_at hl 0 rfl) ?_
  refine va_new (ci := 2) (fs := [.null, .null, .null, .int 0, .int 0, .int 0]) (C := RX2) (T := TX2) (N := 6) hx hb htb inX2 tyX2 tyX2_ok hown (htb _ tw_102) (htb _ tw_103) (htb _ tw_66) hK hP hD hS hA rfl (fun j hj => by rcases (show j = 0 ∨ j = 1 ∨ j = 2 ∨ j = 3 ∨ j = 4 ∨ j = 5 by omega) with rfl | rfl | rfl | rfl | rfl | rfl <;> rfl) (Nat.le_of_ble_eq_true rfl) (Nat.le_of_ble_eq_true rfl) dX11_init_38 (fun q_13 H hP hD hS => ?_)
  refine W.widen (k := 20) (n := 200) (by decide) (by decide) ?_
  have hP : va_P D classes [(x, .inr (11, [.ref q_1, .ref q_5, .ref q_9, .null, .null, .null, .null, .int 0, .int 0, .int 0])), (q_1, .inr (6, [.ref (u_3 0), .int 0])), ((u_3 0), .inl (cy, 44, .inl (fun _ => 0))), (q_5, .inr (6, [.ref (u_7 0), .int 0])), ((u_7 0), .inl (cy, 44, .inl (fun _ => 0))), (q_9, .inr (2, [.ref (u_11 0), .ref (u_11 5), .ref (u_11 10), .int 0, .int 0, .int 0])), ((u_11 0), .inr (8, [.ref (u_11 1), .ref (u_11 2), .ref (u_11 3), .ref (u_11 4), .int 0])), ((u_11 1), .inl (cy, 8, .inl (fun _ => 0))), ((u_11 2), .inl (cy, 8, .inl (fun _ => 0))), ((u_11 3), .inl (cy, 8, .inl (fun _ => 0))), ((u_11 4), .inl (cy, 8, .inl (fun _ => 0))), ((u_11 5), .inr (8, [.ref (u_11 6), .ref (u_11 7), .ref (u_11 8), .ref (u_11 9), .int 0])), ((u_11 6), .inl (cy, 8, .inl (fun _ => 0))), ((u_11 7), .inl (cy, 8, .inl (fun _ => 0))), ((u_11 8), .inl (cy, 8, .inl (fun _ => 0))), ((u_11 9), .inl (cy, 8, .inl (fun _ => 0))), ((u_11 10), .inr (4, [.ref (u_11 11), .ref (u_11 12), .ref (u_11 13), .int 0])), ((u_11 11), .inl (cy, 6, .inl (fun _ => 0))), ((u_11 12), .inl (cy, 6, .inl (fun _ => 0))), ((u_11 13), .inl (cy, 6, .inl (fun _ => 0))), (q_13, .inr (2, [.null, .null, .null, .int 0, .int 0, .int 0]))] H := hP
  have hD : va_D A [(x, .inr (11, [.ref q_1, .ref q_5, .ref q_9, .null, .null, .null, .null, .int 0, .int 0, .int 0])), (q_1, .inr (6, [.ref (u_3 0), .int 0])), ((u_3 0), .inl (cy, 44, .inl (fun _ => 0))), (q_5, .inr (6, [.ref (u_7 0), .int 0])), ((u_7 0), .inl (cy, 44, .inl (fun _ => 0))), (q_9, .inr (2, [.ref (u_11 0), .ref (u_11 5), .ref (u_11 10), .int 0, .int 0, .int 0])), ((u_11 0), .inr (8, [.ref (u_11 1), .ref (u_11 2), .ref (u_11 3), .ref (u_11 4), .int 0])), ((u_11 1), .inl (cy, 8, .inl (fun _ => 0))), ((u_11 2), .inl (cy, 8, .inl (fun _ => 0))), ((u_11 3), .inl (cy, 8, .inl (fun _ => 0))), ((u_11 4), .inl (cy, 8, .inl (fun _ => 0))), ((u_11 5), .inr (8, [.ref (u_11 6), .ref (u_11 7), .ref (u_11 8), .ref (u_11 9), .int 0])), ((u_11 6), .inl (cy, 8, .inl (fun _ => 0))), ((u_11 7), .inl (cy, 8, .inl (fun _ => 0))), ((u_11 8), .inl (cy, 8, .inl (fun _ => 0))), ((u_11 9), .inl (cy, 8, .inl (fun _ => 0))), ((u_11 10), .inr (4, [.ref (u_11 11), .ref (u_11 12), .ref (u_11 13), .int 0])), ((u_11 11), .inl (cy, 6, .inl (fun _ => 0))), ((u_11 12), .inl (cy, 6, .inl (fun _ => 0))), ((u_11 13), .inl (cy, 6, .inl (fun _ => 0))), (q_13, .inr (2, [.null, .null, .null, .int 0, .int 0, .int 0]))] := hD
  refine lv_dup hx hb dX11_init_41 rfl ?_
  refine wk_vI (As := []) (rest := [.ref q_13, .ref x]) (wc := [(q_13, .inr (2, [.null, .null, .null, .int 0, .int 0, .int 0]))]) (wr := [(x, .inr (11, [.ref q_1, .ref q_5, .ref q_9, .null, .null, .null, .null, .int 0, .int 0, .int 0])), (q_1, .inr (6, [.ref (u_3 0), .int 0])), ((u_3 0), .inl (cy, 44, .inl (fun _ => 0))), (q_5, .inr (6, [.ref (u_7 0), .int 0])), ((u_7 0), .inl (cy, 44, .inl (fun _ => 0))), (q_9, .inr (2, [.ref (u_11 0), .ref (u_11 5), .ref (u_11 10), .int 0, .int 0, .int 0])), ((u_11 0), .inr (8, [.ref (u_11 1), .ref (u_11 2), .ref (u_11 3), .ref (u_11 4), .int 0])), ((u_11 1), .inl (cy, 8, .inl (fun _ => 0))), ((u_11 2), .inl (cy, 8, .inl (fun _ => 0))), ((u_11 3), .inl (cy, 8, .inl (fun _ => 0))), ((u_11 4), .inl (cy, 8, .inl (fun _ => 0))), ((u_11 5), .inr (8, [.ref (u_11 6), .ref (u_11 7), .ref (u_11 8), .ref (u_11 9), .int 0])), ((u_11 6), .inl (cy, 8, .inl (fun _ => 0))), ((u_11 7), .inl (cy, 8, .inl (fun _ => 0))), ((u_11 8), .inl (cy, 8, .inl (fun _ => 0))), ((u_11 9), .inl (cy, 8, .inl (fun _ => 0))), ((u_11 10), .inr (4, [.ref (u_11 11), .ref (u_11 12), .ref (u_11 13), .int 0])), ((u_11 11), .inl (cy, 6, .inl (fun _ => 0))), ((u_11 12), .inl (cy, 6, .inl (fun _ => 0))), ((u_11 13), .inl (cy, 6, .inl (fun _ => 0)))]) (n := 0) (R := _) ⟨hx, hb, hml, hown, htb⟩ (c_X2_init l D cy q_13) tw_106 tw_104 tw_105 tw_66 rfl rfl rfl (by decide +kernel) ⟨Nat.le_of_ble_eq_true rfl, Nat.le_of_ble_eq_true rfl⟩ hK hP hD hS hA [20] [0, 1, 2, 3, 4, 5, 6, 7, 8, 9, 10, 11, 12, 13, 14, 15, 16, 17, 18, 19] rfl rfl rfl rfl (by decide) rfl hl.1 rfl (Nat.le_of_ble_eq_true rfl) dX11_init_42 ⟨Nat.le_of_ble_eq_true rfl, Nat.le_of_ble_eq_true rfl⟩ (fun u_15 H locs hw_16 hP hD hS => ?_)
  refine W.widen (k := 34) (n := 296) (by decide) (by decide) ?_
  have hP : va_P D classes [(x, .inr (11, [.ref q_1, .ref q_5, .ref q_9, .null, .null, .null, .null, .int 0, .int 0, .int 0])), (q_1, .inr (6, [.ref (u_3 0), .int 0])), ((u_3 0), .inl (cy, 44, .inl (fun _ => 0))), (q_5, .inr (6, [.ref (u_7 0), .int 0])), ((u_7 0), .inl (cy, 44, .inl (fun _ => 0))), (q_9, .inr (2, [.ref (u_11 0), .ref (u_11 5), .ref (u_11 10), .int 0, .int 0, .int 0])), ((u_11 0), .inr (8, [.ref (u_11 1), .ref (u_11 2), .ref (u_11 3), .ref (u_11 4), .int 0])), ((u_11 1), .inl (cy, 8, .inl (fun _ => 0))), ((u_11 2), .inl (cy, 8, .inl (fun _ => 0))), ((u_11 3), .inl (cy, 8, .inl (fun _ => 0))), ((u_11 4), .inl (cy, 8, .inl (fun _ => 0))), ((u_11 5), .inr (8, [.ref (u_11 6), .ref (u_11 7), .ref (u_11 8), .ref (u_11 9), .int 0])), ((u_11 6), .inl (cy, 8, .inl (fun _ => 0))), ((u_11 7), .inl (cy, 8, .inl (fun _ => 0))), ((u_11 8), .inl (cy, 8, .inl (fun _ => 0))), ((u_11 9), .inl (cy, 8, .inl (fun _ => 0))), ((u_11 10), .inr (4, [.ref (u_11 11), .ref (u_11 12), .ref (u_11 13), .int 0])), ((u_11 11), .inl (cy, 6, .inl (fun _ => 0))), ((u_11 12), .inl (cy, 6, .inl (fun _ => 0))), ((u_11 13), .inl (cy, 6, .inl (fun _ => 0))), (q_13, .inr (2, [.ref (u_15 0), .ref (u_15 5), .ref (u_15 10), .int 0, .int 0, .int 0])), ((u_15 0), .inr (8, [.ref (u_15 1), .ref (u_15 2), .ref (u_15 3), .ref (u_15 4), .int 0])), ((u_15 1), .inl (cy, 8, .inl (fun _ => 0))), ((u_15 2), .inl (cy, 8, .inl (fun _ => 0))), ((u_15 3), .inl (cy, 8, .inl (fun _ => 0))), ((u_15 4), .inl (cy, 8, .inl (fun _ => 0))), ((u_15 5), .inr (8, [.ref (u_15 6), .ref (u_15 7), .ref (u_15 8), .ref (u_15 9), .int 0])), ((u_15 6), .inl (cy, 8, .inl (fun _ => 0))), ((u_15 7), .inl (cy, 8, .inl (fun _ => 0))), ((u_15 8), .inl (cy, 8, .inl (fun _ => 0))), ((u_15 9), .inl (cy, 8, .inl (fun _ => 0))), ((u_15 10), .inr (4, [.ref (u_15 11), .ref (u_15 12), .ref (u_15 13), .int 0])), ((u_15 11), .inl (cy, 6, .inl (fun _ => 0))), ((u_15 12), .inl (cy, 6, .inl (fun _ => 0))), ((u_15 13), .inl (cy, 6, .inl (fun _ => 0)))] H := hP
  have hD : va_D A [(x, .inr (11, [.ref q_1, .ref q_5, .ref q_9, .null, .null, .null, .null, .int 0, .int 0, .int 0])), (q_1, .inr (6, [.ref (u_3 0), .int 0])), ((u_3 0), .inl (cy, 44, .inl (fun _ => 0))), (q_5, .inr (6, [.ref (u_7 0), .int 0])), ((u_7 0), .inl (cy, 44, .inl (fun _ => 0))), (q_9, .inr (2, [.ref (u_11 0), .ref (u_11 5), .ref (u_11 10), .int 0, .int 0, .int 0])), ((u_11 0), .inr (8, [.ref (u_11 1), .ref (u_11 2), .ref (u_11 3), .ref (u_11 4), .int 0])), ((u_11 1), .inl (cy, 8, .inl (fun _ => 0))), ((u_11 2), .inl (cy, 8, .inl (fun _ => 0))), ((u_11 3), .inl (cy, 8, .inl (fun _ => 0))), ((u_11 4), .inl (cy, 8, .inl (fun _ => 0))), ((u_11 5), .inr (8, [.ref (u_11 6), .ref (u_11 7), .ref (u_11 8), .ref (u_11 9), .int 0])), ((u_11 6), .inl (cy, 8, .inl (fun _ => 0))), ((u_11 7), .inl (cy, 8, .inl (fun _ => 0))), ((u_11 8), .inl (cy, 8, .inl (fun _ => 0))), ((u_11 9), .inl (cy, 8, .inl (fun _ => 0))), ((u_11 10), .inr (4, [.ref (u_11 11), .ref (u_11 12), .ref (u_11 13), .int 0])), ((u_11 11), .inl (cy, 6, .inl (fun _ => 0))), ((u_11 12), .inl (cy, 6, .inl (fun _ => 0))), ((u_11 13), .inl (cy, 6, .inl (fun _ => 0))), (q_13, .inr (2, [.ref (u_15 0), .ref (u_15 5), .ref (u_15 10), .int 0, .int 0, .int 0])), ((u_15 0), .inr (8, [.ref (u_15 1), .ref (u_15 2), .ref (u_15 3), .ref (u_15 4), .int 0])), ((u_15 1), .inl (cy, 8, .inl (fun _ => 0))), ((u_15 2), .inl (cy, 8, .inl (fun _ => 0))), ((u_15 3), .inl (cy, 8, .inl (fun _ => 0))), ((u_15 4), .inl (cy, 8, .inl (fun _ => 0))), ((u_15 5), .inr (8, [.ref (u_15 6), .ref (u_15 7), .ref (u_15 8), .ref (u_15 9), .int 0])), ((u_15 6), .inl (cy, 8, .inl (fun _ => 0))), ((u_15 7), .inl (cy, 8, .inl (fun _ => 0))), ((u_15 8), .inl (cy, 8, .inl (fun _ => 0))), ((u_15 9), .inl (cy, 8, .inl (fun _ => 0))), ((u_15 10), .inr (4, [.ref (u_15 11), .ref (u_15 12), .ref (u_15 13), .int 0])), ((u_15 11), .inl (cy, 6, .inl (fun _ => 0))), ((u_15 12), .inl (cy, 6, .inl (fun _ => 0))), ((u_15 13), .inl (cy, 6, .inl (fun _ => 0)))] := hD
  refine va_putF (D := D) (ci := 11) (v := .ref q_13) (ty := (.object "LaneRow$Kept")) (C := RX11) (T := TX11) (N := 10) hx hb htb inX11 tyX11 tyX11_ok nmX11 hown hK hP hD hS 0 rfl rfl 3 (by decide) (htb _ tw_255) (fun _ h9 => h9) rfl hin rfl (by decide +kernel) rfl rfl (Nat.le_of_ble_eq_true rfl) dX11_init_45 (fun H locs hP hD hS => ?_)
  have hP : va_P D classes [(x, .inr (11, [.ref q_1, .ref q_5, .ref q_9, .ref q_13, .null, .null, .null, .int 0, .int 0, .int 0])), (q_1, .inr (6, [.ref (u_3 0), .int 0])), ((u_3 0), .inl (cy, 44, .inl (fun _ => 0))), (q_5, .inr (6, [.ref (u_7 0), .int 0])), ((u_7 0), .inl (cy, 44, .inl (fun _ => 0))), (q_9, .inr (2, [.ref (u_11 0), .ref (u_11 5), .ref (u_11 10), .int 0, .int 0, .int 0])), ((u_11 0), .inr (8, [.ref (u_11 1), .ref (u_11 2), .ref (u_11 3), .ref (u_11 4), .int 0])), ((u_11 1), .inl (cy, 8, .inl (fun _ => 0))), ((u_11 2), .inl (cy, 8, .inl (fun _ => 0))), ((u_11 3), .inl (cy, 8, .inl (fun _ => 0))), ((u_11 4), .inl (cy, 8, .inl (fun _ => 0))), ((u_11 5), .inr (8, [.ref (u_11 6), .ref (u_11 7), .ref (u_11 8), .ref (u_11 9), .int 0])), ((u_11 6), .inl (cy, 8, .inl (fun _ => 0))), ((u_11 7), .inl (cy, 8, .inl (fun _ => 0))), ((u_11 8), .inl (cy, 8, .inl (fun _ => 0))), ((u_11 9), .inl (cy, 8, .inl (fun _ => 0))), ((u_11 10), .inr (4, [.ref (u_11 11), .ref (u_11 12), .ref (u_11 13), .int 0])), ((u_11 11), .inl (cy, 6, .inl (fun _ => 0))), ((u_11 12), .inl (cy, 6, .inl (fun _ => 0))), ((u_11 13), .inl (cy, 6, .inl (fun _ => 0))), (q_13, .inr (2, [.ref (u_15 0), .ref (u_15 5), .ref (u_15 10), .int 0, .int 0, .int 0])), ((u_15 0), .inr (8, [.ref (u_15 1), .ref (u_15 2), .ref (u_15 3), .ref (u_15 4), .int 0])), ((u_15 1), .inl (cy, 8, .inl (fun _ => 0))), ((u_15 2), .inl (cy, 8, .inl (fun _ => 0))), ((u_15 3), .inl (cy, 8, .inl (fun _ => 0))), ((u_15 4), .inl (cy, 8, .inl (fun _ => 0))), ((u_15 5), .inr (8, [.ref (u_15 6), .ref (u_15 7), .ref (u_15 8), .ref (u_15 9), .int 0])), ((u_15 6), .inl (cy, 8, .inl (fun _ => 0))), ((u_15 7), .inl (cy, 8, .inl (fun _ => 0))), ((u_15 8), .inl (cy, 8, .inl (fun _ => 0))), ((u_15 9), .inl (cy, 8, .inl (fun _ => 0))), ((u_15 10), .inr (4, [.ref (u_15 11), .ref (u_15 12), .ref (u_15 13), .int 0])), ((u_15 11), .inl (cy, 6, .inl (fun _ => 0))), ((u_15 12), .inl (cy, 6, .inl (fun _ => 0))), ((u_15 13), .inl (cy, 6, .inl (fun _ => 0)))] H := hP
  have hD : va_D A [(x, .inr (11, [.ref q_1, .ref q_5, .ref q_9, .ref q_13, .null, .null, .null, .int 0, .int 0, .int 0])), (q_1, .inr (6, [.ref (u_3 0), .int 0])), ((u_3 0), .inl (cy, 44, .inl (fun _ => 0))), (q_5, .inr (6, [.ref (u_7 0), .int 0])), ((u_7 0), .inl (cy, 44, .inl (fun _ => 0))), (q_9, .inr (2, [.ref (u_11 0), .ref (u_11 5), .ref (u_11 10), .int 0, .int 0, .int 0])), ((u_11 0), .inr (8, [.ref (u_11 1), .ref (u_11 2), .ref (u_11 3), .ref (u_11 4), .int 0])), ((u_11 1), .inl (cy, 8, .inl (fun _ => 0))), ((u_11 2), .inl (cy, 8, .inl (fun _ => 0))), ((u_11 3), .inl (cy, 8, .inl (fun _ => 0))), ((u_11 4), .inl (cy, 8, .inl (fun _ => 0))), ((u_11 5), .inr (8, [.ref (u_11 6), .ref (u_11 7), .ref (u_11 8), .ref (u_11 9), .int 0])), ((u_11 6), .inl (cy, 8, .inl (fun _ => 0))), ((u_11 7), .inl (cy, 8, .inl (fun _ => 0))), ((u_11 8), .inl (cy, 8, .inl (fun _ => 0))), ((u_11 9), .inl (cy, 8, .inl (fun _ => 0))), ((u_11 10), .inr (4, [.ref (u_11 11), .ref (u_11 12), .ref (u_11 13), .int 0])), ((u_11 11), .inl (cy, 6, .inl (fun _ => 0))), ((u_11 12), .inl (cy, 6, .inl (fun _ => 0))), ((u_11 13), .inl (cy, 6, .inl (fun _ => 0))), (q_13, .inr (2, [.ref (u_15 0), .ref (u_15 5), .ref (u_15 10), .int 0, .int 0, .int 0])), ((u_15 0), .inr (8, [.ref (u_15 1), .ref (u_15 2), .ref (u_15 3), .ref (u_15 4), .int 0])), ((u_15 1), .inl (cy, 8, .inl (fun _ => 0))), ((u_15 2), .inl (cy, 8, .inl (fun _ => 0))), ((u_15 3), .inl (cy, 8, .inl (fun _ => 0))), ((u_15 4), .inl (cy, 8, .inl (fun _ => 0))), ((u_15 5), .inr (8, [.ref (u_15 6), .ref (u_15 7), .ref (u_15 8), .ref (u_15 9), .int 0])), ((u_15 6), .inl (cy, 8, .inl (fun _ => 0))), ((u_15 7), .inl (cy, 8, .inl (fun _ => 0))), ((u_15 8), .inl (cy, 8, .inl (fun _ => 0))), ((u_15 9), .inl (cy, 8, .inl (fun _ => 0))), ((u_15 10), .inr (4, [.ref (u_15 11), .ref (u_15 12), .ref (u_15 13), .int 0])), ((u_15 11), .inl (cy, 6, .inl (fun _ => 0))), ((u_15 12), .inl (cy, 6, .inl (fun _ => 0))), ((u_15 13), .inl (cy, 6, .inl (fun _ => 0)))] := hD
  refine lv_aload_n hx hb dX11_init_48 rfl (lv_at hl 0 rfl) ?_
  refine va_new (ci := 10) (fs := [.int 0, .int 0, .int 0]) (C := RX10) (T := TX10) (N := 3) hx hb htb inX10 tyX10 tyX10_ok hown (htb _ tw_195) (htb _ tw_196) (htb _ tw_69) hK hP hD hS hA rfl (fun j hj => by rcases (show j = 0 ∨ j = 1 ∨ j = 2 by omega) with rfl | rfl | rfl <;> rfl) (Nat.le_of_ble_eq_true rfl) (Nat.le_of_ble_eq_true rfl) dX11_init_49 (fun q_17 H hP hD hS => ?_)
  refine W.widen (k := 35) (n := 299) (by decide) (by decide) ?_
  have hP : va_P D classes [(x, .inr (11, [.ref q_1, .ref q_5, .ref q_9, .ref q_13, .null, .null, .null, .int 0, .int 0, .int 0])), (q_1, .inr (6, [.ref (u_3 0), .int 0])), ((u_3 0), .inl (cy, 44, .inl (fun _ => 0))), (q_5, .inr (6, [.ref (u_7 0), .int 0])), ((u_7 0), .inl (cy, 44, .inl (fun _ => 0))), (q_9, .inr (2, [.ref (u_11 0), .ref (u_11 5), .ref (u_11 10), .int 0, .int 0, .int 0])), ((u_11 0), .inr (8, [.ref (u_11 1), .ref (u_11 2), .ref (u_11 3), .ref (u_11 4), .int 0])), ((u_11 1), .inl (cy, 8, .inl (fun _ => 0))), ((u_11 2), .inl (cy, 8, .inl (fun _ => 0))), ((u_11 3), .inl (cy, 8, .inl (fun _ => 0))), ((u_11 4), .inl (cy, 8, .inl (fun _ => 0))), ((u_11 5), .inr (8, [.ref (u_11 6), .ref (u_11 7), .ref (u_11 8), .ref (u_11 9), .int 0])), ((u_11 6), .inl (cy, 8, .inl (fun _ => 0))), ((u_11 7), .inl (cy, 8, .inl (fun _ => 0))), ((u_11 8), .inl (cy, 8, .inl (fun _ => 0))), ((u_11 9), .inl (cy, 8, .inl (fun _ => 0))), ((u_11 10), .inr (4, [.ref (u_11 11), .ref (u_11 12), .ref (u_11 13), .int 0])), ((u_11 11), .inl (cy, 6, .inl (fun _ => 0))), ((u_11 12), .inl (cy, 6, .inl (fun _ => 0))), ((u_11 13), .inl (cy, 6, .inl (fun _ => 0))), (q_13, .inr (2, [.ref (u_15 0), .ref (u_15 5), .ref (u_15 10), .int 0, .int 0, .int 0])), ((u_15 0), .inr (8, [.ref (u_15 1), .ref (u_15 2), .ref (u_15 3), .ref (u_15 4), .int 0])), ((u_15 1), .inl (cy, 8, .inl (fun _ => 0))), ((u_15 2), .inl (cy, 8, .inl (fun _ => 0))), ((u_15 3), .inl (cy, 8, .inl (fun _ => 0))), ((u_15 4), .inl (cy, 8, .inl (fun _ => 0))), ((u_15 5), .inr (8, [.ref (u_15 6), .ref (u_15 7), .ref (u_15 8), .ref (u_15 9), .int 0])), ((u_15 6), .inl (cy, 8, .inl (fun _ => 0))), ((u_15 7), .inl (cy, 8, .inl (fun _ => 0))), ((u_15 8), .inl (cy, 8, .inl (fun _ => 0))), ((u_15 9), .inl (cy, 8, .inl (fun _ => 0))), ((u_15 10), .inr (4, [.ref (u_15 11), .ref (u_15 12), .ref (u_15 13), .int 0])), ((u_15 11), .inl (cy, 6, .inl (fun _ => 0))), ((u_15 12), .inl (cy, 6, .inl (fun _ => 0))), ((u_15 13), .inl (cy, 6, .inl (fun _ => 0))), (q_17, .inr (10, [.int 0, .int 0, .int 0]))] H := hP
  have hD : va_D A [(x, .inr (11, [.ref q_1, .ref q_5, .ref q_9, .ref q_13, .null, .null, .null, .int 0, .int 0, .int 0])), (q_1, .inr (6, [.ref (u_3 0), .int 0])), ((u_3 0), .inl (cy, 44, .inl (fun _ => 0))), (q_5, .inr (6, [.ref (u_7 0), .int 0])), ((u_7 0), .inl (cy, 44, .inl (fun _ => 0))), (q_9, .inr (2, [.ref (u_11 0), .ref (u_11 5), .ref (u_11 10), .int 0, .int 0, .int 0])), ((u_11 0), .inr (8, [.ref (u_11 1), .ref (u_11 2), .ref (u_11 3), .ref (u_11 4), .int 0])), ((u_11 1), .inl (cy, 8, .inl (fun _ => 0))), ((u_11 2), .inl (cy, 8, .inl (fun _ => 0))), ((u_11 3), .inl (cy, 8, .inl (fun _ => 0))), ((u_11 4), .inl (cy, 8, .inl (fun _ => 0))), ((u_11 5), .inr (8, [.ref (u_11 6), .ref (u_11 7), .ref (u_11 8), .ref (u_11 9), .int 0])), ((u_11 6), .inl (cy, 8, .inl (fun _ => 0))), ((u_11 7), .inl (cy, 8, .inl (fun _ => 0))), ((u_11 8), .inl (cy, 8, .inl (fun _ => 0))), ((u_11 9), .inl (cy, 8, .inl (fun _ => 0))), ((u_11 10), .inr (4, [.ref (u_11 11), .ref (u_11 12), .ref (u_11 13), .int 0])), ((u_11 11), .inl (cy, 6, .inl (fun _ => 0))), ((u_11 12), .inl (cy, 6, .inl (fun _ => 0))), ((u_11 13), .inl (cy, 6, .inl (fun _ => 0))), (q_13, .inr (2, [.ref (u_15 0), .ref (u_15 5), .ref (u_15 10), .int 0, .int 0, .int 0])), ((u_15 0), .inr (8, [.ref (u_15 1), .ref (u_15 2), .ref (u_15 3), .ref (u_15 4), .int 0])), ((u_15 1), .inl (cy, 8, .inl (fun _ => 0))), ((u_15 2), .inl (cy, 8, .inl (fun _ => 0))), ((u_15 3), .inl (cy, 8, .inl (fun _ => 0))), ((u_15 4), .inl (cy, 8, .inl (fun _ => 0))), ((u_15 5), .inr (8, [.ref (u_15 6), .ref (u_15 7), .ref (u_15 8), .ref (u_15 9), .int 0])), ((u_15 6), .inl (cy, 8, .inl (fun _ => 0))), ((u_15 7), .inl (cy, 8, .inl (fun _ => 0))), ((u_15 8), .inl (cy, 8, .inl (fun _ => 0))), ((u_15 9), .inl (cy, 8, .inl (fun _ => 0))), ((u_15 10), .inr (4, [.ref (u_15 11), .ref (u_15 12), .ref (u_15 13), .int 0])), ((u_15 11), .inl (cy, 6, .inl (fun _ => 0))), ((u_15 12), .inl (cy, 6, .inl (fun _ => 0))), ((u_15 13), .inl (cy, 6, .inl (fun _ => 0))), (q_17, .inr (10, [.int 0, .int 0, .int 0]))] := hD
  refine lv_dup hx hb dX11_init_52 rfl ?_
  refine wk_vI (As := []) (rest := [.ref q_17, .ref x]) (wc := [(q_17, .inr (10, [.int 0, .int 0, .int 0]))]) (wr := [(x, .inr (11, [.ref q_1, .ref q_5, .ref q_9, .ref q_13, .null, .null, .null, .int 0, .int 0, .int 0])), (q_1, .inr (6, [.ref (u_3 0), .int 0])), ((u_3 0), .inl (cy, 44, .inl (fun _ => 0))), (q_5, .inr (6, [.ref (u_7 0), .int 0])), ((u_7 0), .inl (cy, 44, .inl (fun _ => 0))), (q_9, .inr (2, [.ref (u_11 0), .ref (u_11 5), .ref (u_11 10), .int 0, .int 0, .int 0])), ((u_11 0), .inr (8, [.ref (u_11 1), .ref (u_11 2), .ref (u_11 3), .ref (u_11 4), .int 0])), ((u_11 1), .inl (cy, 8, .inl (fun _ => 0))), ((u_11 2), .inl (cy, 8, .inl (fun _ => 0))), ((u_11 3), .inl (cy, 8, .inl (fun _ => 0))), ((u_11 4), .inl (cy, 8, .inl (fun _ => 0))), ((u_11 5), .inr (8, [.ref (u_11 6), .ref (u_11 7), .ref (u_11 8), .ref (u_11 9), .int 0])), ((u_11 6), .inl (cy, 8, .inl (fun _ => 0))), ((u_11 7), .inl (cy, 8, .inl (fun _ => 0))), ((u_11 8), .inl (cy, 8, .inl (fun _ => 0))), ((u_11 9), .inl (cy, 8, .inl (fun _ => 0))), ((u_11 10), .inr (4, [.ref (u_11 11), .ref (u_11 12), .ref (u_11 13), .int 0])), ((u_11 11), .inl (cy, 6, .inl (fun _ => 0))), ((u_11 12), .inl (cy, 6, .inl (fun _ => 0))), ((u_11 13), .inl (cy, 6, .inl (fun _ => 0))), (q_13, .inr (2, [.ref (u_15 0), .ref (u_15 5), .ref (u_15 10), .int 0, .int 0, .int 0])), ((u_15 0), .inr (8, [.ref (u_15 1), .ref (u_15 2), .ref (u_15 3), .ref (u_15 4), .int 0])), ((u_15 1), .inl (cy, 8, .inl (fun _ => 0))), ((u_15 2), .inl (cy, 8, .inl (fun _ => 0))), ((u_15 3), .inl (cy, 8, .inl (fun _ => 0))), ((u_15 4), .inl (cy, 8, .inl (fun _ => 0))), ((u_15 5), .inr (8, [.ref (u_15 6), .ref (u_15 7), .ref (u_15 8), .ref (u_15 9), .int 0])), ((u_15 6), .inl (cy, 8, .inl (fun _ => 0))), ((u_15 7), .inl (cy, 8, .inl (fun _ => 0))), ((u_15 8), .inl (cy, 8, .inl (fun _ => 0))), ((u_15 9), .inl (cy, 8, .inl (fun _ => 0))), ((u_15 10), .inr (4, [.ref (u_15 11), .ref (u_15 12), .ref (u_15 13), .int 0])), ((u_15 11), .inl (cy, 6, .inl (fun _ => 0))), ((u_15 12), .inl (cy, 6, .inl (fun _ => 0))), ((u_15 13), .inl (cy, 6, .inl (fun _ => 0)))]) (n := 0) (R := _) ⟨hx, hb, hml, hown, htb⟩ (c_X10_init l D cy q_17) tw_199 tw_197 tw_198 tw_69 rfl rfl rfl (by decide +kernel) ⟨Nat.le_of_ble_eq_true rfl, Nat.le_of_ble_eq_true rfl⟩ hK hP hD hS hA [35] [0, 1, 2, 3, 4, 5, 6, 7, 8, 9, 10, 11, 12, 13, 14, 15, 16, 17, 18, 19, 20, 21, 22, 23, 24, 25, 26, 27, 28, 29, 30, 31, 32, 33, 34] rfl rfl rfl rfl (by decide) rfl hl.1 rfl (Nat.le_of_ble_eq_true rfl) dX11_init_53 ⟨Nat.le_of_ble_eq_true rfl, Nat.le_of_ble_eq_true rfl⟩ (fun u_19 H locs hw_20 hP hD hS => ?_)
  refine W.widen (k := 35) (n := 299) (by decide) (by decide) ?_
  have hP : va_P D classes [(x, .inr (11, [.ref q_1, .ref q_5, .ref q_9, .ref q_13, .null, .null, .null, .int 0, .int 0, .int 0])), (q_1, .inr (6, [.ref (u_3 0), .int 0])), ((u_3 0), .inl (cy, 44, .inl (fun _ => 0))), (q_5, .inr (6, [.ref (u_7 0), .int 0])), ((u_7 0), .inl (cy, 44, .inl (fun _ => 0))), (q_9, .inr (2, [.ref (u_11 0), .ref (u_11 5), .ref (u_11 10), .int 0, .int 0, .int 0])), ((u_11 0), .inr (8, [.ref (u_11 1), .ref (u_11 2), .ref (u_11 3), .ref (u_11 4), .int 0])), ((u_11 1), .inl (cy, 8, .inl (fun _ => 0))), ((u_11 2), .inl (cy, 8, .inl (fun _ => 0))), ((u_11 3), .inl (cy, 8, .inl (fun _ => 0))), ((u_11 4), .inl (cy, 8, .inl (fun _ => 0))), ((u_11 5), .inr (8, [.ref (u_11 6), .ref (u_11 7), .ref (u_11 8), .ref (u_11 9), .int 0])), ((u_11 6), .inl (cy, 8, .inl (fun _ => 0))), ((u_11 7), .inl (cy, 8, .inl (fun _ => 0))), ((u_11 8), .inl (cy, 8, .inl (fun _ => 0))), ((u_11 9), .inl (cy, 8, .inl (fun _ => 0))), ((u_11 10), .inr (4, [.ref (u_11 11), .ref (u_11 12), .ref (u_11 13), .int 0])), ((u_11 11), .inl (cy, 6, .inl (fun _ => 0))), ((u_11 12), .inl (cy, 6, .inl (fun _ => 0))), ((u_11 13), .inl (cy, 6, .inl (fun _ => 0))), (q_13, .inr (2, [.ref (u_15 0), .ref (u_15 5), .ref (u_15 10), .int 0, .int 0, .int 0])), ((u_15 0), .inr (8, [.ref (u_15 1), .ref (u_15 2), .ref (u_15 3), .ref (u_15 4), .int 0])), ((u_15 1), .inl (cy, 8, .inl (fun _ => 0))), ((u_15 2), .inl (cy, 8, .inl (fun _ => 0))), ((u_15 3), .inl (cy, 8, .inl (fun _ => 0))), ((u_15 4), .inl (cy, 8, .inl (fun _ => 0))), ((u_15 5), .inr (8, [.ref (u_15 6), .ref (u_15 7), .ref (u_15 8), .ref (u_15 9), .int 0])), ((u_15 6), .inl (cy, 8, .inl (fun _ => 0))), ((u_15 7), .inl (cy, 8, .inl (fun _ => 0))), ((u_15 8), .inl (cy, 8, .inl (fun _ => 0))), ((u_15 9), .inl (cy, 8, .inl (fun _ => 0))), ((u_15 10), .inr (4, [.ref (u_15 11), .ref (u_15 12), .ref (u_15 13), .int 0])), ((u_15 11), .inl (cy, 6, .inl (fun _ => 0))), ((u_15 12), .inl (cy, 6, .inl (fun _ => 0))), ((u_15 13), .inl (cy, 6, .inl (fun _ => 0))), (q_17, .inr (10, [.int 0, .int 0, .int 0]))] H := hP
  have hD : va_D A [(x, .inr (11, [.ref q_1, .ref q_5, .ref q_9, .ref q_13, .null, .null, .null, .int 0, .int 0, .int 0])), (q_1, .inr (6, [.ref (u_3 0), .int 0])), ((u_3 0), .inl (cy, 44, .inl (fun _ => 0))), (q_5, .inr (6, [.ref (u_7 0), .int 0])), ((u_7 0), .inl (cy, 44, .inl (fun _ => 0))), (q_9, .inr (2, [.ref (u_11 0), .ref (u_11 5), .ref (u_11 10), .int 0, .int 0, .int 0])), ((u_11 0), .inr (8, [.ref (u_11 1), .ref (u_11 2), .ref (u_11 3), .ref (u_11 4), .int 0])), ((u_11 1), .inl (cy, 8, .inl (fun _ => 0))), ((u_11 2), .inl (cy, 8, .inl (fun _ => 0))), ((u_11 3), .inl (cy, 8, .inl (fun _ => 0))), ((u_11 4), .inl (cy, 8, .inl (fun _ => 0))), ((u_11 5), .inr (8, [.ref (u_11 6), .ref (u_11 7), .ref (u_11 8), .ref (u_11 9), .int 0])), ((u_11 6), .inl (cy, 8, .inl (fun _ => 0))), ((u_11 7), .inl (cy, 8, .inl (fun _ => 0))), ((u_11 8), .inl (cy, 8, .inl (fun _ => 0))), ((u_11 9), .inl (cy, 8, .inl (fun _ => 0))), ((u_11 10), .inr (4, [.ref (u_11 11), .ref (u_11 12), .ref (u_11 13), .int 0])), ((u_11 11), .inl (cy, 6, .inl (fun _ => 0))), ((u_11 12), .inl (cy, 6, .inl (fun _ => 0))), ((u_11 13), .inl (cy, 6, .inl (fun _ => 0))), (q_13, .inr (2, [.ref (u_15 0), .ref (u_15 5), .ref (u_15 10), .int 0, .int 0, .int 0])), ((u_15 0), .inr (8, [.ref (u_15 1), .ref (u_15 2), .ref (u_15 3), .ref (u_15 4), .int 0])), ((u_15 1), .inl (cy, 8, .inl (fun _ => 0))), ((u_15 2), .inl (cy, 8, .inl (fun _ => 0))), ((u_15 3), .inl (cy, 8, .inl (fun _ => 0))), ((u_15 4), .inl (cy, 8, .inl (fun _ => 0))), ((u_15 5), .inr (8, [.ref (u_15 6), .ref (u_15 7), .ref (u_15 8), .ref (u_15 9), .int 0])), ((u_15 6), .inl (cy, 8, .inl (fun _ => 0))), ((u_15 7), .inl (cy, 8, .inl (fun _ => 0))), ((u_15 8), .inl (cy, 8, .inl (fun _ => 0))), ((u_15 9), .inl (cy, 8, .inl (fun _ => 0))), ((u_15 10), .inr (4, [.ref (u_15 11), .ref (u_15 12), .ref (u_15 13), .int 0])), ((u_15 11), .inl (cy, 6, .inl (fun _ => 0))), ((u_15 12), .inl (cy, 6, .inl (fun _ => 0))), ((u_15 13), .inl (cy, 6, .inl (fun _ => 0))), (q_17, .inr (10, [.int 0, .int 0, .int 0]))] := hD
  refine va_putF (D := D) (ci := 11) (v := .ref q_17) (ty := (.object "LaneRow$Walk")) (C := RX11) (T := TX11) (N := 10) hx hb htb inX11 tyX11 tyX11_ok nmX11 hown hK hP hD hS 0 rfl rfl 4 (by decide) (htb _ tw_256) (fun _ h9 => h9) rfl hin rfl (by decide +kernel) rfl rfl (Nat.le_of_ble_eq_true rfl) dX11_init_56 (fun H locs hP hD hS => ?_)
  have hP : va_P D classes [(x, .inr (11, [.ref q_1, .ref q_5, .ref q_9, .ref q_13, .ref q_17, .null, .null, .int 0, .int 0, .int 0])), (q_1, .inr (6, [.ref (u_3 0), .int 0])), ((u_3 0), .inl (cy, 44, .inl (fun _ => 0))), (q_5, .inr (6, [.ref (u_7 0), .int 0])), ((u_7 0), .inl (cy, 44, .inl (fun _ => 0))), (q_9, .inr (2, [.ref (u_11 0), .ref (u_11 5), .ref (u_11 10), .int 0, .int 0, .int 0])), ((u_11 0), .inr (8, [.ref (u_11 1), .ref (u_11 2), .ref (u_11 3), .ref (u_11 4), .int 0])), ((u_11 1), .inl (cy, 8, .inl (fun _ => 0))), ((u_11 2), .inl (cy, 8, .inl (fun _ => 0))), ((u_11 3), .inl (cy, 8, .inl (fun _ => 0))), ((u_11 4), .inl (cy, 8, .inl (fun _ => 0))), ((u_11 5), .inr (8, [.ref (u_11 6), .ref (u_11 7), .ref (u_11 8), .ref (u_11 9), .int 0])), ((u_11 6), .inl (cy, 8, .inl (fun _ => 0))), ((u_11 7), .inl (cy, 8, .inl (fun _ => 0))), ((u_11 8), .inl (cy, 8, .inl (fun _ => 0))), ((u_11 9), .inl (cy, 8, .inl (fun _ => 0))), ((u_11 10), .inr (4, [.ref (u_11 11), .ref (u_11 12), .ref (u_11 13), .int 0])), ((u_11 11), .inl (cy, 6, .inl (fun _ => 0))), ((u_11 12), .inl (cy, 6, .inl (fun _ => 0))), ((u_11 13), .inl (cy, 6, .inl (fun _ => 0))), (q_13, .inr (2, [.ref (u_15 0), .ref (u_15 5), .ref (u_15 10), .int 0, .int 0, .int 0])), ((u_15 0), .inr (8, [.ref (u_15 1), .ref (u_15 2), .ref (u_15 3), .ref (u_15 4), .int 0])), ((u_15 1), .inl (cy, 8, .inl (fun _ => 0))), ((u_15 2), .inl (cy, 8, .inl (fun _ => 0))), ((u_15 3), .inl (cy, 8, .inl (fun _ => 0))), ((u_15 4), .inl (cy, 8, .inl (fun _ => 0))), ((u_15 5), .inr (8, [.ref (u_15 6), .ref (u_15 7), .ref (u_15 8), .ref (u_15 9), .int 0])), ((u_15 6), .inl (cy, 8, .inl (fun _ => 0))), ((u_15 7), .inl (cy, 8, .inl (fun _ => 0))), ((u_15 8), .inl (cy, 8, .inl (fun _ => 0))), ((u_15 9), .inl (cy, 8, .inl (fun _ => 0))), ((u_15 10), .inr (4, [.ref (u_15 11), .ref (u_15 12), .ref (u_15 13), .int 0])), ((u_15 11), .inl (cy, 6, .inl (fun _ => 0))), ((u_15 12), .inl (cy, 6, .inl (fun _ => 0))), ((u_15 13), .inl (cy, 6, .inl (fun _ => 0))), (q_17, .inr (10, [.int 0, .int 0, .int 0]))] H := hP
  have hD : va_D A [(x, .inr (11, [.ref q_1, .ref q_5, .ref q_9, .ref q_13, .ref q_17, .null, .null, .int 0, .int 0, .int 0])), (q_1, .inr (6, [.ref (u_3 0), .int 0])), ((u_3 0), .inl (cy, 44, .inl (fun _ => 0))), (q_5, .inr (6, [.ref (u_7 0), .int 0])), ((u_7 0), .inl (cy, 44, .inl (fun _ => 0))), (q_9, .inr (2, [.ref (u_11 0), .ref (u_11 5), .ref (u_11 10), .int 0, .int 0, .int 0])), ((u_11 0), .inr (8, [.ref (u_11 1), .ref (u_11 2), .ref (u_11 3), .ref (u_11 4), .int 0])), ((u_11 1), .inl (cy, 8, .inl (fun _ => 0))), ((u_11 2), .inl (cy, 8, .inl (fun _ => 0))), ((u_11 3), .inl (cy, 8, .inl (fun _ => 0))), ((u_11 4), .inl (cy, 8, .inl (fun _ => 0))), ((u_11 5), .inr (8, [.ref (u_11 6), .ref (u_11 7), .ref (u_11 8), .ref (u_11 9), .int 0])), ((u_11 6), .inl (cy, 8, .inl (fun _ => 0))), ((u_11 7), .inl (cy, 8, .inl (fun _ => 0))), ((u_11 8), .inl (cy, 8, .inl (fun _ => 0))), ((u_11 9), .inl (cy, 8, .inl (fun _ => 0))), ((u_11 10), .inr (4, [.ref (u_11 11), .ref (u_11 12), .ref (u_11 13), .int 0])), ((u_11 11), .inl (cy, 6, .inl (fun _ => 0))), ((u_11 12), .inl (cy, 6, .inl (fun _ => 0))), ((u_11 13), .inl (cy, 6, .inl (fun _ => 0))), (q_13, .inr (2, [.ref (u_15 0), .ref (u_15 5), .ref (u_15 10), .int 0, .int 0, .int 0])), ((u_15 0), .inr (8, [.ref (u_15 1), .ref (u_15 2), .ref (u_15 3), .ref (u_15 4), .int 0])), ((u_15 1), .inl (cy, 8, .inl (fun _ => 0))), ((u_15 2), .inl (cy, 8, .inl (fun _ => 0))), ((u_15 3), .inl (cy, 8, .inl (fun _ => 0))), ((u_15 4), .inl (cy, 8, .inl (fun _ => 0))), ((u_15 5), .inr (8, [.ref (u_15 6), .ref (u_15 7), .ref (u_15 8), .ref (u_15 9), .int 0])), ((u_15 6), .inl (cy, 8, .inl (fun _ => 0))), ((u_15 7), .inl (cy, 8, .inl (fun _ => 0))), ((u_15 8), .inl (cy, 8, .inl (fun _ => 0))), ((u_15 9), .inl (cy, 8, .inl (fun _ => 0))), ((u_15 10), .inr (4, [.ref (u_15 11), .ref (u_15 12), .ref (u_15 13), .int 0])), ((u_15 11), .inl (cy, 6, .inl (fun _ => 0))), ((u_15 12), .inl (cy, 6, .inl (fun _ => 0))), ((u_15 13), .inl (cy, 6, .inl (fun _ => 0))), (q_17, .inr (10, [.int 0, .int 0, .int 0]))] := hD
  refine lv_aload_n hx hb dX11_init_59 rfl (lv_at hl 0 rfl) ?_
  refine va_new (ci := 9) (fs := [.null, .null, .null, .null, .int 0, .int 0, .int 0, .int 0]) (C := RX9) (T := TX9) (N := 8) hx hb htb inX9 tyX9 tyX9_ok hown (htb _ tw_215) (htb _ tw_216) (htb _ tw_70) hK hP hD hS hA rfl (fun j hj => by rcases (show j = 0 ∨ j = 1 ∨ j = 2 ∨ j = 3 ∨ j = 4 ∨ j = 5 ∨ j = 6 ∨ j = 7 by omega) with rfl | rfl | rfl | rfl | rfl | rfl | rfl | rfl <;> rfl) (Nat.le_of_ble_eq_true rfl) (Nat.le_of_ble_eq_true rfl) dX11_init_60 (fun q_21 H hP hD hS => ?_)
  refine W.widen (k := 36) (n := 307) (by decide) (by decide) ?_
  have hP : va_P D classes [(x, .inr (11, [.ref q_1, .ref q_5, .ref q_9, .ref q_13, .ref q_17, .null, .null, .int 0, .int 0, .int 0])), (q_1, .inr (6, [.ref (u_3 0), .int 0])), ((u_3 0), .inl (cy, 44, .inl (fun _ => 0))), (q_5, .inr (6, [.ref (u_7 0), .int 0])), ((u_7 0), .inl (cy, 44, .inl (fun _ => 0))), (q_9, .inr (2, [.ref (u_11 0), .ref (u_11 5), .ref (u_11 10), .int 0, .int 0, .int 0])), ((u_11 0), .inr (8, [.ref (u_11 1), .ref (u_11 2), .ref (u_11 3), .ref (u_11 4), .int 0])), ((u_11 1), .inl (cy, 8, .inl (fun _ => 0))), ((u_11 2), .inl (cy, 8, .inl (fun _ => 0))), ((u_11 3), .inl (cy, 8, .inl (fun _ => 0))), ((u_11 4), .inl (cy, 8, .inl (fun _ => 0))), ((u_11 5), .inr (8, [.ref (u_11 6), .ref (u_11 7), .ref (u_11 8), .ref (u_11 9), .int 0])), ((u_11 6), .inl (cy, 8, .inl (fun _ => 0))), ((u_11 7), .inl (cy, 8, .inl (fun _ => 0))), ((u_11 8), .inl (cy, 8, .inl (fun _ => 0))), ((u_11 9), .inl (cy, 8, .inl (fun _ => 0))), ((u_11 10), .inr (4, [.ref (u_11 11), .ref (u_11 12), .ref (u_11 13), .int 0])), ((u_11 11), .inl (cy, 6, .inl (fun _ => 0))), ((u_11 12), .inl (cy, 6, .inl (fun _ => 0))), ((u_11 13), .inl (cy, 6, .inl (fun _ => 0))), (q_13, .inr (2, [.ref (u_15 0), .ref (u_15 5), .ref (u_15 10), .int 0, .int 0, .int 0])), ((u_15 0), .inr (8, [.ref (u_15 1), .ref (u_15 2), .ref (u_15 3), .ref (u_15 4), .int 0])), ((u_15 1), .inl (cy, 8, .inl (fun _ => 0))), ((u_15 2), .inl (cy, 8, .inl (fun _ => 0))), ((u_15 3), .inl (cy, 8, .inl (fun _ => 0))), ((u_15 4), .inl (cy, 8, .inl (fun _ => 0))), ((u_15 5), .inr (8, [.ref (u_15 6), .ref (u_15 7), .ref (u_15 8), .ref (u_15 9), .int 0])), ((u_15 6), .inl (cy, 8, .inl (fun _ => 0))), ((u_15 7), .inl (cy, 8, .inl (fun _ => 0))), ((u_15 8), .inl (cy, 8, .inl (fun _ => 0))), ((u_15 9), .inl (cy, 8, .inl (fun _ => 0))), ((u_15 10), .inr (4, [.ref (u_15 11), .ref (u_15 12), .ref (u_15 13), .int 0])), ((u_15 11), .inl (cy, 6, .inl (fun _ => 0))), ((u_15 12), .inl (cy, 6, .inl (fun _ => 0))), ((u_15 13), .inl (cy, 6, .inl (fun _ => 0))), (q_17, .inr (10, [.int 0, .int 0, .int 0])), (q_21, .inr (9, [.null, .null, .null, .null, .int 0, .int 0, .int 0, .int 0]))] H := hP
  have hD : va_D A [(x, .inr (11, [.ref q_1, .ref q_5, .ref q_9, .ref q_13, .ref q_17, .null, .null, .int 0, .int 0, .int 0])), (q_1, .inr (6, [.ref (u_3 0), .int 0])), ((u_3 0), .inl (cy, 44, .inl (fun _ => 0))), (q_5, .inr (6, [.ref (u_7 0), .int 0])), ((u_7 0), .inl (cy, 44, .inl (fun _ => 0))), (q_9, .inr (2, [.ref (u_11 0), .ref (u_11 5), .ref (u_11 10), .int 0, .int 0, .int 0])), ((u_11 0), .inr (8, [.ref (u_11 1), .ref (u_11 2), .ref (u_11 3), .ref (u_11 4), .int 0])), ((u_11 1), .inl (cy, 8, .inl (fun _ => 0))), ((u_11 2), .inl (cy, 8, .inl (fun _ => 0))), ((u_11 3), .inl (cy, 8, .inl (fun _ => 0))), ((u_11 4), .inl (cy, 8, .inl (fun _ => 0))), ((u_11 5), .inr (8, [.ref (u_11 6), .ref (u_11 7), .ref (u_11 8), .ref (u_11 9), .int 0])), ((u_11 6), .inl (cy, 8, .inl (fun _ => 0))), ((u_11 7), .inl (cy, 8, .inl (fun _ => 0))), ((u_11 8), .inl (cy, 8, .inl (fun _ => 0))), ((u_11 9), .inl (cy, 8, .inl (fun _ => 0))), ((u_11 10), .inr (4, [.ref (u_11 11), .ref (u_11 12), .ref (u_11 13), .int 0])), ((u_11 11), .inl (cy, 6, .inl (fun _ => 0))), ((u_11 12), .inl (cy, 6, .inl (fun _ => 0))), ((u_11 13), .inl (cy, 6, .inl (fun _ => 0))), (q_13, .inr (2, [.ref (u_15 0), .ref (u_15 5), .ref (u_15 10), .int 0, .int 0, .int 0])), ((u_15 0), .inr (8, [.ref (u_15 1), .ref (u_15 2), .ref (u_15 3), .ref (u_15 4), .int 0])), ((u_15 1), .inl (cy, 8, .inl (fun _ => 0))), ((u_15 2), .inl (cy, 8, .inl (fun _ => 0))), ((u_15 3), .inl (cy, 8, .inl (fun _ => 0))), ((u_15 4), .inl (cy, 8, .inl (fun _ => 0))), ((u_15 5), .inr (8, [.ref (u_15 6), .ref (u_15 7), .ref (u_15 8), .ref (u_15 9), .int 0])), ((u_15 6), .inl (cy, 8, .inl (fun _ => 0))), ((u_15 7), .inl (cy, 8, .inl (fun _ => 0))), ((u_15 8), .inl (cy, 8, .inl (fun _ => 0))), ((u_15 9), .inl (cy, 8, .inl (fun _ => 0))), ((u_15 10), .inr (4, [.ref (u_15 11), .ref (u_15 12), .ref (u_15 13), .int 0])), ((u_15 11), .inl (cy, 6, .inl (fun _ => 0))), ((u_15 12), .inl (cy, 6, .inl (fun _ => 0))), ((u_15 13), .inl (cy, 6, .inl (fun _ => 0))), (q_17, .inr (10, [.int 0, .int 0, .int 0])), (q_21, .inr (9, [.null, .null, .null, .null, .int 0, .int 0, .int 0, .int 0]))] := hD
  refine lv_dup hx hb dX11_init_63 rfl ?_
  refine wk_vI (As := []) (rest := [.ref q_21, .ref x]) (wc := [(q_21, .inr (9, [.null, .null, .null, .null, .int 0, .int 0, .int 0, .int 0]))]) (wr := [(x, .inr (11, [.ref q_1, .ref q_5, .ref q_9, .ref q_13, .ref q_17, .null, .null, .int 0, .int 0, .int 0])), (q_1, .inr (6, [.ref (u_3 0), .int 0])), ((u_3 0), .inl (cy, 44, .inl (fun _ => 0))), (q_5, .inr (6, [.ref (u_7 0), .int 0])), ((u_7 0), .inl (cy, 44, .inl (fun _ => 0))), (q_9, .inr (2, [.ref (u_11 0), .ref (u_11 5), .ref (u_11 10), .int 0, .int 0, .int 0])), ((u_11 0), .inr (8, [.ref (u_11 1), .ref (u_11 2), .ref (u_11 3), .ref (u_11 4), .int 0])), ((u_11 1), .inl (cy, 8, .inl (fun _ => 0))), ((u_11 2), .inl (cy, 8, .inl (fun _ => 0))), ((u_11 3), .inl (cy, 8, .inl (fun _ => 0))), ((u_11 4), .inl (cy, 8, .inl (fun _ => 0))), ((u_11 5), .inr (8, [.ref (u_11 6), .ref (u_11 7), .ref (u_11 8), .ref (u_11 9), .int 0])), ((u_11 6), .inl (cy, 8, .inl (fun _ => 0))), ((u_11 7), .inl (cy, 8, .inl (fun _ => 0))), ((u_11 8), .inl (cy, 8, .inl (fun _ => 0))), ((u_11 9), .inl (cy, 8, .inl (fun _ => 0))), ((u_11 10), .inr (4, [.ref (u_11 11), .ref (u_11 12), .ref (u_11 13), .int 0])), ((u_11 11), .inl (cy, 6, .inl (fun _ => 0))), ((u_11 12), .inl (cy, 6, .inl (fun _ => 0))), ((u_11 13), .inl (cy, 6, .inl (fun _ => 0))), (q_13, .inr (2, [.ref (u_15 0), .ref (u_15 5), .ref (u_15 10), .int 0, .int 0, .int 0])), ((u_15 0), .inr (8, [.ref (u_15 1), .ref (u_15 2), .ref (u_15 3), .ref (u_15 4), .int 0])), ((u_15 1), .inl (cy, 8, .inl (fun _ => 0))), ((u_15 2), .inl (cy, 8, .inl (fun _ => 0))), ((u_15 3), .inl (cy, 8, .inl (fun _ => 0))), ((u_15 4), .inl (cy, 8, .inl (fun _ => 0))), ((u_15 5), .inr (8, [.ref (u_15 6), .ref (u_15 7), .ref (u_15 8), .ref (u_15 9), .int 0])), ((u_15 6), .inl (cy, 8, .inl (fun _ => 0))), ((u_15 7), .inl (cy, 8, .inl (fun _ => 0))), ((u_15 8), .inl (cy, 8, .inl (fun _ => 0))), ((u_15 9), .inl (cy, 8, .inl (fun _ => 0))), ((u_15 10), .inr (4, [.ref (u_15 11), .ref (u_15 12), .ref (u_15 13), .int 0])), ((u_15 11), .inl (cy, 6, .inl (fun _ => 0))), ((u_15 12), .inl (cy, 6, .inl (fun _ => 0))), ((u_15 13), .inl (cy, 6, .inl (fun _ => 0))), (q_17, .inr (10, [.int 0, .int 0, .int 0]))]) (n := 0) (R := _) ⟨hx, hb, hml, hown, htb⟩ (c_X9_init l D cy q_21) tw_219 tw_217 tw_218 tw_70 rfl rfl rfl (by decide +kernel) ⟨Nat.le_of_ble_eq_true rfl, Nat.le_of_ble_eq_true rfl⟩ hK hP hD hS hA [36] [0, 1, 2, 3, 4, 5, 6, 7, 8, 9, 10, 11, 12, 13, 14, 15, 16, 17, 18, 19, 20, 21, 22, 23, 24, 25, 26, 27, 28, 29, 30, 31, 32, 33, 34, 35] rfl rfl rfl rfl (by decide) rfl hl.1 rfl (Nat.le_of_ble_eq_true rfl) dX11_init_64 ⟨Nat.le_of_ble_eq_true rfl, Nat.le_of_ble_eq_true rfl⟩ (fun u_23 H locs hw_24 hP hD hS => ?_)
  refine W.widen (k := 40) (n := 331) (by decide) (by decide) ?_
  have hP : va_P D classes [(x, .inr (11, [.ref q_1, .ref q_5, .ref q_9, .ref q_13, .ref q_17, .null, .null, .int 0, .int 0, .int 0])), (q_1, .inr (6, [.ref (u_3 0), .int 0])), ((u_3 0), .inl (cy, 44, .inl (fun _ => 0))), (q_5, .inr (6, [.ref (u_7 0), .int 0])), ((u_7 0), .inl (cy, 44, .inl (fun _ => 0))), (q_9, .inr (2, [.ref (u_11 0), .ref (u_11 5), .ref (u_11 10), .int 0, .int 0, .int 0])), ((u_11 0), .inr (8, [.ref (u_11 1), .ref (u_11 2), .ref (u_11 3), .ref (u_11 4), .int 0])), ((u_11 1), .inl (cy, 8, .inl (fun _ => 0))), ((u_11 2), .inl (cy, 8, .inl (fun _ => 0))), ((u_11 3), .inl (cy, 8, .inl (fun _ => 0))), ((u_11 4), .inl (cy, 8, .inl (fun _ => 0))), ((u_11 5), .inr (8, [.ref (u_11 6), .ref (u_11 7), .ref (u_11 8), .ref (u_11 9), .int 0])), ((u_11 6), .inl (cy, 8, .inl (fun _ => 0))), ((u_11 7), .inl (cy, 8, .inl (fun _ => 0))), ((u_11 8), .inl (cy, 8, .inl (fun _ => 0))), ((u_11 9), .inl (cy, 8, .inl (fun _ => 0))), ((u_11 10), .inr (4, [.ref (u_11 11), .ref (u_11 12), .ref (u_11 13), .int 0])), ((u_11 11), .inl (cy, 6, .inl (fun _ => 0))), ((u_11 12), .inl (cy, 6, .inl (fun _ => 0))), ((u_11 13), .inl (cy, 6, .inl (fun _ => 0))), (q_13, .inr (2, [.ref (u_15 0), .ref (u_15 5), .ref (u_15 10), .int 0, .int 0, .int 0])), ((u_15 0), .inr (8, [.ref (u_15 1), .ref (u_15 2), .ref (u_15 3), .ref (u_15 4), .int 0])), ((u_15 1), .inl (cy, 8, .inl (fun _ => 0))), ((u_15 2), .inl (cy, 8, .inl (fun _ => 0))), ((u_15 3), .inl (cy, 8, .inl (fun _ => 0))), ((u_15 4), .inl (cy, 8, .inl (fun _ => 0))), ((u_15 5), .inr (8, [.ref (u_15 6), .ref (u_15 7), .ref (u_15 8), .ref (u_15 9), .int 0])), ((u_15 6), .inl (cy, 8, .inl (fun _ => 0))), ((u_15 7), .inl (cy, 8, .inl (fun _ => 0))), ((u_15 8), .inl (cy, 8, .inl (fun _ => 0))), ((u_15 9), .inl (cy, 8, .inl (fun _ => 0))), ((u_15 10), .inr (4, [.ref (u_15 11), .ref (u_15 12), .ref (u_15 13), .int 0])), ((u_15 11), .inl (cy, 6, .inl (fun _ => 0))), ((u_15 12), .inl (cy, 6, .inl (fun _ => 0))), ((u_15 13), .inl (cy, 6, .inl (fun _ => 0))), (q_17, .inr (10, [.int 0, .int 0, .int 0])), (q_21, .inr (9, [.ref (u_23 0), .ref (u_23 1), .ref (u_23 2), .ref (u_23 3), .int 0, .int 0, .int 0, .int 0])), ((u_23 0), .inr (10, [.int 0, .int 0, .int 0])), ((u_23 1), .inl (cy, 8, .inl (fun _ => 0))), ((u_23 2), .inl (cy, 8, .inl (fun _ => 0))), ((u_23 3), .inl (cy, 5, .inl (fun _ => 0)))] H := hP
  have hD : va_D A [(x, .inr (11, [.ref q_1, .ref q_5, .ref q_9, .ref q_13, .ref q_17, .null, .null, .int 0, .int 0, .int 0])), (q_1, .inr (6, [.ref (u_3 0), .int 0])), ((u_3 0), .inl (cy, 44, .inl (fun _ => 0))), (q_5, .inr (6, [.ref (u_7 0), .int 0])), ((u_7 0), .inl (cy, 44, .inl (fun _ => 0))), (q_9, .inr (2, [.ref (u_11 0), .ref (u_11 5), .ref (u_11 10), .int 0, .int 0, .int 0])), ((u_11 0), .inr (8, [.ref (u_11 1), .ref (u_11 2), .ref (u_11 3), .ref (u_11 4), .int 0])), ((u_11 1), .inl (cy, 8, .inl (fun _ => 0))), ((u_11 2), .inl (cy, 8, .inl (fun _ => 0))), ((u_11 3), .inl (cy, 8, .inl (fun _ => 0))), ((u_11 4), .inl (cy, 8, .inl (fun _ => 0))), ((u_11 5), .inr (8, [.ref (u_11 6), .ref (u_11 7), .ref (u_11 8), .ref (u_11 9), .int 0])), ((u_11 6), .inl (cy, 8, .inl (fun _ => 0))), ((u_11 7), .inl (cy, 8, .inl (fun _ => 0))), ((u_11 8), .inl (cy, 8, .inl (fun _ => 0))), ((u_11 9), .inl (cy, 8, .inl (fun _ => 0))), ((u_11 10), .inr (4, [.ref (u_11 11), .ref (u_11 12), .ref (u_11 13), .int 0])), ((u_11 11), .inl (cy, 6, .inl (fun _ => 0))), ((u_11 12), .inl (cy, 6, .inl (fun _ => 0))), ((u_11 13), .inl (cy, 6, .inl (fun _ => 0))), (q_13, .inr (2, [.ref (u_15 0), .ref (u_15 5), .ref (u_15 10), .int 0, .int 0, .int 0])), ((u_15 0), .inr (8, [.ref (u_15 1), .ref (u_15 2), .ref (u_15 3), .ref (u_15 4), .int 0])), ((u_15 1), .inl (cy, 8, .inl (fun _ => 0))), ((u_15 2), .inl (cy, 8, .inl (fun _ => 0))), ((u_15 3), .inl (cy, 8, .inl (fun _ => 0))), ((u_15 4), .inl (cy, 8, .inl (fun _ => 0))), ((u_15 5), .inr (8, [.ref (u_15 6), .ref (u_15 7), .ref (u_15 8), .ref (u_15 9), .int 0])), ((u_15 6), .inl (cy, 8, .inl (fun _ => 0))), ((u_15 7), .inl (cy, 8, .inl (fun _ => 0))), ((u_15 8), .inl (cy, 8, .inl (fun _ => 0))), ((u_15 9), .inl (cy, 8, .inl (fun _ => 0))), ((u_15 10), .inr (4, [.ref (u_15 11), .ref (u_15 12), .ref (u_15 13), .int 0])), ((u_15 11), .inl (cy, 6, .inl (fun _ => 0))), ((u_15 12), .inl (cy, 6, .inl (fun _ => 0))), ((u_15 13), .inl (cy, 6, .inl (fun _ => 0))), (q_17, .inr (10, [.int 0, .int 0, .int 0])), (q_21, .inr (9, [.ref (u_23 0), .ref (u_23 1), .ref (u_23 2), .ref (u_23 3), .int 0, .int 0, .int 0, .int 0])), ((u_23 0), .inr (10, [.int 0, .int 0, .int 0])), ((u_23 1), .inl (cy, 8, .inl (fun _ => 0))), ((u_23 2), .inl (cy, 8, .inl (fun _ => 0))), ((u_23 3), .inl (cy, 5, .inl (fun _ => 0)))] := hD
  refine va_putF (D := D) (ci := 11) (v := .ref q_21) (ty := (.object "LaneRow$Trial")) (C := RX11) (T := TX11) (N := 10) hx hb htb inX11 tyX11 tyX11_ok nmX11 hown hK hP hD hS 0 rfl rfl 5 (by decide) (htb _ tw_257) (fun _ h9 => h9) rfl hin rfl (by decide +kernel) rfl rfl (Nat.le_of_ble_eq_true rfl) dX11_init_67 (fun H locs hP hD hS => ?_)
  have hP : va_P D classes [(x, .inr (11, [.ref q_1, .ref q_5, .ref q_9, .ref q_13, .ref q_17, .ref q_21, .null, .int 0, .int 0, .int 0])), (q_1, .inr (6, [.ref (u_3 0), .int 0])), ((u_3 0), .inl (cy, 44, .inl (fun _ => 0))), (q_5, .inr (6, [.ref (u_7 0), .int 0])), ((u_7 0), .inl (cy, 44, .inl (fun _ => 0))), (q_9, .inr (2, [.ref (u_11 0), .ref (u_11 5), .ref (u_11 10), .int 0, .int 0, .int 0])), ((u_11 0), .inr (8, [.ref (u_11 1), .ref (u_11 2), .ref (u_11 3), .ref (u_11 4), .int 0])), ((u_11 1), .inl (cy, 8, .inl (fun _ => 0))), ((u_11 2), .inl (cy, 8, .inl (fun _ => 0))), ((u_11 3), .inl (cy, 8, .inl (fun _ => 0))), ((u_11 4), .inl (cy, 8, .inl (fun _ => 0))), ((u_11 5), .inr (8, [.ref (u_11 6), .ref (u_11 7), .ref (u_11 8), .ref (u_11 9), .int 0])), ((u_11 6), .inl (cy, 8, .inl (fun _ => 0))), ((u_11 7), .inl (cy, 8, .inl (fun _ => 0))), ((u_11 8), .inl (cy, 8, .inl (fun _ => 0))), ((u_11 9), .inl (cy, 8, .inl (fun _ => 0))), ((u_11 10), .inr (4, [.ref (u_11 11), .ref (u_11 12), .ref (u_11 13), .int 0])), ((u_11 11), .inl (cy, 6, .inl (fun _ => 0))), ((u_11 12), .inl (cy, 6, .inl (fun _ => 0))), ((u_11 13), .inl (cy, 6, .inl (fun _ => 0))), (q_13, .inr (2, [.ref (u_15 0), .ref (u_15 5), .ref (u_15 10), .int 0, .int 0, .int 0])), ((u_15 0), .inr (8, [.ref (u_15 1), .ref (u_15 2), .ref (u_15 3), .ref (u_15 4), .int 0])), ((u_15 1), .inl (cy, 8, .inl (fun _ => 0))), ((u_15 2), .inl (cy, 8, .inl (fun _ => 0))), ((u_15 3), .inl (cy, 8, .inl (fun _ => 0))), ((u_15 4), .inl (cy, 8, .inl (fun _ => 0))), ((u_15 5), .inr (8, [.ref (u_15 6), .ref (u_15 7), .ref (u_15 8), .ref (u_15 9), .int 0])), ((u_15 6), .inl (cy, 8, .inl (fun _ => 0))), ((u_15 7), .inl (cy, 8, .inl (fun _ => 0))), ((u_15 8), .inl (cy, 8, .inl (fun _ => 0))), ((u_15 9), .inl (cy, 8, .inl (fun _ => 0))), ((u_15 10), .inr (4, [.ref (u_15 11), .ref (u_15 12), .ref (u_15 13), .int 0])), ((u_15 11), .inl (cy, 6, .inl (fun _ => 0))), ((u_15 12), .inl (cy, 6, .inl (fun _ => 0))), ((u_15 13), .inl (cy, 6, .inl (fun _ => 0))), (q_17, .inr (10, [.int 0, .int 0, .int 0])), (q_21, .inr (9, [.ref (u_23 0), .ref (u_23 1), .ref (u_23 2), .ref (u_23 3), .int 0, .int 0, .int 0, .int 0])), ((u_23 0), .inr (10, [.int 0, .int 0, .int 0])), ((u_23 1), .inl (cy, 8, .inl (fun _ => 0))), ((u_23 2), .inl (cy, 8, .inl (fun _ => 0))), ((u_23 3), .inl (cy, 5, .inl (fun _ => 0)))] H := hP
  have hD : va_D A [(x, .inr (11, [.ref q_1, .ref q_5, .ref q_9, .ref q_13, .ref q_17, .ref q_21, .null, .int 0, .int 0, .int 0])), (q_1, .inr (6, [.ref (u_3 0), .int 0])), ((u_3 0), .inl (cy, 44, .inl (fun _ => 0))), (q_5, .inr (6, [.ref (u_7 0), .int 0])), ((u_7 0), .inl (cy, 44, .inl (fun _ => 0))), (q_9, .inr (2, [.ref (u_11 0), .ref (u_11 5), .ref (u_11 10), .int 0, .int 0, .int 0])), ((u_11 0), .inr (8, [.ref (u_11 1), .ref (u_11 2), .ref (u_11 3), .ref (u_11 4), .int 0])), ((u_11 1), .inl (cy, 8, .inl (fun _ => 0))), ((u_11 2), .inl (cy, 8, .inl (fun _ => 0))), ((u_11 3), .inl (cy, 8, .inl (fun _ => 0))), ((u_11 4), .inl (cy, 8, .inl (fun _ => 0))), ((u_11 5), .inr (8, [.ref (u_11 6), .ref (u_11 7), .ref (u_11 8), .ref (u_11 9), .int 0])), ((u_11 6), .inl (cy, 8, .inl (fun _ => 0))), ((u_11 7), .inl (cy, 8, .inl (fun _ => 0))), ((u_11 8), .inl (cy, 8, .inl (fun _ => 0))), ((u_11 9), .inl (cy, 8, .inl (fun _ => 0))), ((u_11 10), .inr (4, [.ref (u_11 11), .ref (u_11 12), .ref (u_11 13), .int 0])), ((u_11 11), .inl (cy, 6, .inl (fun _ => 0))), ((u_11 12), .inl (cy, 6, .inl (fun _ => 0))), ((u_11 13), .inl (cy, 6, .inl (fun _ => 0))), (q_13, .inr (2, [.ref (u_15 0), .ref (u_15 5), .ref (u_15 10), .int 0, .int 0, .int 0])), ((u_15 0), .inr (8, [.ref (u_15 1), .ref (u_15 2), .ref (u_15 3), .ref (u_15 4), .int 0])), ((u_15 1), .inl (cy, 8, .inl (fun _ => 0))), ((u_15 2), .inl (cy, 8, .inl (fun _ => 0))), ((u_15 3), .inl (cy, 8, .inl (fun _ => 0))), ((u_15 4), .inl (cy, 8, .inl (fun _ => 0))), ((u_15 5), .inr (8, [.ref (u_15 6), .ref (u_15 7), .ref (u_15 8), .ref (u_15 9), .int 0])), ((u_15 6), .inl (cy, 8, .inl (fun _ => 0))), ((u_15 7), .inl (cy, 8, .inl (fun _ => 0))), ((u_15 8), .inl (cy, 8, .inl (fun _ => 0))), ((u_15 9), .inl (cy, 8, .inl (fun _ => 0))), ((u_15 10), .inr (4, [.ref (u_15 11), .ref (u_15 12), .ref (u_15 13), .int 0])), ((u_15 11), .inl (cy, 6, .inl (fun _ => 0))), ((u_15 12), .inl (cy, 6, .inl (fun _ => 0))), ((u_15 13), .inl (cy, 6, .inl (fun _ => 0))), (q_17, .inr (10, [.int 0, .int 0, .int 0])), (q_21, .inr (9, [.ref (u_23 0), .ref (u_23 1), .ref (u_23 2), .ref (u_23 3), .int 0, .int 0, .int 0, .int 0])), ((u_23 0), .inr (10, [.int 0, .int 0, .int 0])), ((u_23 1), .inl (cy, 8, .inl (fun _ => 0))), ((u_23 2), .inl (cy, 8, .inl (fun _ => 0))), ((u_23 3), .inl (cy, 5, .inl (fun _ => 0)))] := hD
  refine W.widen (k := 40) (n := 331) (by decide) (by decide) ?_
  exact wk_vret (fun i => [q_1, (u_3 0), q_5, (u_7 0), q_9, (u_11 0), (u_11 1), (u_11 2), (u_11 3), (u_11 4), (u_11 5), (u_11 6), (u_11 7), (u_11 8), (u_11 9), (u_11 10), (u_11 11), (u_11 12), (u_11 13), q_13, (u_15 0), (u_15 1), (u_15 2), (u_15 3), (u_15 4), (u_15 5), (u_15 6), (u_15 7), (u_15 8), (u_15 9), (u_15 10), (u_15 11), (u_15 12), (u_15 13), q_17, q_21, (u_23 0), (u_23 1), (u_23 2), (u_23 3)].getD i 0) hx hb hr hlocks trivial hK hP hD hS [0, 1, 2, 3, 4, 5, 6, 7, 8, 9, 10, 11, 12, 13, 14, 15, 16, 17, 18, 19, 20, 21, 22, 23, 24, 25, 26, 27, 28, 29, 30, 31, 32, 33, 34, 35, 36, 37, 38, 39, 40] rfl rfl dX11_init_70
theorem dX12_init_0 : decode cX12_init 0 = .ok (.aload_n 0, 1) := by decide +kernel
theorem dX12_init_1 : decode cX12_init 1 = .ok (.invokespecial 1, 3) := by decide +kernel
theorem dX12_init_4 : decode cX12_init 4 = .ok (.aload_n 0, 1) := by decide +kernel
theorem dX12_init_5 : decode cX12_init 5 = .ok (.bipush 44, 2) := by decide +kernel
theorem dX12_init_7 : decode cX12_init 7 = .ok (.newarray .int, 2) := by decide +kernel
theorem dX12_init_9 : decode cX12_init 9 = .ok (.putfield 7, 3) := by decide +kernel
theorem dX12_init_12 : decode cX12_init 12 = .ok (.aload_n 0, 1) := by decide +kernel
theorem dX12_init_13 : decode cX12_init 13 = .ok (.bipush 8, 2) := by decide +kernel
theorem dX12_init_15 : decode cX12_init 15 = .ok (.newarray .int, 2) := by decide +kernel
theorem dX12_init_17 : decode cX12_init 17 = .ok (.putfield 13, 3) := by decide +kernel
theorem dX12_init_20 : decode cX12_init 20 = .ok (.aload_n 0, 1) := by decide +kernel
theorem dX12_init_21 : decode cX12_init 21 = .ok (.bipush 8, 2) := by decide +kernel
theorem dX12_init_23 : decode cX12_init 23 = .ok (.newarray .int, 2) := by decide +kernel
theorem dX12_init_25 : decode cX12_init 25 = .ok (.putfield 16, 3) := by decide +kernel
theorem dX12_init_28 : decode cX12_init 28 = .ok (.aload_n 0, 1) := by decide +kernel
theorem dX12_init_29 : decode cX12_init 29 = .ok (.bipush 8, 2) := by decide +kernel
theorem dX12_init_31 : decode cX12_init 31 = .ok (.newarray .int, 2) := by decide +kernel
theorem dX12_init_33 : decode cX12_init 33 = .ok (.putfield 19, 3) := by decide +kernel
theorem dX12_init_36 : decode cX12_init 36 = .ok (.aload_n 0, 1) := by decide +kernel
theorem dX12_init_37 : decode cX12_init 37 = .ok (.bipush 8, 2) := by decide +kernel
theorem dX12_init_39 : decode cX12_init 39 = .ok (.newarray .int, 2) := by decide +kernel
theorem dX12_init_41 : decode cX12_init 41 = .ok (.putfield 22, 3) := by decide +kernel
theorem dX12_init_44 : decode cX12_init 44 = .ok (.aload_n 0, 1) := by decide +kernel
theorem dX12_init_45 : decode cX12_init 45 = .ok (.bipush 8, 2) := by decide +kernel
theorem dX12_init_47 : decode cX12_init 47 = .ok (.newarray .int, 2) := by decide +kernel
theorem dX12_init_49 : decode cX12_init 49 = .ok (.putfield 25, 3) := by decide +kernel
theorem dX12_init_52 : decode cX12_init 52 = .ok (.aload_n 0, 1) := by decide +kernel
theorem dX12_init_53 : decode cX12_init 53 = .ok (.bipush 8, 2) := by decide +kernel
theorem dX12_init_55 : decode cX12_init 55 = .ok (.newarray .int, 2) := by decide +kernel
theorem dX12_init_57 : decode cX12_init 57 = .ok (.putfield 28, 3) := by decide +kernel
theorem dX12_init_60 : decode cX12_init 60 = .ok (.aload_n 0, 1) := by decide +kernel
theorem dX12_init_61 : decode cX12_init 61 = .ok (.bipush 8, 2) := by decide +kernel
theorem dX12_init_63 : decode cX12_init 63 = .ok (.newarray .int, 2) := by decide +kernel
theorem dX12_init_65 : decode cX12_init 65 = .ok (.putfield 31, 3) := by decide +kernel
theorem dX12_init_68 : decode cX12_init 68 = .ok (.aload_n 0, 1) := by decide +kernel
theorem dX12_init_69 : decode cX12_init 69 = .ok (.bipush 8, 2) := by decide +kernel
theorem dX12_init_71 : decode cX12_init 71 = .ok (.newarray .int, 2) := by decide +kernel
theorem dX12_init_73 : decode cX12_init 73 = .ok (.putfield 34, 3) := by decide +kernel
theorem dX12_init_76 : decode cX12_init 76 = .ok (.aload_n 0, 1) := by decide +kernel
theorem dX12_init_77 : decode cX12_init 77 = .ok (.bipush 8, 2) := by decide +kernel
theorem dX12_init_79 : decode cX12_init 79 = .ok (.newarray .int, 2) := by decide +kernel
theorem dX12_init_81 : decode cX12_init 81 = .ok (.putfield 37, 3) := by decide +kernel
theorem dX12_init_84 : decode cX12_init 84 = .ok (.aload_n 0, 1) := by decide +kernel
theorem dX12_init_85 : decode cX12_init 85 = .ok (.bipush 8, 2) := by decide +kernel
theorem dX12_init_87 : decode cX12_init 87 = .ok (.newarray .int, 2) := by decide +kernel
theorem dX12_init_89 : decode cX12_init 89 = .ok (.putfield 40, 3) := by decide +kernel
theorem dX12_init_92 : decode cX12_init 92 = .ok (.aload_n 0, 1) := by decide +kernel
theorem dX12_init_93 : decode cX12_init 93 = .ok (.bipush 18, 2) := by decide +kernel
theorem dX12_init_95 : decode cX12_init 95 = .ok (.newarray .int, 2) := by decide +kernel
theorem dX12_init_97 : decode cX12_init 97 = .ok (.putfield 43, 3) := by decide +kernel
theorem dX12_init_100 : decode cX12_init 100 = .ok (.aload_n 0, 1) := by decide +kernel
theorem dX12_init_101 : decode cX12_init 101 = .ok (.iconst 5, 1) := by decide +kernel
theorem dX12_init_102 : decode cX12_init 102 = .ok (.newarray .int, 2) := by decide +kernel
theorem dX12_init_104 : decode cX12_init 104 = .ok (.putfield 46, 3) := by decide +kernel
theorem dX12_init_107 : decode cX12_init 107 = .ok (.aload_n 0, 1) := by decide +kernel
theorem dX12_init_108 : decode cX12_init 108 = .ok (.bipush 8, 2) := by decide +kernel
theorem dX12_init_110 : decode cX12_init 110 = .ok (.newarray .int, 2) := by decide +kernel
theorem dX12_init_112 : decode cX12_init 112 = .ok (.putfield 49, 3) := by decide +kernel
theorem dX12_init_115 : decode cX12_init 115 = .ok (.aload_n 0, 1) := by decide +kernel
theorem dX12_init_116 : decode cX12_init 116 = .ok (.bipush 8, 2) := by decide +kernel
theorem dX12_init_118 : decode cX12_init 118 = .ok (.newarray .int, 2) := by decide +kernel
theorem dX12_init_120 : decode cX12_init 120 = .ok (.putfield 52, 3) := by decide +kernel
theorem dX12_init_123 : decode cX12_init 123 = .ok (.aload_n 0, 1) := by decide +kernel
theorem dX12_init_124 : decode cX12_init 124 = .ok (.bipush 8, 2) := by decide +kernel
theorem dX12_init_126 : decode cX12_init 126 = .ok (.newarray .int, 2) := by decide +kernel
theorem dX12_init_128 : decode cX12_init 128 = .ok (.putfield 55, 3) := by decide +kernel
theorem dX12_init_131 : decode cX12_init 131 = .ok (.aload_n 0, 1) := by decide +kernel
theorem dX12_init_132 : decode cX12_init 132 = .ok (.bipush 8, 2) := by decide +kernel
theorem dX12_init_134 : decode cX12_init 134 = .ok (.newarray .int, 2) := by decide +kernel
theorem dX12_init_136 : decode cX12_init 136 = .ok (.putfield 58, 3) := by decide +kernel
theorem dX12_init_139 : decode cX12_init 139 = .ok (.aload_n 0, 1) := by decide +kernel
theorem dX12_init_140 : decode cX12_init 140 = .ok (.bipush 8, 2) := by decide +kernel
theorem dX12_init_142 : decode cX12_init 142 = .ok (.newarray .int, 2) := by decide +kernel
theorem dX12_init_144 : decode cX12_init 144 = .ok (.putfield 61, 3) := by decide +kernel
theorem dX12_init_147 : decode cX12_init 147 = .ok (.aload_n 0, 1) := by decide +kernel
theorem dX12_init_148 : decode cX12_init 148 = .ok (.bipush 8, 2) := by decide +kernel
theorem dX12_init_150 : decode cX12_init 150 = .ok (.newarray .int, 2) := by decide +kernel
theorem dX12_init_152 : decode cX12_init 152 = .ok (.putfield 64, 3) := by decide +kernel
theorem dX12_init_155 : decode cX12_init 155 = .ok (.aload_n 0, 1) := by decide +kernel
theorem dX12_init_156 : decode cX12_init 156 = .ok (.bipush 8, 2) := by decide +kernel
theorem dX12_init_158 : decode cX12_init 158 = .ok (.newarray .int, 2) := by decide +kernel
theorem dX12_init_160 : decode cX12_init 160 = .ok (.putfield 67, 3) := by decide +kernel
theorem dX12_init_163 : decode cX12_init 163 = .ok (.aload_n 0, 1) := by decide +kernel
theorem dX12_init_164 : decode cX12_init 164 = .ok (.bipush 8, 2) := by decide +kernel
theorem dX12_init_166 : decode cX12_init 166 = .ok (.newarray .int, 2) := by decide +kernel
theorem dX12_init_168 : decode cX12_init 168 = .ok (.putfield 70, 3) := by decide +kernel
theorem dX12_init_171 : decode cX12_init 171 = .ok (.aload_n 0, 1) := by decide +kernel
theorem dX12_init_172 : decode cX12_init 172 = .ok (.bipush 18, 2) := by decide +kernel
theorem dX12_init_174 : decode cX12_init 174 = .ok (.newarray .int, 2) := by decide +kernel
theorem dX12_init_176 : decode cX12_init 176 = .ok (.putfield 73, 3) := by decide +kernel
theorem dX12_init_179 : decode cX12_init 179 = .ok (.aload_n 0, 1) := by decide +kernel
theorem dX12_init_180 : decode cX12_init 180 = .ok (.iconst (-1), 1) := by decide +kernel
theorem dX12_init_181 : decode cX12_init 181 = .ok (.putfield 76, 3) := by decide +kernel
theorem dX12_init_184 : decode cX12_init 184 = .ok (.return_, 1) := by decide +kernel
set_option maxHeartbeats 4000000 in
set_option maxRecDepth 100000 in
theorem c_X12_init (l : Launch) (D : va_G) (cy : ClassId) (mo : Nat) : wk_Cv l yX12_init cX12_init 1 none { frames := 1, cells := 22, slots := 229, locals := 12 } D cy [.ref mo] [(mo, .inr (12, [.null, .int 0, .int 0, .int 0, .int 0, .int 0, .int 0, .int 0, .null, .null, .null, .null, .int 0, .null, .null, .null, .null, .int 0, .int 0, .int 0, .int 0, .null, .null, .int 0, .null, .null, .int 0, .int 0, .int 0, .int 0, .int 0, .int 0, .int 0, .int 0, .null, .null, .null, .null, .null, .null, .null, .null, .null, .long 0]))] 22 229 (fun (u : Nat → Nat) => True) (fun u => [(mo, .inr (12, [.ref (u 0), .int 0, .int 0, .int 0, .int 0, .int 0, .int 0, .int 0, .ref (u 1), .ref (u 2), .ref (u 3), .ref (u 4), .int 0, .ref (u 5), .ref (u 6), .ref (u 7), .ref (u 8), .int 0, .int 0, .int 0, .int 0, .ref (u 9), .ref (u 10), .int 0, .ref (u 11), .ref (u 12), .int 0, .int (-1), .int 0, .int 0, .int 0, .int 0, .int 0, .int 0, .ref (u 13), .ref (u 14), .ref (u 15), .ref (u 16), .ref (u 17), .ref (u 18), .ref (u 19), .ref (u 20), .ref (u 21), .long 0])), ((u 0), .inl (cy, 44, .inl (fun _ => 0))), ((u 1), .inl (cy, 8, .inl (fun _ => 0))), ((u 2), .inl (cy, 8, .inl (fun _ => 0))), ((u 3), .inl (cy, 8, .inl (fun _ => 0))), ((u 4), .inl (cy, 8, .inl (fun _ => 0))), ((u 5), .inl (cy, 8, .inl (fun _ => 0))), ((u 6), .inl (cy, 8, .inl (fun _ => 0))), ((u 7), .inl (cy, 8, .inl (fun _ => 0))), ((u 8), .inl (cy, 8, .inl (fun _ => 0))), ((u 9), .inl (cy, 8, .inl (fun _ => 0))), ((u 10), .inl (cy, 8, .inl (fun _ => 0))), ((u 11), .inl (cy, 18, .inl (fun _ => 0))), ((u 12), .inl (cy, 5, .inl (fun _ => 0))), ((u 13), .inl (cy, 8, .inl (fun _ => 0))), ((u 14), .inl (cy, 8, .inl (fun _ => 0))), ((u 15), .inl (cy, 8, .inl (fun _ => 0))), ((u 16), .inl (cy, 8, .inl (fun _ => 0))), ((u 17), .inl (cy, 8, .inl (fun _ => 0))), ((u 18), .inl (cy, 8, .inl (fun _ => 0))), ((u 19), .inl (cy, 8, .inl (fun _ => 0))), ((u 20), .inl (cy, 8, .inl (fun _ => 0))), ((u 21), .inl (cy, 18, .inl (fun _ => 0)))]) := by
  refine wk_mkCv (by decide) (Nat.le_of_ble_eq_true rfl) ?_
  intro p e s m below meth c A ls B hA hK hP hD hS hl
  obtain ⟨hx, hb, hr, hlocks, hml, hown, htb, hin⟩ := B
  have hl : lv_has ls 1 [(0, .ref mo)] := hl
  refine lv_aload_n hx hb dX12_init_0 rfl (lv_at hl 0 rfl) ?_
  refine W.objInit hx hb hown (htb _ tw_762) (htb _ tw_84) (htb _ tw_85) rfl (by rw [hml]; exact hl.1) rfl dX12_init_1 (Nat.le_of_ble_eq_true rfl) (Nat.le_of_ble_eq_true rfl) ?_
  refine W.eq (g2 := F0 m 4 ls []) rfl ?_
  refine lv_aload_n hx hb dX12_init_4 rfl (lv_at hl 0 rfl) ?_
  refine lv_bipush (v := 44) hx hb dX12_init_5 (by decide) ?_
  refine wk_newa hx hb (htb _ tw_101) hK hP hD hS hA 44 (by decide) (by decide) (by decide) (Nat.le_of_ble_eq_true rfl) (Nat.le_of_ble_eq_true rfl) dX12_init_7 (fun q_1 H hP hD hS => ?_)
  refine W.widen (k := 1) (n := 44) (by decide) (by decide) ?_
  have hP : va_P D classes [(mo, .inr (12, [.null, .int 0, .int 0, .int 0, .int 0, .int 0, .int 0, .int 0, .null, .null, .null, .null, .int 0, .null, .null, .null, .null, .int 0, .int 0, .int 0, .int 0, .null, .null, .int 0, .null, .null, .int 0, .int 0, .int 0, .int 0, .int 0, .int 0, .int 0, .int 0, .null, .null, .null, .null, .null, .null, .null, .null, .null, .long 0])), (q_1, .inl (cy, 44, .inl (fun _ => 0)))] H := hP
  have hD : va_D A [(mo, .inr (12, [.null, .int 0, .int 0, .int 0, .int 0, .int 0, .int 0, .int 0, .null, .null, .null, .null, .int 0, .null, .null, .null, .null, .int 0, .int 0, .int 0, .int 0, .null, .null, .int 0, .null, .null, .int 0, .int 0, .int 0, .int 0, .int 0, .int 0, .int 0, .int 0, .null, .null, .null, .null, .null, .null, .null, .null, .null, .long 0])), (q_1, .inl (cy, 44, .inl (fun _ => 0)))] := hD
  refine va_putF (D := D) (ci := 12) (v := .ref q_1) (ty := (.array .int)) (C := RX12) (T := TX12) (N := 44) hx hb htb inX12 tyX12 tyX12_ok nmX12 hown hK hP hD hS 0 rfl rfl 0 (by decide) (htb _ tw_763) (fun _ h9 => h9) rfl hin rfl (by decide +kernel) rfl rfl (Nat.le_of_ble_eq_true rfl) dX12_init_9 (fun H locs hP hD hS => ?_)
  have hP : va_P D classes [(mo, .inr (12, [.ref q_1, .int 0, .int 0, .int 0, .int 0, .int 0, .int 0, .int 0, .null, .null, .null, .null, .int 0, .null, .null, .null, .null, .int 0, .int 0, .int 0, .int 0, .null, .null, .int 0, .null, .null, .int 0, .int 0, .int 0, .int 0, .int 0, .int 0, .int 0, .int 0, .null, .null, .null, .null, .null, .null, .null, .null, .null, .long 0])), (q_1, .inl (cy, 44, .inl (fun _ => 0)))] H := hP
  have hD : va_D A [(mo, .inr (12, [.ref q_1, .int 0, .int 0, .int 0, .int 0, .int 0, .int 0, .int 0, .null, .null, .null, .null, .int 0, .null, .null, .null, .null, .int 0, .int 0, .int 0, .int 0, .null, .null, .int 0, .null, .null, .int 0, .int 0, .int 0, .int 0, .int 0, .int 0, .int 0, .int 0, .null, .null, .null, .null, .null, .null, .null, .null, .null, .long 0])), (q_1, .inl (cy, 44, .inl (fun _ => 0)))] := hD
  refine lv_aload_n hx hb dX12_init_12 rfl (lv_at hl 0 rfl) ?_
  refine lv_bipush (v := 8) hx hb dX12_init_13 (by decide) ?_
  refine wk_newa hx hb (htb _ tw_101) hK hP hD hS hA 8 (by decide) (by decide) (by decide) (Nat.le_of_ble_eq_true rfl) (Nat.le_of_ble_eq_true rfl) dX12_init_15 (fun q_2 H hP hD hS => ?_)
  refine W.widen (k := 2) (n := 52) (by decide) (by decide) ?_
  have hP : va_P D classes [(mo, .inr (12, [.ref q_1, .int 0, .int 0, .int 0, .int 0, .int 0, .int 0, .int 0, .null, .null, .null, .null, .int 0, .null, .null, .null, .null, .int 0, .int 0, .int 0, .int 0, .null, .null, .int 0, .null, .null, .int 0, .int 0, .int 0, .int 0, .int 0, .int 0, .int 0, .int 0, .null, .null, .null, .null, .null, .null, .null, .null, .null, .long 0])), (q_1, .inl (cy, 44, .inl (fun _ => 0))), (q_2, .inl (cy, 8, .inl (fun _ => 0)))] H := hP
  have hD : va_D A [(mo, .inr (12, [.ref q_1, .int 0, .int 0, .int 0, .int 0, .int 0, .int 0, .int 0, .null, .null, .null, .null, .int 0, .null, .null, .null, .null, .int 0, .int 0, .int 0, .int 0, .null, .null, .int 0, .null, .null, .int 0, .int 0, .int 0, .int 0, .int 0, .int 0, .int 0, .int 0, .null, .null, .null, .null, .null, .null, .null, .null, .null, .long 0])), (q_1, .inl (cy, 44, .inl (fun _ => 0))), (q_2, .inl (cy, 8, .inl (fun _ => 0)))] := hD
  refine va_putF (D := D) (ci := 12) (v := .ref q_2) (ty := (.array .int)) (C := RX12) (T := TX12) (N := 44) hx hb htb inX12 tyX12 tyX12_ok nmX12 hown hK hP hD hS 0 rfl rfl 8 (by decide) (htb _ tw_771) (fun _ h9 => h9) rfl hin rfl (by decide +kernel) rfl rfl (Nat.le_of_ble_eq_true rfl) dX12_init_17 (fun H locs hP hD hS => ?_)
  have hP : va_P D classes [(mo, .inr (12, [.ref q_1, .int 0, .int 0, .int 0, .int 0, .int 0, .int 0, .int 0, .ref q_2, .null, .null, .null, .int 0, .null, .null, .null, .null, .int 0, .int 0, .int 0, .int 0, .null, .null, .int 0, .null, .null, .int 0, .int 0, .int 0, .int 0, .int 0, .int 0, .int 0, .int 0, .null, .null, .null, .null, .null, .null, .null, .null, .null, .long 0])), (q_1, .inl (cy, 44, .inl (fun _ => 0))), (q_2, .inl (cy, 8, .inl (fun _ => 0)))] H := hP
  have hD : va_D A [(mo, .inr (12, [.ref q_1, .int 0, .int 0, .int 0, .int 0, .int 0, .int 0, .int 0, .ref q_2, .null, .null, .null, .int 0, .null, .null, .null, .null, .int 0, .int 0, .int 0, .int 0, .null, .null, .int 0, .null, .null, .int 0, .int 0, .int 0, .int 0, .int 0, .int 0, .int 0, .int 0, .null, .null, .null, .null, .null, .null, .null, .null, .null, .long 0])), (q_1, .inl (cy, 44, .inl (fun _ => 0))), (q_2, .inl (cy, 8, .inl (fun _ => 0)))] := hD
  refine lv_aload_n hx hb dX12_init_20 rfl (lv_at hl 0 rfl) ?_
  refine lv_bipush (v := 8) hx hb dX12_init_21 (by decide) ?_
  refine wk_newa hx hb (htb _ tw_101) hK hP hD hS hA 8 (by decide) (by decide) (by decide) (Nat.le_of_ble_eq_true rfl) (Nat.le_of_ble_eq_true rfl) dX12_init_23 (fun q_3 H hP hD hS => ?_)
  refine W.widen (k := 3) (n := 60) (by decide) (by decide) ?_
  have hP : va_P D classes [(mo, .inr (12, [.ref q_1, .int 0, .int 0, .int 0, .int 0, .int 0, .int 0, .int 0, .ref q_2, .null, .null, .null, .int 0, .null, .null, .null, .null, .int 0, .int 0, .int 0, .int 0, .null, .null, .int 0, .null, .null, .int 0, .int 0, .int 0, .int 0, .int 0, .int 0, .int 0, .int 0, .null, .null, .null, .null, .null, .null, .null, .null, .null, .long 0])), (q_1, .inl (cy, 44, .inl (fun _ => 0))), (q_2, .inl (cy, 8, .inl (fun _ => 0))), (q_3, .inl (cy, 8, .inl (fun _ => 0)))] H := hP
  have hD : va_D A [(mo, .inr (12, [.ref q_1, .int 0, .int 0, .int 0, .int 0, .int 0, .int 0, .int 0, .ref q_2, .null, .null, .null, .int 0, .null, .null, .null, .null, .int 0, .int 0, .int 0, .int 0, .null, .null, .int 0, .null, .null, .int 0, .int 0, .int 0, .int 0, .int 0, .int 0, .int 0, .int 0, .null, .null, .null, .null, .null, .null, .null, .null, .null, .long 0])), (q_1, .inl (cy, 44, .inl (fun _ => 0))), (q_2, .inl (cy, 8, .inl (fun _ => 0))), (q_3, .inl (cy, 8, .inl (fun _ => 0)))] := hD
  refine va_putF (D := D) (ci := 12) (v := .ref q_3) (ty := (.array .int)) (C := RX12) (T := TX12) (N := 44) hx hb htb inX12 tyX12 tyX12_ok nmX12 hown hK hP hD hS 0 rfl rfl 9 (by decide) (htb _ tw_772) (fun _ h9 => h9) rfl hin rfl (by decide +kernel) rfl rfl (Nat.le_of_ble_eq_true rfl) dX12_init_25 (fun H locs hP hD hS => ?_)
  have hP : va_P D classes [(mo, .inr (12, [.ref q_1, .int 0, .int 0, .int 0, .int 0, .int 0, .int 0, .int 0, .ref q_2, .ref q_3, .null, .null, .int 0, .null, .null, .null, .null, .int 0, .int 0, .int 0, .int 0, .null, .null, .int 0, .null, .null, .int 0, .int 0, .int 0, .int 0, .int 0, .int 0, .int 0, .int 0, .null, .null, .null, .null, .null, .null, .null, .null, .null, .long 0])), (q_1, .inl (cy, 44, .inl (fun _ => 0))), (q_2, .inl (cy, 8, .inl (fun _ => 0))), (q_3, .inl (cy, 8, .inl (fun _ => 0)))] H := hP
  have hD : va_D A [(mo, .inr (12, [.ref q_1, .int 0, .int 0, .int 0, .int 0, .int 0, .int 0, .int 0, .ref q_2, .ref q_3, .null, .null, .int 0, .null, .null, .null, .null, .int 0, .int 0, .int 0, .int 0, .null, .null, .int 0, .null, .null, .int 0, .int 0, .int 0, .int 0, .int 0, .int 0, .int 0, .int 0, .null, .null, .null, .null, .null, .null, .null, .null, .null, .long 0])), (q_1, .inl (cy, 44, .inl (fun _ => 0))), (q_2, .inl (cy, 8, .inl (fun _ => 0))), (q_3, .inl (cy, 8, .inl (fun _ => 0)))] := hD
  refine lv_aload_n hx hb dX12_init_28 rfl (lv_at hl 0 rfl) ?_
  refine lv_bipush (v := 8) hx hb dX12_init_29 (by decide) ?_
  refine wk_newa hx hb (htb _ tw_101) hK hP hD hS hA 8 (by decide) (by decide) (by decide) (Nat.le_of_ble_eq_true rfl) (Nat.le_of_ble_eq_true rfl) dX12_init_31 (fun q_4 H hP hD hS => ?_)
  refine W.widen (k := 4) (n := 68) (by decide) (by decide) ?_
  have hP : va_P D classes [(mo, .inr (12, [.ref q_1, .int 0, .int 0, .int 0, .int 0, .int 0, .int 0, .int 0, .ref q_2, .ref q_3, .null, .null, .int 0, .null, .null, .null, .null, .int 0, .int 0, .int 0, .int 0, .null, .null, .int 0, .null, .null, .int 0, .int 0, .int 0, .int 0, .int 0, .int 0, .int 0, .int 0, .null, .null, .null, .null, .null, .null, .null, .null, .null, .long 0])), (q_1, .inl (cy, 44, .inl (fun _ => 0))), (q_2, .inl (cy, 8, .inl (fun _ => 0))), (q_3, .inl (cy, 8, .inl (fun _ => 0))), (q_4, .inl (cy, 8, .inl (fun _ => 0)))] H := hP
  have hD : va_D A [(mo, .inr (12, [.ref q_1, .int 0, .int 0, .int 0, .int 0, .int 0, .int 0, .int 0, .ref q_2, .ref q_3, .null, .null, .int 0, .null, .null, .null, .null, .int 0, .int 0, .int 0, .int 0, .null, .null, .int 0, .null, .null, .int 0, .int 0, .int 0, .int 0, .int 0, .int 0, .int 0, .int 0, .null, .null, .null, .null, .null, .null, .null, .null, .null, .long 0])), (q_1, .inl (cy, 44, .inl (fun _ => 0))), (q_2, .inl (cy, 8, .inl (fun _ => 0))), (q_3, .inl (cy, 8, .inl (fun _ => 0))), (q_4, .inl (cy, 8, .inl (fun _ => 0)))] := hD
  refine va_putF (D := D) (ci := 12) (v := .ref q_4) (ty := (.array .int)) (C := RX12) (T := TX12) (N := 44) hx hb htb inX12 tyX12 tyX12_ok nmX12 hown hK hP hD hS 0 rfl rfl 10 (by decide) (htb _ tw_773) (fun _ h9 => h9) rfl hin rfl (by decide +kernel) rfl rfl (Nat.le_of_ble_eq_true rfl) dX12_init_33 (fun H locs hP hD hS => ?_)
  have hP : va_P D classes [(mo, .inr (12, [.ref q_1, .int 0, .int 0, .int 0, .int 0, .int 0, .int 0, .int 0, .ref q_2, .ref q_3, .ref q_4, .null, .int 0, .null, .null, .null, .null, .int 0, .int 0, .int 0, .int 0, .null, .null, .int 0, .null, .null, .int 0, .int 0, .int 0, .int 0, .int 0, .int 0, .int 0, .int 0, .null, .null, .null, .null, .null, .null, .null, .null, .null, .long 0])), (q_1, .inl (cy, 44, .inl (fun _ => 0))), (q_2, .inl (cy, 8, .inl (fun _ => 0))), (q_3, .inl (cy, 8, .inl (fun _ => 0))), (q_4, .inl (cy, 8, .inl (fun _ => 0)))] H := hP
  have hD : va_D A [(mo, .inr (12, [.ref q_1, .int 0, .int 0, .int 0, .int 0, .int 0, .int 0, .int 0, .ref q_2, .ref q_3, .ref q_4, .null, .int 0, .null, .null, .null, .null, .int 0, .int 0, .int 0, .int 0, .null, .null, .int 0, .null, .null, .int 0, .int 0, .int 0, .int 0, .int 0, .int 0, .int 0, .int 0, .null, .null, .null, .null, .null, .null, .null, .null, .null, .long 0])), (q_1, .inl (cy, 44, .inl (fun _ => 0))), (q_2, .inl (cy, 8, .inl (fun _ => 0))), (q_3, .inl (cy, 8, .inl (fun _ => 0))), (q_4, .inl (cy, 8, .inl (fun _ => 0)))] := hD
  refine lv_aload_n hx hb dX12_init_36 rfl (lv_at hl 0 rfl) ?_
  refine lv_bipush (v := 8) hx hb dX12_init_37 (by decide) ?_
  refine wk_newa hx hb (htb _ tw_101) hK hP hD hS hA 8 (by decide) (by decide) (by decide) (Nat.le_of_ble_eq_true rfl) (Nat.le_of_ble_eq_true rfl) dX12_init_39 (fun q_5 H hP hD hS => ?_)
  refine W.widen (k := 5) (n := 76) (by decide) (by decide) ?_
  have hP : va_P D classes [(mo, .inr (12, [.ref q_1, .int 0, .int 0, .int 0, .int 0, .int 0, .int 0, .int 0, .ref q_2, .ref q_3, .ref q_4, .null, .int 0, .null, .null, .null, .null, .int 0, .int 0, .int 0, .int 0, .null, .null, .int 0, .null, .null, .int 0, .int 0, .int 0, .int 0, .int 0, .int 0, .int 0, .int 0, .null, .null, .null, .null, .null, .null, .null, .null, .null, .long 0])), (q_1, .inl (cy, 44, .inl (fun _ => 0))), (q_2, .inl (cy, 8, .inl (fun _ => 0))), (q_3, .inl (cy, 8, .inl (fun _ => 0))), (q_4, .inl (cy, 8, .inl (fun _ => 0))), (q_5, .inl (cy, 8, .inl (fun _ => 0)))] H := hP
  have hD : va_D A [(mo, .inr (12, [.ref q_1, .int 0, .int 0, .int 0, .int 0, .int 0, .int 0, .int 0, .ref q_2, .ref q_3, .ref q_4, .null, .int 0, .null, .null, .null, .null, .int 0, .int 0, .int 0, .int 0, .null, .null, .int 0, .null, .null, .int 0, .int 0, .int 0, .int 0, .int 0, .int 0, .int 0, .int 0, .null, .null, .null, .null, .null, .null, .null, .null, .null, .long 0])), (q_1, .inl (cy, 44, .inl (fun _ => 0))), (q_2, .inl (cy, 8, .inl (fun _ => 0))), (q_3, .inl (cy, 8, .inl (fun _ => 0))), (q_4, .inl (cy, 8, .inl (fun _ => 0))), (q_5, .inl (cy, 8, .inl (fun _ => 0)))] := hD
  refine va_putF (D := D) (ci := 12) (v := .ref q_5) (ty := (.array .int)) (C := RX12) (T := TX12) (N := 44) hx hb htb inX12 tyX12 tyX12_ok nmX12 hown hK hP hD hS 0 rfl rfl 11 (by decide) (htb _ tw_774) (fun _ h9 => h9) rfl hin rfl (by decide +kernel) rfl rfl (Nat.le_of_ble_eq_true rfl) dX12_init_41 (fun H locs hP hD hS => ?_)
  have hP : va_P D classes [(mo, .inr (12, [.ref q_1, .int 0, .int 0, .int 0, .int 0, .int 0, .int 0, .int 0, .ref q_2, .ref q_3, .ref q_4, .ref q_5, .int 0, .null, .null, .null, .null, .int 0, .int 0, .int 0, .int 0, .null, .null, .int 0, .null, .null, .int 0, .int 0, .int 0, .int 0, .int 0, .int 0, .int 0, .int 0, .null, .null, .null, .null, .null, .null, .null, .null, .null, .long 0])), (q_1, .inl (cy, 44, .inl (fun _ => 0))), (q_2, .inl (cy, 8, .inl (fun _ => 0))), (q_3, .inl (cy, 8, .inl (fun _ => 0))), (q_4, .inl (cy, 8, .inl (fun _ => 0))), (q_5, .inl (cy, 8, .inl (fun _ => 0)))] H := hP
  have hD : va_D A [(mo, .inr (12, [.ref q_1, .int 0, .int 0, .int 0, .int 0, .int 0, .int 0, .int 0, .ref q_2, .ref q_3, .ref q_4, .ref q_5, .int 0, .null, .null, .null, .null, .int 0, .int 0, .int 0, .int 0, .null, .null, .int 0, .null, .null, .int 0, .int 0, .int 0, .int 0, .int 0, .int 0, .int 0, .int 0, .null, .null, .null, .null, .null, .null, .null, .null, .null, .long 0])), (q_1, .inl (cy, 44, .inl (fun _ => 0))), (q_2, .inl (cy, 8, .inl (fun _ => 0))), (q_3, .inl (cy, 8, .inl (fun _ => 0))), (q_4, .inl (cy, 8, .inl (fun _ => 0))), (q_5, .inl (cy, 8, .inl (fun _ => 0)))] := hD
  refine lv_aload_n hx hb dX12_init_44 rfl (lv_at hl 0 rfl) ?_
  refine lv_bipush (v := 8) hx hb dX12_init_45 (by decide) ?_
  refine wk_newa hx hb (htb _ tw_101) hK hP hD hS hA 8 (by decide) (by decide) (by decide) (Nat.le_of_ble_eq_true rfl) (Nat.le_of_ble_eq_true rfl) dX12_init_47 (fun q_6 H hP hD hS => ?_)
  refine W.widen (k := 6) (n := 84) (by decide) (by decide) ?_
  have hP : va_P D classes [(mo, .inr (12, [.ref q_1, .int 0, .int 0, .int 0, .int 0, .int 0, .int 0, .int 0, .ref q_2, .ref q_3, .ref q_4, .ref q_5, .int 0, .null, .null, .null, .null, .int 0, .int 0, .int 0, .int 0, .null, .null, .int 0, .null, .null, .int 0, .int 0, .int 0, .int 0, .int 0, .int 0, .int 0, .int 0, .null, .null, .null, .null, .null, .null, .null, .null, .null, .long 0])), (q_1, .inl (cy, 44, .inl (fun _ => 0))), (q_2, .inl (cy, 8, .inl (fun _ => 0))), (q_3, .inl (cy, 8, .inl (fun _ => 0))), (q_4, .inl (cy, 8, .inl (fun _ => 0))), (q_5, .inl (cy, 8, .inl (fun _ => 0))), (q_6, .inl (cy, 8, .inl (fun _ => 0)))] H := hP
  have hD : va_D A [(mo, .inr (12, [.ref q_1, .int 0, .int 0, .int 0, .int 0, .int 0, .int 0, .int 0, .ref q_2, .ref q_3, .ref q_4, .ref q_5, .int 0, .null, .null, .null, .null, .int 0, .int 0, .int 0, .int 0, .null, .null, .int 0, .null, .null, .int 0, .int 0, .int 0, .int 0, .int 0, .int 0, .int 0, .int 0, .null, .null, .null, .null, .null, .null, .null, .null, .null, .long 0])), (q_1, .inl (cy, 44, .inl (fun _ => 0))), (q_2, .inl (cy, 8, .inl (fun _ => 0))), (q_3, .inl (cy, 8, .inl (fun _ => 0))), (q_4, .inl (cy, 8, .inl (fun _ => 0))), (q_5, .inl (cy, 8, .inl (fun _ => 0))), (q_6, .inl (cy, 8, .inl (fun _ => 0)))] := hD
  refine va_putF (D := D) (ci := 12) (v := .ref q_6) (ty := (.array .int)) (C := RX12) (T := TX12) (N := 44) hx hb htb inX12 tyX12 tyX12_ok nmX12 hown hK hP hD hS 0 rfl rfl 13 (by decide) (htb _ tw_776) (fun _ h9 => h9) rfl hin rfl (by decide +kernel) rfl rfl (Nat.le_of_ble_eq_true rfl) dX12_init_49 (fun H locs hP hD hS => ?_)
  have hP : va_P D classes [(mo, .inr (12, [.ref q_1, .int 0, .int 0, .int 0, .int 0, .int 0, .int 0, .int 0, .ref q_2, .ref q_3, .ref q_4, .ref q_5, .int 0, .ref q_6, .null, .null, .null, .int 0, .int 0, .int 0, .int 0, .null, .null, .int 0, .null, .null, .int 0, .int 0, .int 0, .int 0, .int 0, .int 0, .int 0, .int 0, .null, .null, .null, .null, .null, .null, .null, .null, .null, .long 0])), (q_1, .inl (cy, 44, .inl (fun _ => 0))), (q_2, .inl (cy, 8, .inl (fun _ => 0))), (q_3, .inl (cy, 8, .inl (fun _ => 0))), (q_4, .inl (cy, 8, .inl (fun _ => 0))), (q_5, .inl (cy, 8, .inl (fun _ => 0))), (q_6, .inl (cy, 8, .inl (fun _ => 0)))] H := hP
  have hD : va_D A [(mo, .inr (12, [.ref q_1, .int 0, .int 0, .int 0, .int 0, .int 0, .int 0, .int 0, .ref q_2, .ref q_3, .ref q_4, .ref q_5, .int 0, .ref q_6, .null, .null, .null, .int 0, .int 0, .int 0, .int 0, .null, .null, .int 0, .null, .null, .int 0, .int 0, .int 0, .int 0, .int 0, .int 0, .int 0, .int 0, .null, .null, .null, .null, .null, .null, .null, .null, .null, .long 0])), (q_1, .inl (cy, 44, .inl (fun _ => 0))), (q_2, .inl (cy, 8, .inl (fun _ => 0))), (q_3, .inl (cy, 8, .inl (fun _ => 0))), (q_4, .inl (cy, 8, .inl (fun _ => 0))), (q_5, .inl (cy, 8, .inl (fun _ => 0))), (q_6, .inl (cy, 8, .inl (fun _ => 0)))] := hD
  refine lv_aload_n hx hb dX12_init_52 rfl (lv_at hl 0 rfl) ?_
  refine lv_bipush (v := 8) hx hb dX12_init_53 (by decide) ?_
  refine wk_newa hx hb (htb _ tw_101) hK hP hD hS hA 8 (by decide) (by decide) (by decide) (Nat.le_of_ble_eq_true rfl) (Nat.le_of_ble_eq_true rfl) dX12_init_55 (fun q_7 H hP hD hS => ?_)
  refine W.widen (k := 7) (n := 92) (by decide) (by decide) ?_
  have hP : va_P D classes [(mo, .inr (12, [.ref q_1, .int 0, .int 0, .int 0, .int 0, .int 0, .int 0, .int 0, .ref q_2, .ref q_3, .ref q_4, .ref q_5, .int 0, .ref q_6, .null, .null, .null, .int 0, .int 0, .int 0, .int 0, .null, .null, .int 0, .null, .null, .int 0, .int 0, .int 0, .int 0, .int 0, .int 0, .int 0, .int 0, .null, .null, .null, .null, .null, .null, .null, .null, .null, .long 0])), (q_1, .inl (cy, 44, .inl (fun _ => 0))), (q_2, .inl (cy, 8, .inl (fun _ => 0))), (q_3, .inl (cy, 8, .inl (fun _ => 0))), (q_4, .inl (cy, 8, .inl (fun _ => 0))), (q_5, .inl (cy, 8, .inl (fun _ => 0))), (q_6, .inl (cy, 8, .inl (fun _ => 0))), (q_7, .inl (cy, 8, .inl (fun _ => 0)))] H := hP
  have hD : va_D A [(mo, .inr (12, [.ref q_1, .int 0, .int 0, .int 0, .int 0, .int 0, .int 0, .int 0, .ref q_2, .ref q_3, .ref q_4, .ref q_5, .int 0, .ref q_6, .null, .null, .null, .int 0, .int 0, .int 0, .int 0, .null, .null, .int 0, .null, .null, .int 0, .int 0, .int 0, .int 0, .int 0, .int 0, .int 0, .int 0, .null, .null, .null, .null, .null, .null, .null, .null, .null, .long 0])), (q_1, .inl (cy, 44, .inl (fun _ => 0))), (q_2, .inl (cy, 8, .inl (fun _ => 0))), (q_3, .inl (cy, 8, .inl (fun _ => 0))), (q_4, .inl (cy, 8, .inl (fun _ => 0))), (q_5, .inl (cy, 8, .inl (fun _ => 0))), (q_6, .inl (cy, 8, .inl (fun _ => 0))), (q_7, .inl (cy, 8, .inl (fun _ => 0)))] := hD
  refine va_putF (D := D) (ci := 12) (v := .ref q_7) (ty := (.array .int)) (C := RX12) (T := TX12) (N := 44) hx hb htb inX12 tyX12 tyX12_ok nmX12 hown hK hP hD hS 0 rfl rfl 14 (by decide) (htb _ tw_777) (fun _ h9 => h9) rfl hin rfl (by decide +kernel) rfl rfl (Nat.le_of_ble_eq_true rfl) dX12_init_57 (fun H locs hP hD hS => ?_)
  have hP : va_P D classes [(mo, .inr (12, [.ref q_1, .int 0, .int 0, .int 0, .int 0, .int 0, .int 0, .int 0, .ref q_2, .ref q_3, .ref q_4, .ref q_5, .int 0, .ref q_6, .ref q_7, .null, .null, .int 0, .int 0, .int 0, .int 0, .null, .null, .int 0, .null, .null, .int 0, .int 0, .int 0, .int 0, .int 0, .int 0, .int 0, .int 0, .null, .null, .null, .null, .null, .null, .null, .null, .null, .long 0])), (q_1, .inl (cy, 44, .inl (fun _ => 0))), (q_2, .inl (cy, 8, .inl (fun _ => 0))), (q_3, .inl (cy, 8, .inl (fun _ => 0))), (q_4, .inl (cy, 8, .inl (fun _ => 0))), (q_5, .inl (cy, 8, .inl (fun _ => 0))), (q_6, .inl (cy, 8, .inl (fun _ => 0))), (q_7, .inl (cy, 8, .inl (fun _ => 0)))] H := hP
  have hD : va_D A [(mo, .inr (12, [.ref q_1, .int 0, .int 0, .int 0, .int 0, .int 0, .int 0, .int 0, .ref q_2, .ref q_3, .ref q_4, .ref q_5, .int 0, .ref q_6, .ref q_7, .null, .null, .int 0, .int 0, .int 0, .int 0, .null, .null, .int 0, .null, .null, .int 0, .int 0, .int 0, .int 0, .int 0, .int 0, .int 0, .int 0, .null, .null, .null, .null, .null, .null, .null, .null, .null, .long 0])), (q_1, .inl (cy, 44, .inl (fun _ => 0))), (q_2, .inl (cy, 8, .inl (fun _ => 0))), (q_3, .inl (cy, 8, .inl (fun _ => 0))), (q_4, .inl (cy, 8, .inl (fun _ => 0))), (q_5, .inl (cy, 8, .inl (fun _ => 0))), (q_6, .inl (cy, 8, .inl (fun _ => 0))), (q_7, .inl (cy, 8, .inl (fun _ => 0)))] := hD
  refine lv_aload_n hx hb dX12_init_60 rfl (lv_at hl 0 rfl) ?_
  refine lv_bipush (v := 8) hx hb dX12_init_61 (by decide) ?_
  refine wk_newa hx hb (htb _ tw_101) hK hP hD hS hA 8 (by decide) (by decide) (by decide) (Nat.le_of_ble_eq_true rfl) (Nat.le_of_ble_eq_true rfl) dX12_init_63 (fun q_8 H hP hD hS => ?_)
  refine W.widen (k := 8) (n := 100) (by decide) (by decide) ?_
  have hP : va_P D classes [(mo, .inr (12, [.ref q_1, .int 0, .int 0, .int 0, .int 0, .int 0, .int 0, .int 0, .ref q_2, .ref q_3, .ref q_4, .ref q_5, .int 0, .ref q_6, .ref q_7, .null, .null, .int 0, .int 0, .int 0, .int 0, .null, .null, .int 0, .null, .null, .int 0, .int 0, .int 0, .int 0, .int 0, .int 0, .int 0, .int 0, .null, .null, .null, .null, .null, .null, .null, .null, .null, .long 0])), (q_1, .inl (cy, 44, .inl (fun _ => 0))), (q_2, .inl (cy, 8, .inl (fun _ => 0))), (q_3, .inl (cy, 8, .inl (fun _ => 0))), (q_4, .inl (cy, 8, .inl (fun _ => 0))), (q_5, .inl (cy, 8, .inl (fun _ => 0))), (q_6, .inl (cy, 8, .inl (fun _ => 0))), (q_7, .inl (cy, 8, .inl (fun _ => 0))), (q_8, .inl (cy, 8, .inl (fun _ => 0)))] H := hP
  have hD : va_D A [(mo, .inr (12, [.ref q_1, .int 0, .int 0, .int 0, .int 0, .int 0, .int 0, .int 0, .ref q_2, .ref q_3, .ref q_4, .ref q_5, .int 0, .ref q_6, .ref q_7, .null, .null, .int 0, .int 0, .int 0, .int 0, .null, .null, .int 0, .null, .null, .int 0, .int 0, .int 0, .int 0, .int 0, .int 0, .int 0, .int 0, .null, .null, .null, .null, .null, .null, .null, .null, .null, .long 0])), (q_1, .inl (cy, 44, .inl (fun _ => 0))), (q_2, .inl (cy, 8, .inl (fun _ => 0))), (q_3, .inl (cy, 8, .inl (fun _ => 0))), (q_4, .inl (cy, 8, .inl (fun _ => 0))), (q_5, .inl (cy, 8, .inl (fun _ => 0))), (q_6, .inl (cy, 8, .inl (fun _ => 0))), (q_7, .inl (cy, 8, .inl (fun _ => 0))), (q_8, .inl (cy, 8, .inl (fun _ => 0)))] := hD
  refine va_putF (D := D) (ci := 12) (v := .ref q_8) (ty := (.array .int)) (C := RX12) (T := TX12) (N := 44) hx hb htb inX12 tyX12 tyX12_ok nmX12 hown hK hP hD hS 0 rfl rfl 15 (by decide) (htb _ tw_778) (fun _ h9 => h9) rfl hin rfl (by decide +kernel) rfl rfl (Nat.le_of_ble_eq_true rfl) dX12_init_65 (fun H locs hP hD hS => ?_)
  have hP : va_P D classes [(mo, .inr (12, [.ref q_1, .int 0, .int 0, .int 0, .int 0, .int 0, .int 0, .int 0, .ref q_2, .ref q_3, .ref q_4, .ref q_5, .int 0, .ref q_6, .ref q_7, .ref q_8, .null, .int 0, .int 0, .int 0, .int 0, .null, .null, .int 0, .null, .null, .int 0, .int 0, .int 0, .int 0, .int 0, .int 0, .int 0, .int 0, .null, .null, .null, .null, .null, .null, .null, .null, .null, .long 0])), (q_1, .inl (cy, 44, .inl (fun _ => 0))), (q_2, .inl (cy, 8, .inl (fun _ => 0))), (q_3, .inl (cy, 8, .inl (fun _ => 0))), (q_4, .inl (cy, 8, .inl (fun _ => 0))), (q_5, .inl (cy, 8, .inl (fun _ => 0))), (q_6, .inl (cy, 8, .inl (fun _ => 0))), (q_7, .inl (cy, 8, .inl (fun _ => 0))), (q_8, .inl (cy, 8, .inl (fun _ => 0)))] H := hP
  have hD : va_D A [(mo, .inr (12, [.ref q_1, .int 0, .int 0, .int 0, .int 0, .int 0, .int 0, .int 0, .ref q_2, .ref q_3, .ref q_4, .ref q_5, .int 0, .ref q_6, .ref q_7, .ref q_8, .null, .int 0, .int 0, .int 0, .int 0, .null, .null, .int 0, .null, .null, .int 0, .int 0, .int 0, .int 0, .int 0, .int 0, .int 0, .int 0, .null, .null, .null, .null, .null, .null, .null, .null, .null, .long 0])), (q_1, .inl (cy, 44, .inl (fun _ => 0))), (q_2, .inl (cy, 8, .inl (fun _ => 0))), (q_3, .inl (cy, 8, .inl (fun _ => 0))), (q_4, .inl (cy, 8, .inl (fun _ => 0))), (q_5, .inl (cy, 8, .inl (fun _ => 0))), (q_6, .inl (cy, 8, .inl (fun _ => 0))), (q_7, .inl (cy, 8, .inl (fun _ => 0))), (q_8, .inl (cy, 8, .inl (fun _ => 0)))] := hD
  refine lv_aload_n hx hb dX12_init_68 rfl (lv_at hl 0 rfl) ?_
  refine lv_bipush (v := 8) hx hb dX12_init_69 (by decide) ?_
  refine wk_newa hx hb (htb _ tw_101) hK hP hD hS hA 8 (by decide) (by decide) (by decide) (Nat.le_of_ble_eq_true rfl) (Nat.le_of_ble_eq_true rfl) dX12_init_71 (fun q_9 H hP hD hS => ?_)
  refine W.widen (k := 9) (n := 108) (by decide) (by decide) ?_
  have hP : va_P D classes [(mo, .inr (12, [.ref q_1, .int 0, .int 0, .int 0, .int 0, .int 0, .int 0, .int 0, .ref q_2, .ref q_3, .ref q_4, .ref q_5, .int 0, .ref q_6, .ref q_7, .ref q_8, .null, .int 0, .int 0, .int 0, .int 0, .null, .null, .int 0, .null, .null, .int 0, .int 0, .int 0, .int 0, .int 0, .int 0, .int 0, .int 0, .null, .null, .null, .null, .null, .null, .null, .null, .null, .long 0])), (q_1, .inl (cy, 44, .inl (fun _ => 0))), (q_2, .inl (cy, 8, .inl (fun _ => 0))), (q_3, .inl (cy, 8, .inl (fun _ => 0))), (q_4, .inl (cy, 8, .inl (fun _ => 0))), (q_5, .inl (cy, 8, .inl (fun _ => 0))), (q_6, .inl (cy, 8, .inl (fun _ => 0))), (q_7, .inl (cy, 8, .inl (fun _ => 0))), (q_8, .inl (cy, 8, .inl (fun _ => 0))), (q_9, .inl (cy, 8, .inl (fun _ => 0)))] H := hP
  have hD : va_D A [(mo, .inr (12, [.ref q_1, .int 0, .int 0, .int 0, .int 0, .int 0, .int 0, .int 0, .ref q_2, .ref q_3, .ref q_4, .ref q_5, .int 0, .ref q_6, .ref q_7, .ref q_8, .null, .int 0, .int 0, .int 0, .int 0, .null, .null, .int 0, .null, .null, .int 0, .int 0, .int 0, .int 0, .int 0, .int 0, .int 0, .int 0, .null, .null, .null, .null, .null, .null, .null, .null, .null, .long 0])), (q_1, .inl (cy, 44, .inl (fun _ => 0))), (q_2, .inl (cy, 8, .inl (fun _ => 0))), (q_3, .inl (cy, 8, .inl (fun _ => 0))), (q_4, .inl (cy, 8, .inl (fun _ => 0))), (q_5, .inl (cy, 8, .inl (fun _ => 0))), (q_6, .inl (cy, 8, .inl (fun _ => 0))), (q_7, .inl (cy, 8, .inl (fun _ => 0))), (q_8, .inl (cy, 8, .inl (fun _ => 0))), (q_9, .inl (cy, 8, .inl (fun _ => 0)))] := hD
  refine va_putF (D := D) (ci := 12) (v := .ref q_9) (ty := (.array .int)) (C := RX12) (T := TX12) (N := 44) hx hb htb inX12 tyX12 tyX12_ok nmX12 hown hK hP hD hS 0 rfl rfl 16 (by decide) (htb _ tw_779) (fun _ h9 => h9) rfl hin rfl (by decide +kernel) rfl rfl (Nat.le_of_ble_eq_true rfl) dX12_init_73 (fun H locs hP hD hS => ?_)
  have hP : va_P D classes [(mo, .inr (12, [.ref q_1, .int 0, .int 0, .int 0, .int 0, .int 0, .int 0, .int 0, .ref q_2, .ref q_3, .ref q_4, .ref q_5, .int 0, .ref q_6, .ref q_7, .ref q_8, .ref q_9, .int 0, .int 0, .int 0, .int 0, .null, .null, .int 0, .null, .null, .int 0, .int 0, .int 0, .int 0, .int 0, .int 0, .int 0, .int 0, .null, .null, .null, .null, .null, .null, .null, .null, .null, .long 0])), (q_1, .inl (cy, 44, .inl (fun _ => 0))), (q_2, .inl (cy, 8, .inl (fun _ => 0))), (q_3, .inl (cy, 8, .inl (fun _ => 0))), (q_4, .inl (cy, 8, .inl (fun _ => 0))), (q_5, .inl (cy, 8, .inl (fun _ => 0))), (q_6, .inl (cy, 8, .inl (fun _ => 0))), (q_7, .inl (cy, 8, .inl (fun _ => 0))), (q_8, .inl (cy, 8, .inl (fun _ => 0))), (q_9, .inl (cy, 8, .inl (fun _ => 0)))] H := hP
  have hD : va_D A [(mo, .inr (12, [.ref q_1, .int 0, .int 0, .int 0, .int 0, .int 0, .int 0, .int 0, .ref q_2, .ref q_3, .ref q_4, .ref q_5, .int 0, .ref q_6, .ref q_7, .ref q_8, .ref q_9, .int 0, .int 0, .int 0, .int 0, .null, .null, .int 0, .null, .null, .int 0, .int 0, .int 0, .int 0, .int 0, .int 0, .int 0, .int 0, .null, .null, .null, .null, .null, .null, .null, .null, .null, .long 0])), (q_1, .inl (cy, 44, .inl (fun _ => 0))), (q_2, .inl (cy, 8, .inl (fun _ => 0))), (q_3, .inl (cy, 8, .inl (fun _ => 0))), (q_4, .inl (cy, 8, .inl (fun _ => 0))), (q_5, .inl (cy, 8, .inl (fun _ => 0))), (q_6, .inl (cy, 8, .inl (fun _ => 0))), (q_7, .inl (cy, 8, .inl (fun _ => 0))), (q_8, .inl (cy, 8, .inl (fun _ => 0))), (q_9, .inl (cy, 8, .inl (fun _ => 0)))] := hD
  refine lv_aload_n hx hb dX12_init_76 rfl (lv_at hl 0 rfl) ?_
  refine lv_bipush (v := 8) hx hb dX12_init_77 (by decide) ?_
  refine wk_newa hx hb (htb _ tw_101) hK hP hD hS hA 8 (by decide) (by decide) (by decide) (Nat.le_of_ble_eq_true rfl) (Nat.le_of_ble_eq_true rfl) dX12_init_79 (fun q_10 H hP hD hS => ?_)
  refine W.widen (k := 10) (n := 116) (by decide) (by decide) ?_
  have hP : va_P D classes [(mo, .inr (12, [.ref q_1, .int 0, .int 0, .int 0, .int 0, .int 0, .int 0, .int 0, .ref q_2, .ref q_3, .ref q_4, .ref q_5, .int 0, .ref q_6, .ref q_7, .ref q_8, .ref q_9, .int 0, .int 0, .int 0, .int 0, .null, .null, .int 0, .null, .null, .int 0, .int 0, .int 0, .int 0, .int 0, .int 0, .int 0, .int 0, .null, .null, .null, .null, .null, .null, .null, .null, .null, .long 0])), (q_1, .inl (cy, 44, .inl (fun _ => 0))), (q_2, .inl (cy, 8, .inl (fun _ => 0))), (q_3, .inl (cy, 8, .inl (fun _ => 0))), (q_4, .inl (cy, 8, .inl (fun _ => 0))), (q_5, .inl (cy, 8, .inl (fun _ => 0))), (q_6, .inl (cy, 8, .inl (fun _ => 0))), (q_7, .inl (cy, 8, .inl (fun _ => 0))), (q_8, .inl (cy, 8, .inl (fun _ => 0))), (q_9, .inl (cy, 8, .inl (fun _ => 0))), (q_10, .inl (cy, 8, .inl (fun _ => 0)))] H := hP
  have hD : va_D A [(mo, .inr (12, [.ref q_1, .int 0, .int 0, .int 0, .int 0, .int 0, .int 0, .int 0, .ref q_2, .ref q_3, .ref q_4, .ref q_5, .int 0, .ref q_6, .ref q_7, .ref q_8, .ref q_9, .int 0, .int 0, .int 0, .int 0, .null, .null, .int 0, .null, .null, .int 0, .int 0, .int 0, .int 0, .int 0, .int 0, .int 0, .int 0, .null, .null, .null, .null, .null, .null, .null, .null, .null, .long 0])), (q_1, .inl (cy, 44, .inl (fun _ => 0))), (q_2, .inl (cy, 8, .inl (fun _ => 0))), (q_3, .inl (cy, 8, .inl (fun _ => 0))), (q_4, .inl (cy, 8, .inl (fun _ => 0))), (q_5, .inl (cy, 8, .inl (fun _ => 0))), (q_6, .inl (cy, 8, .inl (fun _ => 0))), (q_7, .inl (cy, 8, .inl (fun _ => 0))), (q_8, .inl (cy, 8, .inl (fun _ => 0))), (q_9, .inl (cy, 8, .inl (fun _ => 0))), (q_10, .inl (cy, 8, .inl (fun _ => 0)))] := hD
  refine va_putF (D := D) (ci := 12) (v := .ref q_10) (ty := (.array .int)) (C := RX12) (T := TX12) (N := 44) hx hb htb inX12 tyX12 tyX12_ok nmX12 hown hK hP hD hS 0 rfl rfl 21 (by decide) (htb _ tw_784) (fun _ h9 => h9) rfl hin rfl (by decide +kernel) rfl rfl (Nat.le_of_ble_eq_true rfl) dX12_init_81 (fun H locs hP hD hS => ?_)
  have hP : va_P D classes [(mo, .inr (12, [.ref q_1, .int 0, .int 0, .int 0, .int 0, .int 0, .int 0, .int 0, .ref q_2, .ref q_3, .ref q_4, .ref q_5, .int 0, .ref q_6, .ref q_7, .ref q_8, .ref q_9, .int 0, .int 0, .int 0, .int 0, .ref q_10, .null, .int 0, .null, .null, .int 0, .int 0, .int 0, .int 0, .int 0, .int 0, .int 0, .int 0, .null, .null, .null, .null, .null, .null, .null, .null, .null, .long 0])), (q_1, .inl (cy, 44, .inl (fun _ => 0))), (q_2, .inl (cy, 8, .inl (fun _ => 0))), (q_3, .inl (cy, 8, .inl (fun _ => 0))), (q_4, .inl (cy, 8, .inl (fun _ => 0))), (q_5, .inl (cy, 8, .inl (fun _ => 0))), (q_6, .inl (cy, 8, .inl (fun _ => 0))), (q_7, .inl (cy, 8, .inl (fun _ => 0))), (q_8, .inl (cy, 8, .inl (fun _ => 0))), (q_9, .inl (cy, 8, .inl (fun _ => 0))), (q_10, .inl (cy, 8, .inl (fun _ => 0)))] H := hP
  have hD : va_D A [(mo, .inr (12, [.ref q_1, .int 0, .int 0, .int 0, .int 0, .int 0, .int 0, .int 0, .ref q_2, .ref q_3, .ref q_4, .ref q_5, .int 0, .ref q_6, .ref q_7, .ref q_8, .ref q_9, .int 0, .int 0, .int 0, .int 0, .ref q_10, .null, .int 0, .null, .null, .int 0, .int 0, .int 0, .int 0, .int 0, .int 0, .int 0, .int 0, .null, .null, .null, .null, .null, .null, .null, .null, .null, .long 0])), (q_1, .inl (cy, 44, .inl (fun _ => 0))), (q_2, .inl (cy, 8, .inl (fun _ => 0))), (q_3, .inl (cy, 8, .inl (fun _ => 0))), (q_4, .inl (cy, 8, .inl (fun _ => 0))), (q_5, .inl (cy, 8, .inl (fun _ => 0))), (q_6, .inl (cy, 8, .inl (fun _ => 0))), (q_7, .inl (cy, 8, .inl (fun _ => 0))), (q_8, .inl (cy, 8, .inl (fun _ => 0))), (q_9, .inl (cy, 8, .inl (fun _ => 0))), (q_10, .inl (cy, 8, .inl (fun _ => 0)))] := hD
  refine lv_aload_n hx hb dX12_init_84 rfl (lv_at hl 0 rfl) ?_
  refine lv_bipush (v := 8) hx hb dX12_init_85 (by decide) ?_
  refine wk_newa hx hb (htb _ tw_101) hK hP hD hS hA 8 (by decide) (by decide) (by decide) (Nat.le_of_ble_eq_true rfl) (Nat.le_of_ble_eq_true rfl) dX12_init_87 (fun q_11 H hP hD hS => ?_)
  refine W.widen (k := 11) (n := 124) (by decide) (by decide) ?_
  have hP : va_P D classes [(mo, .inr (12, [.ref q_1, .int 0, .int 0, .int 0, .int 0, .int 0, .int 0, .int 0, .ref q_2, .ref q_3, .ref q_4, .ref q_5, .int 0, .ref q_6, .ref q_7, .ref q_8, .ref q_9, .int 0, .int 0, .int 0, .int 0, .ref q_10, .null, .int 0, .null, .null, .int 0, .int 0, .int 0, .int 0, .int 0, .int 0, .int 0, .int 0, .null, .null, .null, .null, .null, .null, .null, .null, .null, .long 0])), (q_1, .inl (cy, 44, .inl (fun _ => 0))), (q_2, .inl (cy, 8, .inl (fun _ => 0))), (q_3, .inl (cy, 8, .inl (fun _ => 0))), (q_4, .inl (cy, 8, .inl (fun _ => 0))), (q_5, .inl (cy, 8, .inl (fun _ => 0))), (q_6, .inl (cy, 8, .inl (fun _ => 0))), (q_7, .inl (cy, 8, .inl (fun _ => 0))), (q_8, .inl (cy, 8, .inl (fun _ => 0))), (q_9, .inl (cy, 8, .inl (fun _ => 0))), (q_10, .inl (cy, 8, .inl (fun _ => 0))), (q_11, .inl (cy, 8, .inl (fun _ => 0)))] H := hP
  have hD : va_D A [(mo, .inr (12, [.ref q_1, .int 0, .int 0, .int 0, .int 0, .int 0, .int 0, .int 0, .ref q_2, .ref q_3, .ref q_4, .ref q_5, .int 0, .ref q_6, .ref q_7, .ref q_8, .ref q_9, .int 0, .int 0, .int 0, .int 0, .ref q_10, .null, .int 0, .null, .null, .int 0, .int 0, .int 0, .int 0, .int 0, .int 0, .int 0, .int 0, .null, .null, .null, .null, .null, .null, .null, .null, .null, .long 0])), (q_1, .inl (cy, 44, .inl (fun _ => 0))), (q_2, .inl (cy, 8, .inl (fun _ => 0))), (q_3, .inl (cy, 8, .inl (fun _ => 0))), (q_4, .inl (cy, 8, .inl (fun _ => 0))), (q_5, .inl (cy, 8, .inl (fun _ => 0))), (q_6, .inl (cy, 8, .inl (fun _ => 0))), (q_7, .inl (cy, 8, .inl (fun _ => 0))), (q_8, .inl (cy, 8, .inl (fun _ => 0))), (q_9, .inl (cy, 8, .inl (fun _ => 0))), (q_10, .inl (cy, 8, .inl (fun _ => 0))), (q_11, .inl (cy, 8, .inl (fun _ => 0)))] := hD
  refine va_putF (D := D) (ci := 12) (v := .ref q_11) (ty := (.array .int)) (C := RX12) (T := TX12) (N := 44) hx hb htb inX12 tyX12 tyX12_ok nmX12 hown hK hP hD hS 0 rfl rfl 22 (by decide) (htb _ tw_785) (fun _ h9 => h9) rfl hin rfl (by decide +kernel) rfl rfl (Nat.le_of_ble_eq_true rfl) dX12_init_89 (fun H locs hP hD hS => ?_)
  have hP : va_P D classes [(mo, .inr (12, [.ref q_1, .int 0, .int 0, .int 0, .int 0, .int 0, .int 0, .int 0, .ref q_2, .ref q_3, .ref q_4, .ref q_5, .int 0, .ref q_6, .ref q_7, .ref q_8, .ref q_9, .int 0, .int 0, .int 0, .int 0, .ref q_10, .ref q_11, .int 0, .null, .null, .int 0, .int 0, .int 0, .int 0, .int 0, .int 0, .int 0, .int 0, .null, .null, .null, .null, .null, .null, .null, .null, .null, .long 0])), (q_1, .inl (cy, 44, .inl (fun _ => 0))), (q_2, .inl (cy, 8, .inl (fun _ => 0))), (q_3, .inl (cy, 8, .inl (fun _ => 0))), (q_4, .inl (cy, 8, .inl (fun _ => 0))), (q_5, .inl (cy, 8, .inl (fun _ => 0))), (q_6, .inl (cy, 8, .inl (fun _ => 0))), (q_7, .inl (cy, 8, .inl (fun _ => 0))), (q_8, .inl (cy, 8, .inl (fun _ => 0))), (q_9, .inl (cy, 8, .inl (fun _ => 0))), (q_10, .inl (cy, 8, .inl (fun _ => 0))), (q_11, .inl (cy, 8, .inl (fun _ => 0)))] H := hP
  have hD : va_D A [(mo, .inr (12, [.ref q_1, .int 0, .int 0, .int 0, .int 0, .int 0, .int 0, .int 0, .ref q_2, .ref q_3, .ref q_4, .ref q_5, .int 0, .ref q_6, .ref q_7, .ref q_8, .ref q_9, .int 0, .int 0, .int 0, .int 0, .ref q_10, .ref q_11, .int 0, .null, .null, .int 0, .int 0, .int 0, .int 0, .int 0, .int 0, .int 0, .int 0, .null, .null, .null, .null, .null, .null, .null, .null, .null, .long 0])), (q_1, .inl (cy, 44, .inl (fun _ => 0))), (q_2, .inl (cy, 8, .inl (fun _ => 0))), (q_3, .inl (cy, 8, .inl (fun _ => 0))), (q_4, .inl (cy, 8, .inl (fun _ => 0))), (q_5, .inl (cy, 8, .inl (fun _ => 0))), (q_6, .inl (cy, 8, .inl (fun _ => 0))), (q_7, .inl (cy, 8, .inl (fun _ => 0))), (q_8, .inl (cy, 8, .inl (fun _ => 0))), (q_9, .inl (cy, 8, .inl (fun _ => 0))), (q_10, .inl (cy, 8, .inl (fun _ => 0))), (q_11, .inl (cy, 8, .inl (fun _ => 0)))] := hD
  refine lv_aload_n hx hb dX12_init_92 rfl (lv_at hl 0 rfl) ?_
  refine lv_bipush (v := 18) hx hb dX12_init_93 (by decide) ?_
  refine wk_newa hx hb (htb _ tw_101) hK hP hD hS hA 18 (by decide) (by decide) (by decide) (Nat.le_of_ble_eq_true rfl) (Nat.le_of_ble_eq_true rfl) dX12_init_95 (fun q_12 H hP hD hS => ?_)
  refine W.widen (k := 12) (n := 142) (by decide) (by decide) ?_
  have hP : va_P D classes [(mo, .inr (12, [.ref q_1, .int 0, .int 0, .int 0, .int 0, .int 0, .int 0, .int 0, .ref q_2, .ref q_3, .ref q_4, .ref q_5, .int 0, .ref q_6, .ref q_7, .ref q_8, .ref q_9, .int 0, .int 0, .int 0, .int 0, .ref q_10, .ref q_11, .int 0, .null, .null, .int 0, .int 0, .int 0, .int 0, .int 0, .int 0, .int 0, .int 0, .null, .null, .null, .null, .null, .null, .null, .null, .null, .long 0])), (q_1, .inl (cy, 44, .inl (fun _ => 0))), (q_2, .inl (cy, 8, .inl (fun _ => 0))), (q_3, .inl (cy, 8, .inl (fun _ => 0))), (q_4, .inl (cy, 8, .inl (fun _ => 0))), (q_5, .inl (cy, 8, .inl (fun _ => 0))), (q_6, .inl (cy, 8, .inl (fun _ => 0))), (q_7, .inl (cy, 8, .inl (fun _ => 0))), (q_8, .inl (cy, 8, .inl (fun _ => 0))), (q_9, .inl (cy, 8, .inl (fun _ => 0))), (q_10, .inl (cy, 8, .inl (fun _ => 0))), (q_11, .inl (cy, 8, .inl (fun _ => 0))), (q_12, .inl (cy, 18, .inl (fun _ => 0)))] H := hP
  have hD : va_D A [(mo, .inr (12, [.ref q_1, .int 0, .int 0, .int 0, .int 0, .int 0, .int 0, .int 0, .ref q_2, .ref q_3, .ref q_4, .ref q_5, .int 0, .ref q_6, .ref q_7, .ref q_8, .ref q_9, .int 0, .int 0, .int 0, .int 0, .ref q_10, .ref q_11, .int 0, .null, .null, .int 0, .int 0, .int 0, .int 0, .int 0, .int 0, .int 0, .int 0, .null, .null, .null, .null, .null, .null, .null, .null, .null, .long 0])), (q_1, .inl (cy, 44, .inl (fun _ => 0))), (q_2, .inl (cy, 8, .inl (fun _ => 0))), (q_3, .inl (cy, 8, .inl (fun _ => 0))), (q_4, .inl (cy, 8, .inl (fun _ => 0))), (q_5, .inl (cy, 8, .inl (fun _ => 0))), (q_6, .inl (cy, 8, .inl (fun _ => 0))), (q_7, .inl (cy, 8, .inl (fun _ => 0))), (q_8, .inl (cy, 8, .inl (fun _ => 0))), (q_9, .inl (cy, 8, .inl (fun _ => 0))), (q_10, .inl (cy, 8, .inl (fun _ => 0))), (q_11, .inl (cy, 8, .inl (fun _ => 0))), (q_12, .inl (cy, 18, .inl (fun _ => 0)))] := hD
  refine va_putF (D := D) (ci := 12) (v := .ref q_12) (ty := (.array .int)) (C := RX12) (T := TX12) (N := 44) hx hb htb inX12 tyX12 tyX12_ok nmX12 hown hK hP hD hS 0 rfl rfl 24 (by decide) (htb _ tw_787) (fun _ h9 => h9) rfl hin rfl (by decide +kernel) rfl rfl (Nat.le_of_ble_eq_true rfl) dX12_init_97 (fun H locs hP hD hS => ?_)
  have hP : va_P D classes [(mo, .inr (12, [.ref q_1, .int 0, .int 0, .int 0, .int 0, .int 0, .int 0, .int 0, .ref q_2, .ref q_3, .ref q_4, .ref q_5, .int 0, .ref q_6, .ref q_7, .ref q_8, .ref q_9, .int 0, .int 0, .int 0, .int 0, .ref q_10, .ref q_11, .int 0, .ref q_12, .null, .int 0, .int 0, .int 0, .int 0, .int 0, .int 0, .int 0, .int 0, .null, .null, .null, .null, .null, .null, .null, .null, .null, .long 0])), (q_1, .inl (cy, 44, .inl (fun _ => 0))), (q_2, .inl (cy, 8, .inl (fun _ => 0))), (q_3, .inl (cy, 8, .inl (fun _ => 0))), (q_4, .inl (cy, 8, .inl (fun _ => 0))), (q_5, .inl (cy, 8, .inl (fun _ => 0))), (q_6, .inl (cy, 8, .inl (fun _ => 0))), (q_7, .inl (cy, 8, .inl (fun _ => 0))), (q_8, .inl (cy, 8, .inl (fun _ => 0))), (q_9, .inl (cy, 8, .inl (fun _ => 0))), (q_10, .inl (cy, 8, .inl (fun _ => 0))), (q_11, .inl (cy, 8, .inl (fun _ => 0))), (q_12, .inl (cy, 18, .inl (fun _ => 0)))] H := hP
  have hD : va_D A [(mo, .inr (12, [.ref q_1, .int 0, .int 0, .int 0, .int 0, .int 0, .int 0, .int 0, .ref q_2, .ref q_3, .ref q_4, .ref q_5, .int 0, .ref q_6, .ref q_7, .ref q_8, .ref q_9, .int 0, .int 0, .int 0, .int 0, .ref q_10, .ref q_11, .int 0, .ref q_12, .null, .int 0, .int 0, .int 0, .int 0, .int 0, .int 0, .int 0, .int 0, .null, .null, .null, .null, .null, .null, .null, .null, .null, .long 0])), (q_1, .inl (cy, 44, .inl (fun _ => 0))), (q_2, .inl (cy, 8, .inl (fun _ => 0))), (q_3, .inl (cy, 8, .inl (fun _ => 0))), (q_4, .inl (cy, 8, .inl (fun _ => 0))), (q_5, .inl (cy, 8, .inl (fun _ => 0))), (q_6, .inl (cy, 8, .inl (fun _ => 0))), (q_7, .inl (cy, 8, .inl (fun _ => 0))), (q_8, .inl (cy, 8, .inl (fun _ => 0))), (q_9, .inl (cy, 8, .inl (fun _ => 0))), (q_10, .inl (cy, 8, .inl (fun _ => 0))), (q_11, .inl (cy, 8, .inl (fun _ => 0))), (q_12, .inl (cy, 18, .inl (fun _ => 0)))] := hD
  refine lv_aload_n hx hb dX12_init_100 rfl (lv_at hl 0 rfl) ?_
  refine lv_iconst (v := 5) hx hb dX12_init_101 (by decide) ?_
  refine wk_newa hx hb (htb _ tw_101) hK hP hD hS hA 5 (by decide) (by decide) (by decide) (Nat.le_of_ble_eq_true rfl) (Nat.le_of_ble_eq_true rfl) dX12_init_102 (fun q_13 H hP hD hS => ?_)
  refine W.widen (k := 13) (n := 147) (by decide) (by decide) ?_
  have hP : va_P D classes [(mo, .inr (12, [.ref q_1, .int 0, .int 0, .int 0, .int 0, .int 0, .int 0, .int 0, .ref q_2, .ref q_3, .ref q_4, .ref q_5, .int 0, .ref q_6, .ref q_7, .ref q_8, .ref q_9, .int 0, .int 0, .int 0, .int 0, .ref q_10, .ref q_11, .int 0, .ref q_12, .null, .int 0, .int 0, .int 0, .int 0, .int 0, .int 0, .int 0, .int 0, .null, .null, .null, .null, .null, .null, .null, .null, .null, .long 0])), (q_1, .inl (cy, 44, .inl (fun _ => 0))), (q_2, .inl (cy, 8, .inl (fun _ => 0))), (q_3, .inl (cy, 8, .inl (fun _ => 0))), (q_4, .inl (cy, 8, .inl (fun _ => 0))), (q_5, .inl (cy, 8, .inl (fun _ => 0))), (q_6, .inl (cy, 8, .inl (fun _ => 0))), (q_7, .inl (cy, 8, .inl (fun _ => 0))), (q_8, .inl (cy, 8, .inl (fun _ => 0))), (q_9, .inl (cy, 8, .inl (fun _ => 0))), (q_10, .inl (cy, 8, .inl (fun _ => 0))), (q_11, .inl (cy, 8, .inl (fun _ => 0))), (q_12, .inl (cy, 18, .inl (fun _ => 0))), (q_13, .inl (cy, 5, .inl (fun _ => 0)))] H := hP
  have hD : va_D A [(mo, .inr (12, [.ref q_1, .int 0, .int 0, .int 0, .int 0, .int 0, .int 0, .int 0, .ref q_2, .ref q_3, .ref q_4, .ref q_5, .int 0, .ref q_6, .ref q_7, .ref q_8, .ref q_9, .int 0, .int 0, .int 0, .int 0, .ref q_10, .ref q_11, .int 0, .ref q_12, .null, .int 0, .int 0, .int 0, .int 0, .int 0, .int 0, .int 0, .int 0, .null, .null, .null, .null, .null, .null, .null, .null, .null, .long 0])), (q_1, .inl (cy, 44, .inl (fun _ => 0))), (q_2, .inl (cy, 8, .inl (fun _ => 0))), (q_3, .inl (cy, 8, .inl (fun _ => 0))), (q_4, .inl (cy, 8, .inl (fun _ => 0))), (q_5, .inl (cy, 8, .inl (fun _ => 0))), (q_6, .inl (cy, 8, .inl (fun _ => 0))), (q_7, .inl (cy, 8, .inl (fun _ => 0))), (q_8, .inl (cy, 8, .inl (fun _ => 0))), (q_9, .inl (cy, 8, .inl (fun _ => 0))), (q_10, .inl (cy, 8, .inl (fun _ => 0))), (q_11, .inl (cy, 8, .inl (fun _ => 0))), (q_12, .inl (cy, 18, .inl (fun _ => 0))), (q_13, .inl (cy, 5, .inl (fun _ => 0)))] := hD
  refine va_putF (D := D) (ci := 12) (v := .ref q_13) (ty := (.array .int)) (C := RX12) (T := TX12) (N := 44) hx hb htb inX12 tyX12 tyX12_ok nmX12 hown hK hP hD hS 0 rfl rfl 25 (by decide) (htb _ tw_788) (fun _ h9 => h9) rfl hin rfl (by decide +kernel) rfl rfl (Nat.le_of_ble_eq_true rfl) dX12_init_104 (fun H locs hP hD hS => ?_)
  have hP : va_P D classes [(mo, .inr (12, [.ref q_1, .int 0, .int 0, .int 0, .int 0, .int 0, .int 0, .int 0, .ref q_2, .ref q_3, .ref q_4, .ref q_5, .int 0, .ref q_6, .ref q_7, .ref q_8, .ref q_9, .int 0, .int 0, .int 0, .int 0, .ref q_10, .ref q_11, .int 0, .ref q_12, .ref q_13, .int 0, .int 0, .int 0, .int 0, .int 0, .int 0, .int 0, .int 0, .null, .null, .null, .null, .null, .null, .null, .null, .null, .long 0])), (q_1, .inl (cy, 44, .inl (fun _ => 0))), (q_2, .inl (cy, 8, .inl (fun _ => 0))), (q_3, .inl (cy, 8, .inl (fun _ => 0))), (q_4, .inl (cy, 8, .inl (fun _ => 0))), (q_5, .inl (cy, 8, .inl (fun _ => 0))), (q_6, .inl (cy, 8, .inl (fun _ => 0))), (q_7, .inl (cy, 8, .inl (fun _ => 0))), (q_8, .inl (cy, 8, .inl (fun _ => 0))), (q_9, .inl (cy, 8, .inl (fun _ => 0))), (q_10, .inl (cy, 8, .inl (fun _ => 0))), (q_11, .inl (cy, 8, .inl (fun _ => 0))), (q_12, .inl (cy, 18, .inl (fun _ => 0))), (q_13, .inl (cy, 5, .inl (fun _ => 0)))] H := hP
  have hD : va_D A [(mo, .inr (12, [.ref q_1, .int 0, .int 0, .int 0, .int 0, .int 0, .int 0, .int 0, .ref q_2, .ref q_3, .ref q_4, .ref q_5, .int 0, .ref q_6, .ref q_7, .ref q_8, .ref q_9, .int 0, .int 0, .int 0, .int 0, .ref q_10, .ref q_11, .int 0, .ref q_12, .ref q_13, .int 0, .int 0, .int 0, .int 0, .int 0, .int 0, .int 0, .int 0, .null, .null, .null, .null, .null, .null, .null, .null, .null, .long 0])), (q_1, .inl (cy, 44, .inl (fun _ => 0))), (q_2, .inl (cy, 8, .inl (fun _ => 0))), (q_3, .inl (cy, 8, .inl (fun _ => 0))), (q_4, .inl (cy, 8, .inl (fun _ => 0))), (q_5, .inl (cy, 8, .inl (fun _ => 0))), (q_6, .inl (cy, 8, .inl (fun _ => 0))), (q_7, .inl (cy, 8, .inl (fun _ => 0))), (q_8, .inl (cy, 8, .inl (fun _ => 0))), (q_9, .inl (cy, 8, .inl (fun _ => 0))), (q_10, .inl (cy, 8, .inl (fun _ => 0))), (q_11, .inl (cy, 8, .inl (fun _ => 0))), (q_12, .inl (cy, 18, .inl (fun _ => 0))), (q_13, .inl (cy, 5, .inl (fun _ => 0)))] := hD
  refine lv_aload_n hx hb dX12_init_107 rfl (lv_at hl 0 rfl) ?_
  refine lv_bipush (v := 8) hx hb dX12_init_108 (by decide) ?_
  refine wk_newa hx hb (htb _ tw_101) hK hP hD hS hA 8 (by decide) (by decide) (by decide) (Nat.le_of_ble_eq_true rfl) (Nat.le_of_ble_eq_true rfl) dX12_init_110 (fun q_14 H hP hD hS => ?_)
  refine W.widen (k := 14) (n := 155) (by decide) (by decide) ?_
  have hP : va_P D classes [(mo, .inr (12, [.ref q_1, .int 0, .int 0, .int 0, .int 0, .int 0, .int 0, .int 0, .ref q_2, .ref q_3, .ref q_4, .ref q_5, .int 0, .ref q_6, .ref q_7, .ref q_8, .ref q_9, .int 0, .int 0, .int 0, .int 0, .ref q_10, .ref q_11, .int 0, .ref q_12, .ref q_13, .int 0, .int 0, .int 0, .int 0, .int 0, .int 0, .int 0, .int 0, .null, .null, .null, .null, .null, .null, .null, .null, .null, .long 0])), (q_1, .inl (cy, 44, .inl (fun _ => 0))), (q_2, .inl (cy, 8, .inl (fun _ => 0))), (q_3, .inl (cy, 8, .inl (fun _ => 0))), (q_4, .inl (cy, 8, .inl (fun _ => 0))), (q_5, .inl (cy, 8, .inl (fun _ => 0))), (q_6, .inl (cy, 8, .inl (fun _ => 0))), (q_7, .inl (cy, 8, .inl (fun _ => 0))), (q_8, .inl (cy, 8, .inl (fun _ => 0))), (q_9, .inl (cy, 8, .inl (fun _ => 0))), (q_10, .inl (cy, 8, .inl (fun _ => 0))), (q_11, .inl (cy, 8, .inl (fun _ => 0))), (q_12, .inl (cy, 18, .inl (fun _ => 0))), (q_13, .inl (cy, 5, .inl (fun _ => 0))), (q_14, .inl (cy, 8, .inl (fun _ => 0)))] H := hP
  have hD : va_D A [(mo, .inr (12, [.ref q_1, .int 0, .int 0, .int 0, .int 0, .int 0, .int 0, .int 0, .ref q_2, .ref q_3, .ref q_4, .ref q_5, .int 0, .ref q_6, .ref q_7, .ref q_8, .ref q_9, .int 0, .int 0, .int 0, .int 0, .ref q_10, .ref q_11, .int 0, .ref q_12, .ref q_13, .int 0, .int 0, .int 0, .int 0, .int 0, .int 0, .int 0, .int 0, .null, .null, .null, .null, .null, .null, .null, .null, .null, .long 0])), (q_1, .inl (cy, 44, .inl (fun _ => 0))), (q_2, .inl (cy, 8, .inl (fun _ => 0))), (q_3, .inl (cy, 8, .inl (fun _ => 0))), (q_4, .inl (cy, 8, .inl (fun _ => 0))), (q_5, .inl (cy, 8, .inl (fun _ => 0))), (q_6, .inl (cy, 8, .inl (fun _ => 0))), (q_7, .inl (cy, 8, .inl (fun _ => 0))), (q_8, .inl (cy, 8, .inl (fun _ => 0))), (q_9, .inl (cy, 8, .inl (fun _ => 0))), (q_10, .inl (cy, 8, .inl (fun _ => 0))), (q_11, .inl (cy, 8, .inl (fun _ => 0))), (q_12, .inl (cy, 18, .inl (fun _ => 0))), (q_13, .inl (cy, 5, .inl (fun _ => 0))), (q_14, .inl (cy, 8, .inl (fun _ => 0)))] := hD
  refine va_putF (D := D) (ci := 12) (v := .ref q_14) (ty := (.array .int)) (C := RX12) (T := TX12) (N := 44) hx hb htb inX12 tyX12 tyX12_ok nmX12 hown hK hP hD hS 0 rfl rfl 34 (by decide) (htb _ tw_797) (fun _ h9 => h9) rfl hin rfl (by decide +kernel) rfl rfl (Nat.le_of_ble_eq_true rfl) dX12_init_112 (fun H locs hP hD hS => ?_)
  have hP : va_P D classes [(mo, .inr (12, [.ref q_1, .int 0, .int 0, .int 0, .int 0, .int 0, .int 0, .int 0, .ref q_2, .ref q_3, .ref q_4, .ref q_5, .int 0, .ref q_6, .ref q_7, .ref q_8, .ref q_9, .int 0, .int 0, .int 0, .int 0, .ref q_10, .ref q_11, .int 0, .ref q_12, .ref q_13, .int 0, .int 0, .int 0, .int 0, .int 0, .int 0, .int 0, .int 0, .ref q_14, .null, .null, .null, .null, .null, .null, .null, .null, .long 0])), (q_1, .inl (cy, 44, .inl (fun _ => 0))), (q_2, .inl (cy, 8, .inl (fun _ => 0))), (q_3, .inl (cy, 8, .inl (fun _ => 0))), (q_4, .inl (cy, 8, .inl (fun _ => 0))), (q_5, .inl (cy, 8, .inl (fun _ => 0))), (q_6, .inl (cy, 8, .inl (fun _ => 0))), (q_7, .inl (cy, 8, .inl (fun _ => 0))), (q_8, .inl (cy, 8, .inl (fun _ => 0))), (q_9, .inl (cy, 8, .inl (fun _ => 0))), (q_10, .inl (cy, 8, .inl (fun _ => 0))), (q_11, .inl (cy, 8, .inl (fun _ => 0))), (q_12, .inl (cy, 18, .inl (fun _ => 0))), (q_13, .inl (cy, 5, .inl (fun _ => 0))), (q_14, .inl (cy, 8, .inl (fun _ => 0)))] H := hP
  have hD : va_D A [(mo, .inr (12, [.ref q_1, .int 0, .int 0, .int 0, .int 0, .int 0, .int 0, .int 0, .ref q_2, .ref q_3, .ref q_4, .ref q_5, .int 0, .ref q_6, .ref q_7, .ref q_8, .ref q_9, .int 0, .int 0, .int 0, .int 0, .ref q_10, .ref q_11, .int 0, .ref q_12, .ref q_13, .int 0, .int 0, .int 0, .int 0, .int 0, .int 0, .int 0, .int 0, .ref q_14, .null, .null, .null, .null, .null, .null, .null, .null, .long 0])), (q_1, .inl (cy, 44, .inl (fun _ => 0))), (q_2, .inl (cy, 8, .inl (fun _ => 0))), (q_3, .inl (cy, 8, .inl (fun _ => 0))), (q_4, .inl (cy, 8, .inl (fun _ => 0))), (q_5, .inl (cy, 8, .inl (fun _ => 0))), (q_6, .inl (cy, 8, .inl (fun _ => 0))), (q_7, .inl (cy, 8, .inl (fun _ => 0))), (q_8, .inl (cy, 8, .inl (fun _ => 0))), (q_9, .inl (cy, 8, .inl (fun _ => 0))), (q_10, .inl (cy, 8, .inl (fun _ => 0))), (q_11, .inl (cy, 8, .inl (fun _ => 0))), (q_12, .inl (cy, 18, .inl (fun _ => 0))), (q_13, .inl (cy, 5, .inl (fun _ => 0))), (q_14, .inl (cy, 8, .inl (fun _ => 0)))] := hD
  refine lv_aload_n hx hb dX12_init_115 rfl (lv_at hl 0 rfl) ?_
  refine lv_bipush (v := 8) hx hb dX12_init_116 (by decide) ?_
  refine wk_newa hx hb (htb _ tw_101) hK hP hD hS hA 8 (by decide) (by decide) (by decide) (Nat.le_of_ble_eq_true rfl) (Nat.le_of_ble_eq_true rfl) dX12_init_118 (fun q_15 H hP hD hS => ?_)
  refine W.widen (k := 15) (n := 163) (by decide) (by decide) ?_
  have hP : va_P D classes [(mo, .inr (12, [.ref q_1, .int 0, .int 0, .int 0, .int 0, .int 0, .int 0, .int 0, .ref q_2, .ref q_3, .ref q_4, .ref q_5, .int 0, .ref q_6, .ref q_7, .ref q_8, .ref q_9, .int 0, .int 0, .int 0, .int 0, .ref q_10, .ref q_11, .int 0, .ref q_12, .ref q_13, .int 0, .int 0, .int 0, .int 0, .int 0, .int 0, .int 0, .int 0, .ref q_14, .null, .null, .null, .null, .null, .null, .null, .null, .long 0])), (q_1, .inl (cy, 44, .inl (fun _ => 0))), (q_2, .inl (cy, 8, .inl (fun _ => 0))), (q_3, .inl (cy, 8, .inl (fun _ => 0))), (q_4, .inl (cy, 8, .inl (fun _ => 0))), (q_5, .inl (cy, 8, .inl (fun _ => 0))), (q_6, .inl (cy, 8, .inl (fun _ => 0))), (q_7, .inl (cy, 8, .inl (fun _ => 0))), (q_8, .inl (cy, 8, .inl (fun _ => 0))), (q_9, .inl (cy, 8, .inl (fun _ => 0))), (q_10, .inl (cy, 8, .inl (fun _ => 0))), (q_11, .inl (cy, 8, .inl (fun _ => 0))), (q_12, .inl (cy, 18, .inl (fun _ => 0))), (q_13, .inl (cy, 5, .inl (fun _ => 0))), (q_14, .inl (cy, 8, .inl (fun _ => 0))), (q_15, .inl (cy, 8, .inl (fun _ => 0)))] H := hP
  have hD : va_D A [(mo, .inr (12, [.ref q_1, .int 0, .int 0, .int 0, .int 0, .int 0, .int 0, .int 0, .ref q_2, .ref q_3, .ref q_4, .ref q_5, .int 0, .ref q_6, .ref q_7, .ref q_8, .ref q_9, .int 0, .int 0, .int 0, .int 0, .ref q_10, .ref q_11, .int 0, .ref q_12, .ref q_13, .int 0, .int 0, .int 0, .int 0, .int 0, .int 0, .int 0, .int 0, .ref q_14, .null, .null, .null, .null, .null, .null, .null, .null, .long 0])), (q_1, .inl (cy, 44, .inl (fun _ => 0))), (q_2, .inl (cy, 8, .inl (fun _ => 0))), (q_3, .inl (cy, 8, .inl (fun _ => 0))), (q_4, .inl (cy, 8, .inl (fun _ => 0))), (q_5, .inl (cy, 8, .inl (fun _ => 0))), (q_6, .inl (cy, 8, .inl (fun _ => 0))), (q_7, .inl (cy, 8, .inl (fun _ => 0))), (q_8, .inl (cy, 8, .inl (fun _ => 0))), (q_9, .inl (cy, 8, .inl (fun _ => 0))), (q_10, .inl (cy, 8, .inl (fun _ => 0))), (q_11, .inl (cy, 8, .inl (fun _ => 0))), (q_12, .inl (cy, 18, .inl (fun _ => 0))), (q_13, .inl (cy, 5, .inl (fun _ => 0))), (q_14, .inl (cy, 8, .inl (fun _ => 0))), (q_15, .inl (cy, 8, .inl (fun _ => 0)))] := hD
  refine va_putF (D := D) (ci := 12) (v := .ref q_15) (ty := (.array .int)) (C := RX12) (T := TX12) (N := 44) hx hb htb inX12 tyX12 tyX12_ok nmX12 hown hK hP hD hS 0 rfl rfl 35 (by decide) (htb _ tw_798) (fun _ h9 => h9) rfl hin rfl (by decide +kernel) rfl rfl (Nat.le_of_ble_eq_true rfl) dX12_init_120 (fun H locs hP hD hS => ?_)
  have hP : va_P D classes [(mo, .inr (12, [.ref q_1, .int 0, .int 0, .int 0, .int 0, .int 0, .int 0, .int 0, .ref q_2, .ref q_3, .ref q_4, .ref q_5, .int 0, .ref q_6, .ref q_7, .ref q_8, .ref q_9, .int 0, .int 0, .int 0, .int 0, .ref q_10, .ref q_11, .int 0, .ref q_12, .ref q_13, .int 0, .int 0, .int 0, .int 0, .int 0, .int 0, .int 0, .int 0, .ref q_14, .ref q_15, .null, .null, .null, .null, .null, .null, .null, .long 0])), (q_1, .inl (cy, 44, .inl (fun _ => 0))), (q_2, .inl (cy, 8, .inl (fun _ => 0))), (q_3, .inl (cy, 8, .inl (fun _ => 0))), (q_4, .inl (cy, 8, .inl (fun _ => 0))), (q_5, .inl (cy, 8, .inl (fun _ => 0))), (q_6, .inl (cy, 8, .inl (fun _ => 0))), (q_7, .inl (cy, 8, .inl (fun _ => 0))), (q_8, .inl (cy, 8, .inl (fun _ => 0))), (q_9, .inl (cy, 8, .inl (fun _ => 0))), (q_10, .inl (cy, 8, .inl (fun _ => 0))), (q_11, .inl (cy, 8, .inl (fun _ => 0))), (q_12, .inl (cy, 18, .inl (fun _ => 0))), (q_13, .inl (cy, 5, .inl (fun _ => 0))), (q_14, .inl (cy, 8, .inl (fun _ => 0))), (q_15, .inl (cy, 8, .inl (fun _ => 0)))] H := hP
  have hD : va_D A [(mo, .inr (12, [.ref q_1, .int 0, .int 0, .int 0, .int 0, .int 0, .int 0, .int 0, .ref q_2, .ref q_3, .ref q_4, .ref q_5, .int 0, .ref q_6, .ref q_7, .ref q_8, .ref q_9, .int 0, .int 0, .int 0, .int 0, .ref q_10, .ref q_11, .int 0, .ref q_12, .ref q_13, .int 0, .int 0, .int 0, .int 0, .int 0, .int 0, .int 0, .int 0, .ref q_14, .ref q_15, .null, .null, .null, .null, .null, .null, .null, .long 0])), (q_1, .inl (cy, 44, .inl (fun _ => 0))), (q_2, .inl (cy, 8, .inl (fun _ => 0))), (q_3, .inl (cy, 8, .inl (fun _ => 0))), (q_4, .inl (cy, 8, .inl (fun _ => 0))), (q_5, .inl (cy, 8, .inl (fun _ => 0))), (q_6, .inl (cy, 8, .inl (fun _ => 0))), (q_7, .inl (cy, 8, .inl (fun _ => 0))), (q_8, .inl (cy, 8, .inl (fun _ => 0))), (q_9, .inl (cy, 8, .inl (fun _ => 0))), (q_10, .inl (cy, 8, .inl (fun _ => 0))), (q_11, .inl (cy, 8, .inl (fun _ => 0))), (q_12, .inl (cy, 18, .inl (fun _ => 0))), (q_13, .inl (cy, 5, .inl (fun _ => 0))), (q_14, .inl (cy, 8, .inl (fun _ => 0))), (q_15, .inl (cy, 8, .inl (fun _ => 0)))] := hD
  refine lv_aload_n hx hb dX12_init_123 rfl (lv_at hl 0 rfl) ?_
  refine lv_bipush (v := 8) hx hb dX12_init_124 (by decide) ?_
  refine wk_newa hx hb (htb _ tw_101) hK hP hD hS hA 8 (by decide) (by decide) (by decide) (Nat.le_of_ble_eq_true rfl) (Nat.le_of_ble_eq_true rfl) dX12_init_126 (fun q_16 H hP hD hS => ?_)
  refine W.widen (k := 16) (n := 171) (by decide) (by decide) ?_
  have hP : va_P D classes [(mo, .inr (12, [.ref q_1, .int 0, .int 0, .int 0, .int 0, .int 0, .int 0, .int 0, .ref q_2, .ref q_3, .ref q_4, .ref q_5, .int 0, .ref q_6, .ref q_7, .ref q_8, .ref q_9, .int 0, .int 0, .int 0, .int 0, .ref q_10, .ref q_11, .int 0, .ref q_12, .ref q_13, .int 0, .int 0, .int 0, .int 0, .int 0, .int 0, .int 0, .int 0, .ref q_14, .ref q_15, .null, .null, .null, .null, .null, .null, .null, .long 0])), (q_1, .inl (cy, 44, .inl (fun _ => 0))), (q_2, .inl (cy, 8, .inl (fun _ => 0))), (q_3, .inl (cy, 8, .inl (fun _ => 0))), (q_4, .inl (cy, 8, .inl (fun _ => 0))), (q_5, .inl (cy, 8, .inl (fun _ => 0))), (q_6, .inl (cy, 8, .inl (fun _ => 0))), (q_7, .inl (cy, 8, .inl (fun _ => 0))), (q_8, .inl (cy, 8, .inl (fun _ => 0))), (q_9, .inl (cy, 8, .inl (fun _ => 0))), (q_10, .inl (cy, 8, .inl (fun _ => 0))), (q_11, .inl (cy, 8, .inl (fun _ => 0))), (q_12, .inl (cy, 18, .inl (fun _ => 0))), (q_13, .inl (cy, 5, .inl (fun _ => 0))), (q_14, .inl (cy, 8, .inl (fun _ => 0))), (q_15, .inl (cy, 8, .inl (fun _ => 0))), (q_16, .inl (cy, 8, .inl (fun _ => 0)))] H := hP
  have hD : va_D A [(mo, .inr (12, [.ref q_1, .int 0, .int 0, .int 0, .int 0, .int 0, .int 0, .int 0, .ref q_2, .ref q_3, .ref q_4, .ref q_5, .int 0, .ref q_6, .ref q_7, .ref q_8, .ref q_9, .int 0, .int 0, .int 0, .int 0, .ref q_10, .ref q_11, .int 0, .ref q_12, .ref q_13, .int 0, .int 0, .int 0, .int 0, .int 0, .int 0, .int 0, .int 0, .ref q_14, .ref q_15, .null, .null, .null, .null, .null, .null, .null, .long 0])), (q_1, .inl (cy, 44, .inl (fun _ => 0))), (q_2, .inl (cy, 8, .inl (fun _ => 0))), (q_3, .inl (cy, 8, .inl (fun _ => 0))), (q_4, .inl (cy, 8, .inl (fun _ => 0))), (q_5, .inl (cy, 8, .inl (fun _ => 0))), (q_6, .inl (cy, 8, .inl (fun _ => 0))), (q_7, .inl (cy, 8, .inl (fun _ => 0))), (q_8, .inl (cy, 8, .inl (fun _ => 0))), (q_9, .inl (cy, 8, .inl (fun _ => 0))), (q_10, .inl (cy, 8, .inl (fun _ => 0))), (q_11, .inl (cy, 8, .inl (fun _ => 0))), (q_12, .inl (cy, 18, .inl (fun _ => 0))), (q_13, .inl (cy, 5, .inl (fun _ => 0))), (q_14, .inl (cy, 8, .inl (fun _ => 0))), (q_15, .inl (cy, 8, .inl (fun _ => 0))), (q_16, .inl (cy, 8, .inl (fun _ => 0)))] := hD
  refine va_putF (D := D) (ci := 12) (v := .ref q_16) (ty := (.array .int)) (C := RX12) (T := TX12) (N := 44) hx hb htb inX12 tyX12 tyX12_ok nmX12 hown hK hP hD hS 0 rfl rfl 36 (by decide) (htb _ tw_799) (fun _ h9 => h9) rfl hin rfl (by decide +kernel) rfl rfl (Nat.le_of_ble_eq_true rfl) dX12_init_128 (fun H locs hP hD hS => ?_)
  have hP : va_P D classes [(mo, .inr (12, [.ref q_1, .int 0, .int 0, .int 0, .int 0, .int 0, .int 0, .int 0, .ref q_2, .ref q_3, .ref q_4, .ref q_5, .int 0, .ref q_6, .ref q_7, .ref q_8, .ref q_9, .int 0, .int 0, .int 0, .int 0, .ref q_10, .ref q_11, .int 0, .ref q_12, .ref q_13, .int 0, .int 0, .int 0, .int 0, .int 0, .int 0, .int 0, .int 0, .ref q_14, .ref q_15, .ref q_16, .null, .null, .null, .null, .null, .null, .long 0])), (q_1, .inl (cy, 44, .inl (fun _ => 0))), (q_2, .inl (cy, 8, .inl (fun _ => 0))), (q_3, .inl (cy, 8, .inl (fun _ => 0))), (q_4, .inl (cy, 8, .inl (fun _ => 0))), (q_5, .inl (cy, 8, .inl (fun _ => 0))), (q_6, .inl (cy, 8, .inl (fun _ => 0))), (q_7, .inl (cy, 8, .inl (fun _ => 0))), (q_8, .inl (cy, 8, .inl (fun _ => 0))), (q_9, .inl (cy, 8, .inl (fun _ => 0))), (q_10, .inl (cy, 8, .inl (fun _ => 0))), (q_11, .inl (cy, 8, .inl (fun _ => 0))), (q_12, .inl (cy, 18, .inl (fun _ => 0))), (q_13, .inl (cy, 5, .inl (fun _ => 0))), (q_14, .inl (cy, 8, .inl (fun _ => 0))), (q_15, .inl (cy, 8, .inl (fun _ => 0))), (q_16, .inl (cy, 8, .inl (fun _ => 0)))] H := hP
  have hD : va_D A [(mo, .inr (12, [.ref q_1, .int 0, .int 0, .int 0, .int 0, .int 0, .int 0, .int 0, .ref q_2, .ref q_3, .ref q_4, .ref q_5, .int 0, .ref q_6, .ref q_7, .ref q_8, .ref q_9, .int 0, .int 0, .int 0, .int 0, .ref q_10, .ref q_11, .int 0, .ref q_12, .ref q_13, .int 0, .int 0, .int 0, .int 0, .int 0, .int 0, .int 0, .int 0, .ref q_14, .ref q_15, .ref q_16, .null, .null, .null, .null, .null, .null, .long 0])), (q_1, .inl (cy, 44, .inl (fun _ => 0))), (q_2, .inl (cy, 8, .inl (fun _ => 0))), (q_3, .inl (cy, 8, .inl (fun _ => 0))), (q_4, .inl (cy, 8, .inl (fun _ => 0))), (q_5, .inl (cy, 8, .inl (fun _ => 0))), (q_6, .inl (cy, 8, .inl (fun _ => 0))), (q_7, .inl (cy, 8, .inl (fun _ => 0))), (q_8, .inl (cy, 8, .inl (fun _ => 0))), (q_9, .inl (cy, 8, .inl (fun _ => 0))), (q_10, .inl (cy, 8, .inl (fun _ => 0))), (q_11, .inl (cy, 8, .inl (fun _ => 0))), (q_12, .inl (cy, 18, .inl (fun _ => 0))), (q_13, .inl (cy, 5, .inl (fun _ => 0))), (q_14, .inl (cy, 8, .inl (fun _ => 0))), (q_15, .inl (cy, 8, .inl (fun _ => 0))), (q_16, .inl (cy, 8, .inl (fun _ => 0)))] := hD
  refine lv_aload_n hx hb dX12_init_131 rfl (lv_at hl 0 rfl) ?_
  refine lv_bipush (v := 8) hx hb dX12_init_132 (by decide) ?_
  refine wk_newa hx hb (htb _ tw_101) hK hP hD hS hA 8 (by decide) (by decide) (by decide) (Nat.le_of_ble_eq_true rfl) (Nat.le_of_ble_eq_true rfl) dX12_init_134 (fun q_17 H hP hD hS => ?_)
  refine W.widen (k := 17) (n := 179) (by decide) (by decide) ?_
  have hP : va_P D classes [(mo, .inr (12, [.ref q_1, .int 0, .int 0, .int 0, .int 0, .int 0, .int 0, .int 0, .ref q_2, .ref q_3, .ref q_4, .ref q_5, .int 0, .ref q_6, .ref q_7, .ref q_8, .ref q_9, .int 0, .int 0, .int 0, .int 0, .ref q_10, .ref q_11, .int 0, .ref q_12, .ref q_13, .int 0, .int 0, .int 0, .int 0, .int 0, .int 0, .int 0, .int 0, .ref q_14, .ref q_15, .ref q_16, .null, .null, .null, .null, .null, .null, .long 0])), (q_1, .inl (cy, 44, .inl (fun _ => 0))), (q_2, .inl (cy, 8, .inl (fun _ => 0))), (q_3, .inl (cy, 8, .inl (fun _ => 0))), (q_4, .inl (cy, 8, .inl (fun _ => 0))), (q_5, .inl (cy, 8, .inl (fun _ => 0))), (q_6, .inl (cy, 8, .inl (fun _ => 0))), (q_7, .inl (cy, 8, .inl (fun _ => 0))), (q_8, .inl (cy, 8, .inl (fun _ => 0))), (q_9, .inl (cy, 8, .inl (fun _ => 0))), (q_10, .inl (cy, 8, .inl (fun _ => 0))), (q_11, .inl (cy, 8, .inl (fun _ => 0))), (q_12, .inl (cy, 18, .inl (fun _ => 0))), (q_13, .inl (cy, 5, .inl (fun _ => 0))), (q_14, .inl (cy, 8, .inl (fun _ => 0))), (q_15, .inl (cy, 8, .inl (fun _ => 0))), (q_16, .inl (cy, 8, .inl (fun _ => 0))), (q_17, .inl (cy, 8, .inl (fun _ => 0)))] H := hP
  have hD : va_D A [(mo, .inr (12, [.ref q_1, .int 0, .int 0, .int 0, .int 0, .int 0, .int 0, .int 0, .ref q_2, .ref q_3, .ref q_4, .ref q_5, .int 0, .ref q_6, .ref q_7, .ref q_8, .ref q_9, .int 0, .int 0, .int 0, .int 0, .ref q_10, .ref q_11, .int 0, .ref q_12, .ref q_13, .int 0, .int 0, .int 0, .int 0, .int 0, .int 0, .int 0, .int 0, .ref q_14, .ref q_15, .ref q_16, .null, .null, .null, .null, .null, .null, .long 0])), (q_1, .inl (cy, 44, .inl (fun _ => 0))), (q_2, .inl (cy, 8, .inl (fun _ => 0))), (q_3, .inl (cy, 8, .inl (fun _ => 0))), (q_4, .inl (cy, 8, .inl (fun _ => 0))), (q_5, .inl (cy, 8, .inl (fun _ => 0))), (q_6, .inl (cy, 8, .inl (fun _ => 0))), (q_7, .inl (cy, 8, .inl (fun _ => 0))), (q_8, .inl (cy, 8, .inl (fun _ => 0))), (q_9, .inl (cy, 8, .inl (fun _ => 0))), (q_10, .inl (cy, 8, .inl (fun _ => 0))), (q_11, .inl (cy, 8, .inl (fun _ => 0))), (q_12, .inl (cy, 18, .inl (fun _ => 0))), (q_13, .inl (cy, 5, .inl (fun _ => 0))), (q_14, .inl (cy, 8, .inl (fun _ => 0))), (q_15, .inl (cy, 8, .inl (fun _ => 0))), (q_16, .inl (cy, 8, .inl (fun _ => 0))), (q_17, .inl (cy, 8, .inl (fun _ => 0)))] := hD
  refine va_putF (D := D) (ci := 12) (v := .ref q_17) (ty := (.array .int)) (C := RX12) (T := TX12) (N := 44) hx hb htb inX12 tyX12 tyX12_ok nmX12 hown hK hP hD hS 0 rfl rfl 37 (by decide) (htb _ tw_800) (fun _ h9 => h9) rfl hin rfl (by decide +kernel) rfl rfl (Nat.le_of_ble_eq_true rfl) dX12_init_136 (fun H locs hP hD hS => ?_)
  have hP : va_P D classes [(mo, .inr (12, [.ref q_1, .int 0, .int 0, .int 0, .int 0, .int 0, .int 0, .int 0, .ref q_2, .ref q_3, .ref q_4, .ref q_5, .int 0, .ref q_6, .ref q_7, .ref q_8, .ref q_9, .int 0, .int 0, .int 0, .int 0, .ref q_10, .ref q_11, .int 0, .ref q_12, .ref q_13, .int 0, .int 0, .int 0, .int 0, .int 0, .int 0, .int 0, .int 0, .ref q_14, .ref q_15, .ref q_16, .ref q_17, .null, .null, .null, .null, .null, .long 0])), (q_1, .inl (cy, 44, .inl (fun _ => 0))), (q_2, .inl (cy, 8, .inl (fun _ => 0))), (q_3, .inl (cy, 8, .inl (fun _ => 0))), (q_4, .inl (cy, 8, .inl (fun _ => 0))), (q_5, .inl (cy, 8, .inl (fun _ => 0))), (q_6, .inl (cy, 8, .inl (fun _ => 0))), (q_7, .inl (cy, 8, .inl (fun _ => 0))), (q_8, .inl (cy, 8, .inl (fun _ => 0))), (q_9, .inl (cy, 8, .inl (fun _ => 0))), (q_10, .inl (cy, 8, .inl (fun _ => 0))), (q_11, .inl (cy, 8, .inl (fun _ => 0))), (q_12, .inl (cy, 18, .inl (fun _ => 0))), (q_13, .inl (cy, 5, .inl (fun _ => 0))), (q_14, .inl (cy, 8, .inl (fun _ => 0))), (q_15, .inl (cy, 8, .inl (fun _ => 0))), (q_16, .inl (cy, 8, .inl (fun _ => 0))), (q_17, .inl (cy, 8, .inl (fun _ => 0)))] H := hP
  have hD : va_D A [(mo, .inr (12, [.ref q_1, .int 0, .int 0, .int 0, .int 0, .int 0, .int 0, .int 0, .ref q_2, .ref q_3, .ref q_4, .ref q_5, .int 0, .ref q_6, .ref q_7, .ref q_8, .ref q_9, .int 0, .int 0, .int 0, .int 0, .ref q_10, .ref q_11, .int 0, .ref q_12, .ref q_13, .int 0, .int 0, .int 0, .int 0, .int 0, .int 0, .int 0, .int 0, .ref q_14, .ref q_15, .ref q_16, .ref q_17, .null, .null, .null, .null, .null, .long 0])), (q_1, .inl (cy, 44, .inl (fun _ => 0))), (q_2, .inl (cy, 8, .inl (fun _ => 0))), (q_3, .inl (cy, 8, .inl (fun _ => 0))), (q_4, .inl (cy, 8, .inl (fun _ => 0))), (q_5, .inl (cy, 8, .inl (fun _ => 0))), (q_6, .inl (cy, 8, .inl (fun _ => 0))), (q_7, .inl (cy, 8, .inl (fun _ => 0))), (q_8, .inl (cy, 8, .inl (fun _ => 0))), (q_9, .inl (cy, 8, .inl (fun _ => 0))), (q_10, .inl (cy, 8, .inl (fun _ => 0))), (q_11, .inl (cy, 8, .inl (fun _ => 0))), (q_12, .inl (cy, 18, .inl (fun _ => 0))), (q_13, .inl (cy, 5, .inl (fun _ => 0))), (q_14, .inl (cy, 8, .inl (fun _ => 0))), (q_15, .inl (cy, 8, .inl (fun _ => 0))), (q_16, .inl (cy, 8, .inl (fun _ => 0))), (q_17, .inl (cy, 8, .inl (fun _ => 0)))] := hD
  refine lv_aload_n hx hb dX12_init_139 rfl (lv_at hl 0 rfl) ?_
  refine lv_bipush (v := 8) hx hb dX12_init_140 (by decide) ?_
  refine wk_newa hx hb (htb _ tw_101) hK hP hD hS hA 8 (by decide) (by decide) (by decide) (Nat.le_of_ble_eq_true rfl) (Nat.le_of_ble_eq_true rfl) dX12_init_142 (fun q_18 H hP hD hS => ?_)
  refine W.widen (k := 18) (n := 187) (by decide) (by decide) ?_
  have hP : va_P D classes [(mo, .inr (12, [.ref q_1, .int 0, .int 0, .int 0, .int 0, .int 0, .int 0, .int 0, .ref q_2, .ref q_3, .ref q_4, .ref q_5, .int 0, .ref q_6, .ref q_7, .ref q_8, .ref q_9, .int 0, .int 0, .int 0, .int 0, .ref q_10, .ref q_11, .int 0, .ref q_12, .ref q_13, .int 0, .int 0, .int 0, .int 0, .int 0, .int 0, .int 0, .int 0, .ref q_14, .ref q_15, .ref q_16, .ref q_17, .null, .null, .null, .null, .null, .long 0])), (q_1, .inl (cy, 44, .inl (fun _ => 0))), (q_2, .inl (cy, 8, .inl (fun _ => 0))), (q_3, .inl (cy, 8, .inl (fun _ => 0))), (q_4, .inl (cy, 8, .inl (fun _ => 0))), (q_5, .inl (cy, 8, .inl (fun _ => 0))), (q_6, .inl (cy, 8, .inl (fun _ => 0))), (q_7, .inl (cy, 8, .inl (fun _ => 0))), (q_8, .inl (cy, 8, .inl (fun _ => 0))), (q_9, .inl (cy, 8, .inl (fun _ => 0))), (q_10, .inl (cy, 8, .inl (fun _ => 0))), (q_11, .inl (cy, 8, .inl (fun _ => 0))), (q_12, .inl (cy, 18, .inl (fun _ => 0))), (q_13, .inl (cy, 5, .inl (fun _ => 0))), (q_14, .inl (cy, 8, .inl (fun _ => 0))), (q_15, .inl (cy, 8, .inl (fun _ => 0))), (q_16, .inl (cy, 8, .inl (fun _ => 0))), (q_17, .inl (cy, 8, .inl (fun _ => 0))), (q_18, .inl (cy, 8, .inl (fun _ => 0)))] H := hP
  have hD : va_D A [(mo, .inr (12, [.ref q_1, .int 0, .int 0, .int 0, .int 0, .int 0, .int 0, .int 0, .ref q_2, .ref q_3, .ref q_4, .ref q_5, .int 0, .ref q_6, .ref q_7, .ref q_8, .ref q_9, .int 0, .int 0, .int 0, .int 0, .ref q_10, .ref q_11, .int 0, .ref q_12, .ref q_13, .int 0, .int 0, .int 0, .int 0, .int 0, .int 0, .int 0, .int 0, .ref q_14, .ref q_15, .ref q_16, .ref q_17, .null, .null, .null, .null, .null, .long 0])), (q_1, .inl (cy, 44, .inl (fun _ => 0))), (q_2, .inl (cy, 8, .inl (fun _ => 0))), (q_3, .inl (cy, 8, .inl (fun _ => 0))), (q_4, .inl (cy, 8, .inl (fun _ => 0))), (q_5, .inl (cy, 8, .inl (fun _ => 0))), (q_6, .inl (cy, 8, .inl (fun _ => 0))), (q_7, .inl (cy, 8, .inl (fun _ => 0))), (q_8, .inl (cy, 8, .inl (fun _ => 0))), (q_9, .inl (cy, 8, .inl (fun _ => 0))), (q_10, .inl (cy, 8, .inl (fun _ => 0))), (q_11, .inl (cy, 8, .inl (fun _ => 0))), (q_12, .inl (cy, 18, .inl (fun _ => 0))), (q_13, .inl (cy, 5, .inl (fun _ => 0))), (q_14, .inl (cy, 8, .inl (fun _ => 0))), (q_15, .inl (cy, 8, .inl (fun _ => 0))), (q_16, .inl (cy, 8, .inl (fun _ => 0))), (q_17, .inl (cy, 8, .inl (fun _ => 0))), (q_18, .inl (cy, 8, .inl (fun _ => 0)))] := hD
  refine va_putF (D := D) (ci := 12) (v := .ref q_18) (ty := (.array .int)) (C := RX12) (T := TX12) (N := 44) hx hb htb inX12 tyX12 tyX12_ok nmX12 hown hK hP hD hS 0 rfl rfl 38 (by decide) (htb _ tw_801) (fun _ h9 => h9) rfl hin rfl (by decide +kernel) rfl rfl (Nat.le_of_ble_eq_true rfl) dX12_init_144 (fun H locs hP hD hS => ?_)
  have hP : va_P D classes [(mo, .inr (12, [.ref q_1, .int 0, .int 0, .int 0, .int 0, .int 0, .int 0, .int 0, .ref q_2, .ref q_3, .ref q_4, .ref q_5, .int 0, .ref q_6, .ref q_7, .ref q_8, .ref q_9, .int 0, .int 0, .int 0, .int 0, .ref q_10, .ref q_11, .int 0, .ref q_12, .ref q_13, .int 0, .int 0, .int 0, .int 0, .int 0, .int 0, .int 0, .int 0, .ref q_14, .ref q_15, .ref q_16, .ref q_17, .ref q_18, .null, .null, .null, .null, .long 0])), (q_1, .inl (cy, 44, .inl (fun _ => 0))), (q_2, .inl (cy, 8, .inl (fun _ => 0))), (q_3, .inl (cy, 8, .inl (fun _ => 0))), (q_4, .inl (cy, 8, .inl (fun _ => 0))), (q_5, .inl (cy, 8, .inl (fun _ => 0))), (q_6, .inl (cy, 8, .inl (fun _ => 0))), (q_7, .inl (cy, 8, .inl (fun _ => 0))), (q_8, .inl (cy, 8, .inl (fun _ => 0))), (q_9, .inl (cy, 8, .inl (fun _ => 0))), (q_10, .inl (cy, 8, .inl (fun _ => 0))), (q_11, .inl (cy, 8, .inl (fun _ => 0))), (q_12, .inl (cy, 18, .inl (fun _ => 0))), (q_13, .inl (cy, 5, .inl (fun _ => 0))), (q_14, .inl (cy, 8, .inl (fun _ => 0))), (q_15, .inl (cy, 8, .inl (fun _ => 0))), (q_16, .inl (cy, 8, .inl (fun _ => 0))), (q_17, .inl (cy, 8, .inl (fun _ => 0))), (q_18, .inl (cy, 8, .inl (fun _ => 0)))] H := hP
  have hD : va_D A [(mo, .inr (12, [.ref q_1, .int 0, .int 0, .int 0, .int 0, .int 0, .int 0, .int 0, .ref q_2, .ref q_3, .ref q_4, .ref q_5, .int 0, .ref q_6, .ref q_7, .ref q_8, .ref q_9, .int 0, .int 0, .int 0, .int 0, .ref q_10, .ref q_11, .int 0, .ref q_12, .ref q_13, .int 0, .int 0, .int 0, .int 0, .int 0, .int 0, .int 0, .int 0, .ref q_14, .ref q_15, .ref q_16, .ref q_17, .ref q_18, .null, .null, .null, .null, .long 0])), (q_1, .inl (cy, 44, .inl (fun _ => 0))), (q_2, .inl (cy, 8, .inl (fun _ => 0))), (q_3, .inl (cy, 8, .inl (fun _ => 0))), (q_4, .inl (cy, 8, .inl (fun _ => 0))), (q_5, .inl (cy, 8, .inl (fun _ => 0))), (q_6, .inl (cy, 8, .inl (fun _ => 0))), (q_7, .inl (cy, 8, .inl (fun _ => 0))), (q_8, .inl (cy, 8, .inl (fun _ => 0))), (q_9, .inl (cy, 8, .inl (fun _ => 0))), (q_10, .inl (cy, 8, .inl (fun _ => 0))), (q_11, .inl (cy, 8, .inl (fun _ => 0))), (q_12, .inl (cy, 18, .inl (fun _ => 0))), (q_13, .inl (cy, 5, .inl (fun _ => 0))), (q_14, .inl (cy, 8, .inl (fun _ => 0))), (q_15, .inl (cy, 8, .inl (fun _ => 0))), (q_16, .inl (cy, 8, .inl (fun _ => 0))), (q_17, .inl (cy, 8, .inl (fun _ => 0))), (q_18, .inl (cy, 8, .inl (fun _ => 0)))] := hD
  refine lv_aload_n hx hb dX12_init_147 rfl (lv_at hl 0 rfl) ?_
  refine lv_bipush (v := 8) hx hb dX12_init_148 (by decide) ?_
  refine wk_newa hx hb (htb _ tw_101) hK hP hD hS hA 8 (by decide) (by decide) (by decide) (Nat.le_of_ble_eq_true rfl) (Nat.le_of_ble_eq_true rfl) dX12_init_150 (fun q_19 H hP hD hS => ?_)
  refine W.widen (k := 19) (n := 195) (by decide) (by decide) ?_
  have hP : va_P D classes [(mo, .inr (12, [.ref q_1, .int 0, .int 0, .int 0, .int 0, .int 0, .int 0, .int 0, .ref q_2, .ref q_3, .ref q_4, .ref q_5, .int 0, .ref q_6, .ref q_7, .ref q_8, .ref q_9, .int 0, .int 0, .int 0, .int 0, .ref q_10, .ref q_11, .int 0, .ref q_12, .ref q_13, .int 0, .int 0, .int 0, .int 0, .int 0, .int 0, .int 0, .int 0, .ref q_14, .ref q_15, .ref q_16, .ref q_17, .ref q_18, .null, .null, .null, .null, .long 0])), (q_1, .inl (cy, 44, .inl (fun _ => 0))), (q_2, .inl (cy, 8, .inl (fun _ => 0))), (q_3, .inl (cy, 8, .inl (fun _ => 0))), (q_4, .inl (cy, 8, .inl (fun _ => 0))), (q_5, .inl (cy, 8, .inl (fun _ => 0))), (q_6, .inl (cy, 8, .inl (fun _ => 0))), (q_7, .inl (cy, 8, .inl (fun _ => 0))), (q_8, .inl (cy, 8, .inl (fun _ => 0))), (q_9, .inl (cy, 8, .inl (fun _ => 0))), (q_10, .inl (cy, 8, .inl (fun _ => 0))), (q_11, .inl (cy, 8, .inl (fun _ => 0))), (q_12, .inl (cy, 18, .inl (fun _ => 0))), (q_13, .inl (cy, 5, .inl (fun _ => 0))), (q_14, .inl (cy, 8, .inl (fun _ => 0))), (q_15, .inl (cy, 8, .inl (fun _ => 0))), (q_16, .inl (cy, 8, .inl (fun _ => 0))), (q_17, .inl (cy, 8, .inl (fun _ => 0))), (q_18, .inl (cy, 8, .inl (fun _ => 0))), (q_19, .inl (cy, 8, .inl (fun _ => 0)))] H := hP
  have hD : va_D A [(mo, .inr (12, [.ref q_1, .int 0, .int 0, .int 0, .int 0, .int 0, .int 0, .int 0, .ref q_2, .ref q_3, .ref q_4, .ref q_5, .int 0, .ref q_6, .ref q_7, .ref q_8, .ref q_9, .int 0, .int 0, .int 0, .int 0, .ref q_10, .ref q_11, .int 0, .ref q_12, .ref q_13, .int 0, .int 0, .int 0, .int 0, .int 0, .int 0, .int 0, .int 0, .ref q_14, .ref q_15, .ref q_16, .ref q_17, .ref q_18, .null, .null, .null, .null, .long 0])), (q_1, .inl (cy, 44, .inl (fun _ => 0))), (q_2, .inl (cy, 8, .inl (fun _ => 0))), (q_3, .inl (cy, 8, .inl (fun _ => 0))), (q_4, .inl (cy, 8, .inl (fun _ => 0))), (q_5, .inl (cy, 8, .inl (fun _ => 0))), (q_6, .inl (cy, 8, .inl (fun _ => 0))), (q_7, .inl (cy, 8, .inl (fun _ => 0))), (q_8, .inl (cy, 8, .inl (fun _ => 0))), (q_9, .inl (cy, 8, .inl (fun _ => 0))), (q_10, .inl (cy, 8, .inl (fun _ => 0))), (q_11, .inl (cy, 8, .inl (fun _ => 0))), (q_12, .inl (cy, 18, .inl (fun _ => 0))), (q_13, .inl (cy, 5, .inl (fun _ => 0))), (q_14, .inl (cy, 8, .inl (fun _ => 0))), (q_15, .inl (cy, 8, .inl (fun _ => 0))), (q_16, .inl (cy, 8, .inl (fun _ => 0))), (q_17, .inl (cy, 8, .inl (fun _ => 0))), (q_18, .inl (cy, 8, .inl (fun _ => 0))), (q_19, .inl (cy, 8, .inl (fun _ => 0)))] := hD
  refine va_putF (D := D) (ci := 12) (v := .ref q_19) (ty := (.array .int)) (C := RX12) (T := TX12) (N := 44) hx hb htb inX12 tyX12 tyX12_ok nmX12 hown hK hP hD hS 0 rfl rfl 39 (by decide) (htb _ tw_802) (fun _ h9 => h9) rfl hin rfl (by decide +kernel) rfl rfl (Nat.le_of_ble_eq_true rfl) dX12_init_152 (fun H locs hP hD hS => ?_)
  have hP : va_P D classes [(mo, .inr (12, [.ref q_1, .int 0, .int 0, .int 0, .int 0, .int 0, .int 0, .int 0, .ref q_2, .ref q_3, .ref q_4, .ref q_5, .int 0, .ref q_6, .ref q_7, .ref q_8, .ref q_9, .int 0, .int 0, .int 0, .int 0, .ref q_10, .ref q_11, .int 0, .ref q_12, .ref q_13, .int 0, .int 0, .int 0, .int 0, .int 0, .int 0, .int 0, .int 0, .ref q_14, .ref q_15, .ref q_16, .ref q_17, .ref q_18, .ref q_19, .null, .null, .null, .long 0])), (q_1, .inl (cy, 44, .inl (fun _ => 0))), (q_2, .inl (cy, 8, .inl (fun _ => 0))), (q_3, .inl (cy, 8, .inl (fun _ => 0))), (q_4, .inl (cy, 8, .inl (fun _ => 0))), (q_5, .inl (cy, 8, .inl (fun _ => 0))), (q_6, .inl (cy, 8, .inl (fun _ => 0))), (q_7, .inl (cy, 8, .inl (fun _ => 0))), (q_8, .inl (cy, 8, .inl (fun _ => 0))), (q_9, .inl (cy, 8, .inl (fun _ => 0))), (q_10, .inl (cy, 8, .inl (fun _ => 0))), (q_11, .inl (cy, 8, .inl (fun _ => 0))), (q_12, .inl (cy, 18, .inl (fun _ => 0))), (q_13, .inl (cy, 5, .inl (fun _ => 0))), (q_14, .inl (cy, 8, .inl (fun _ => 0))), (q_15, .inl (cy, 8, .inl (fun _ => 0))), (q_16, .inl (cy, 8, .inl (fun _ => 0))), (q_17, .inl (cy, 8, .inl (fun _ => 0))), (q_18, .inl (cy, 8, .inl (fun _ => 0))), (q_19, .inl (cy, 8, .inl (fun _ => 0)))] H := hP
  have hD : va_D A [(mo, .inr (12, [.ref q_1, .int 0, .int 0, .int 0, .int 0, .int 0, .int 0, .int 0, .ref q_2, .ref q_3, .ref q_4, .ref q_5, .int 0, .ref q_6, .ref q_7, .ref q_8, .ref q_9, .int 0, .int 0, .int 0, .int 0, .ref q_10, .ref q_11, .int 0, .ref q_12, .ref q_13, .int 0, .int 0, .int 0, .int 0, .int 0, .int 0, .int 0, .int 0, .ref q_14, .ref q_15, .ref q_16, .ref q_17, .ref q_18, .ref q_19, .null, .null, .null, .long 0])), (q_1, .inl (cy, 44, .inl (fun _ => 0))), (q_2, .inl (cy, 8, .inl (fun _ => 0))), (q_3, .inl (cy, 8, .inl (fun _ => 0))), (q_4, .inl (cy, 8, .inl (fun _ => 0))), (q_5, .inl (cy, 8, .inl (fun _ => 0))), (q_6, .inl (cy, 8, .inl (fun _ => 0))), (q_7, .inl (cy, 8, .inl (fun _ => 0))), (q_8, .inl (cy, 8, .inl (fun _ => 0))), (q_9, .inl (cy, 8, .inl (fun _ => 0))), (q_10, .inl (cy, 8, .inl (fun _ => 0))), (q_11, .inl (cy, 8, .inl (fun _ => 0))), (q_12, .inl (cy, 18, .inl (fun _ => 0))), (q_13, .inl (cy, 5, .inl (fun _ => 0))), (q_14, .inl (cy, 8, .inl (fun _ => 0))), (q_15, .inl (cy, 8, .inl (fun _ => 0))), (q_16, .inl (cy, 8, .inl (fun _ => 0))), (q_17, .inl (cy, 8, .inl (fun _ => 0))), (q_18, .inl (cy, 8, .inl (fun _ => 0))), (q_19, .inl (cy, 8, .inl (fun _ => 0)))] := hD
  refine lv_aload_n hx hb dX12_init_155 rfl (lv_at hl 0 rfl) ?_
  refine lv_bipush (v := 8) hx hb dX12_init_156 (by decide) ?_
  refine wk_newa hx hb (htb _ tw_101) hK hP hD hS hA 8 (by decide) (by decide) (by decide) (Nat.le_of_ble_eq_true rfl) (Nat.le_of_ble_eq_true rfl) dX12_init_158 (fun q_20 H hP hD hS => ?_)
  refine W.widen (k := 20) (n := 203) (by decide) (by decide) ?_
  have hP : va_P D classes [(mo, .inr (12, [.ref q_1, .int 0, .int 0, .int 0, .int 0, .int 0, .int 0, .int 0, .ref q_2, .ref q_3, .ref q_4, .ref q_5, .int 0, .ref q_6, .ref q_7, .ref q_8, .ref q_9, .int 0, .int 0, .int 0, .int 0, .ref q_10, .ref q_11, .int 0, .ref q_12, .ref q_13, .int 0, .int 0, .int 0, .int 0, .int 0, .int 0, .int 0, .int 0, .ref q_14, .ref q_15, .ref q_16, .ref q_17, .ref q_18, .ref q_19, .null, .null, .null, .long 0])), (q_1, .inl (cy, 44, .inl (fun _ => 0))), (q_2, .inl (cy, 8, .inl (fun _ => 0))), (q_3, .inl (cy, 8, .inl (fun _ => 0))), (q_4, .inl (cy, 8, .inl (fun _ => 0))), (q_5, .inl (cy, 8, .inl (fun _ => 0))), (q_6, .inl (cy, 8, .inl (fun _ => 0))), (q_7, .inl (cy, 8, .inl (fun _ => 0))), (q_8, .inl (cy, 8, .inl (fun _ => 0))), (q_9, .inl (cy, 8, .inl (fun _ => 0))), (q_10, .inl (cy, 8, .inl (fun _ => 0))), (q_11, .inl (cy, 8, .inl (fun _ => 0))), (q_12, .inl (cy, 18, .inl (fun _ => 0))), (q_13, .inl (cy, 5, .inl (fun _ => 0))), (q_14, .inl (cy, 8, .inl (fun _ => 0))), (q_15, .inl (cy, 8, .inl (fun _ => 0))), (q_16, .inl (cy, 8, .inl (fun _ => 0))), (q_17, .inl (cy, 8, .inl (fun _ => 0))), (q_18, .inl (cy, 8, .inl (fun _ => 0))), (q_19, .inl (cy, 8, .inl (fun _ => 0))), (q_20, .inl (cy, 8, .inl (fun _ => 0)))] H := hP
  have hD : va_D A [(mo, .inr (12, [.ref q_1, .int 0, .int 0, .int 0, .int 0, .int 0, .int 0, .int 0, .ref q_2, .ref q_3, .ref q_4, .ref q_5, .int 0, .ref q_6, .ref q_7, .ref q_8, .ref q_9, .int 0, .int 0, .int 0, .int 0, .ref q_10, .ref q_11, .int 0, .ref q_12, .ref q_13, .int 0, .int 0, .int 0, .int 0, .int 0, .int 0, .int 0, .int 0, .ref q_14, .ref q_15, .ref q_16, .ref q_17, .ref q_18, .ref q_19, .null, .null, .null, .long 0])), (q_1, .inl (cy, 44, .inl (fun _ => 0))), (q_2, .inl (cy, 8, .inl (fun _ => 0))), (q_3, .inl (cy, 8, .inl (fun _ => 0))), (q_4, .inl (cy, 8, .inl (fun _ => 0))), (q_5, .inl (cy, 8, .inl (fun _ => 0))), (q_6, .inl (cy, 8, .inl (fun _ => 0))), (q_7, .inl (cy, 8, .inl (fun _ => 0))), (q_8, .inl (cy, 8, .inl (fun _ => 0))), (q_9, .inl (cy, 8, .inl (fun _ => 0))), (q_10, .inl (cy, 8, .inl (fun _ => 0))), (q_11, .inl (cy, 8, .inl (fun _ => 0))), (q_12, .inl (cy, 18, .inl (fun _ => 0))), (q_13, .inl (cy, 5, .inl (fun _ => 0))), (q_14, .inl (cy, 8, .inl (fun _ => 0))), (q_15, .inl (cy, 8, .inl (fun _ => 0))), (q_16, .inl (cy, 8, .inl (fun _ => 0))), (q_17, .inl (cy, 8, .inl (fun _ => 0))), (q_18, .inl (cy, 8, .inl (fun _ => 0))), (q_19, .inl (cy, 8, .inl (fun _ => 0))), (q_20, .inl (cy, 8, .inl (fun _ => 0)))] := hD
  refine va_putF (D := D) (ci := 12) (v := .ref q_20) (ty := (.array .int)) (C := RX12) (T := TX12) (N := 44) hx hb htb inX12 tyX12 tyX12_ok nmX12 hown hK hP hD hS 0 rfl rfl 40 (by decide) (htb _ tw_803) (fun _ h9 => h9) rfl hin rfl (by decide +kernel) rfl rfl (Nat.le_of_ble_eq_true rfl) dX12_init_160 (fun H locs hP hD hS => ?_)
  have hP : va_P D classes [(mo, .inr (12, [.ref q_1, .int 0, .int 0, .int 0, .int 0, .int 0, .int 0, .int 0, .ref q_2, .ref q_3, .ref q_4, .ref q_5, .int 0, .ref q_6, .ref q_7, .ref q_8, .ref q_9, .int 0, .int 0, .int 0, .int 0, .ref q_10, .ref q_11, .int 0, .ref q_12, .ref q_13, .int 0, .int 0, .int 0, .int 0, .int 0, .int 0, .int 0, .int 0, .ref q_14, .ref q_15, .ref q_16, .ref q_17, .ref q_18, .ref q_19, .ref q_20, .null, .null, .long 0])), (q_1, .inl (cy, 44, .inl (fun _ => 0))), (q_2, .inl (cy, 8, .inl (fun _ => 0))), (q_3, .inl (cy, 8, .inl (fun _ => 0))), (q_4, .inl (cy, 8, .inl (fun _ => 0))), (q_5, .inl (cy, 8, .inl (fun _ => 0))), (q_6, .inl (cy, 8, .inl (fun _ => 0))), (q_7, .inl (cy, 8, .inl (fun _ => 0))), (q_8, .inl (cy, 8, .inl (fun _ => 0))), (q_9, .inl (cy, 8, .inl (fun _ => 0))), (q_10, .inl (cy, 8, .inl (fun _ => 0))), (q_11, .inl (cy, 8, .inl (fun _ => 0))), (q_12, .inl (cy, 18, .inl (fun _ => 0))), (q_13, .inl (cy, 5, .inl (fun _ => 0))), (q_14, .inl (cy, 8, .inl (fun _ => 0))), (q_15, .inl (cy, 8, .inl (fun _ => 0))), (q_16, .inl (cy, 8, .inl (fun _ => 0))), (q_17, .inl (cy, 8, .inl (fun _ => 0))), (q_18, .inl (cy, 8, .inl (fun _ => 0))), (q_19, .inl (cy, 8, .inl (fun _ => 0))), (q_20, .inl (cy, 8, .inl (fun _ => 0)))] H := hP
  have hD : va_D A [(mo, .inr (12, [.ref q_1, .int 0, .int 0, .int 0, .int 0, .int 0, .int 0, .int 0, .ref q_2, .ref q_3, .ref q_4, .ref q_5, .int 0, .ref q_6, .ref q_7, .ref q_8, .ref q_9, .int 0, .int 0, .int 0, .int 0, .ref q_10, .ref q_11, .int 0, .ref q_12, .ref q_13, .int 0, .int 0, .int 0, .int 0, .int 0, .int 0, .int 0, .int 0, .ref q_14, .ref q_15, .ref q_16, .ref q_17, .ref q_18, .ref q_19, .ref q_20, .null, .null, .long 0])), (q_1, .inl (cy, 44, .inl (fun _ => 0))), (q_2, .inl (cy, 8, .inl (fun _ => 0))), (q_3, .inl (cy, 8, .inl (fun _ => 0))), (q_4, .inl (cy, 8, .inl (fun _ => 0))), (q_5, .inl (cy, 8, .inl (fun _ => 0))), (q_6, .inl (cy, 8, .inl (fun _ => 0))), (q_7, .inl (cy, 8, .inl (fun _ => 0))), (q_8, .inl (cy, 8, .inl (fun _ => 0))), (q_9, .inl (cy, 8, .inl (fun _ => 0))), (q_10, .inl (cy, 8, .inl (fun _ => 0))), (q_11, .inl (cy, 8, .inl (fun _ => 0))), (q_12, .inl (cy, 18, .inl (fun _ => 0))), (q_13, .inl (cy, 5, .inl (fun _ => 0))), (q_14, .inl (cy, 8, .inl (fun _ => 0))), (q_15, .inl (cy, 8, .inl (fun _ => 0))), (q_16, .inl (cy, 8, .inl (fun _ => 0))), (q_17, .inl (cy, 8, .inl (fun _ => 0))), (q_18, .inl (cy, 8, .inl (fun _ => 0))), (q_19, .inl (cy, 8, .inl (fun _ => 0))), (q_20, .inl (cy, 8, .inl (fun _ => 0)))] := hD
  refine lv_aload_n hx hb dX12_init_163 rfl (lv_at hl 0 rfl) ?_
  refine lv_bipush (v := 8) hx hb dX12_init_164 (by decide) ?_
  refine wk_newa hx hb (htb _ tw_101) hK hP hD hS hA 8 (by decide) (by decide) (by decide) (Nat.le_of_ble_eq_true rfl) (Nat.le_of_ble_eq_true rfl) dX12_init_166 (fun q_21 H hP hD hS => ?_)
  refine W.widen (k := 21) (n := 211) (by decide) (by decide) ?_
  have hP : va_P D classes [(mo, .inr (12, [.ref q_1, .int 0, .int 0, .int 0, .int 0, .int 0, .int 0, .int 0, .ref q_2, .ref q_3, .ref q_4, .ref q_5, .int 0, .ref q_6, .ref q_7, .ref q_8, .ref q_9, .int 0, .int 0, .int 0, .int 0, .ref q_10, .ref q_11, .int 0, .ref q_12, .ref q_13, .int 0, .int 0, .int 0, .int 0, .int 0, .int 0, .int 0, .int 0, .ref q_14, .ref q_15, .ref q_16, .ref q_17, .ref q_18, .ref q_19, .ref q_20, .null, .null, .long 0])), (q_1, .inl (cy, 44, .inl (fun _ => 0))), (q_2, .inl (cy, 8, .inl (fun _ => 0))), (q_3, .inl (cy, 8, .inl (fun _ => 0))), (q_4, .inl (cy, 8, .inl (fun _ => 0))), (q_5, .inl (cy, 8, .inl (fun _ => 0))), (q_6, .inl (cy, 8, .inl (fun _ => 0))), (q_7, .inl (cy, 8, .inl (fun _ => 0))), (q_8, .inl (cy, 8, .inl (fun _ => 0))), (q_9, .inl (cy, 8, .inl (fun _ => 0))), (q_10, .inl (cy, 8, .inl (fun _ => 0))), (q_11, .inl (cy, 8, .inl (fun _ => 0))), (q_12, .inl (cy, 18, .inl (fun _ => 0))), (q_13, .inl (cy, 5, .inl (fun _ => 0))), (q_14, .inl (cy, 8, .inl (fun _ => 0))), (q_15, .inl (cy, 8, .inl (fun _ => 0))), (q_16, .inl (cy, 8, .inl (fun _ => 0))), (q_17, .inl (cy, 8, .inl (fun _ => 0))), (q_18, .inl (cy, 8, .inl (fun _ => 0))), (q_19, .inl (cy, 8, .inl (fun _ => 0))), (q_20, .inl (cy, 8, .inl (fun _ => 0))), (q_21, .inl (cy, 8, .inl (fun _ => 0)))] H := hP
  have hD : va_D A [(mo, .inr (12, [.ref q_1, .int 0, .int 0, .int 0, .int 0, .int 0, .int 0, .int 0, .ref q_2, .ref q_3, .ref q_4, .ref q_5, .int 0, .ref q_6, .ref q_7, .ref q_8, .ref q_9, .int 0, .int 0, .int 0, .int 0, .ref q_10, .ref q_11, .int 0, .ref q_12, .ref q_13, .int 0, .int 0, .int 0, .int 0, .int 0, .int 0, .int 0, .int 0, .ref q_14, .ref q_15, .ref q_16, .ref q_17, .ref q_18, .ref q_19, .ref q_20, .null, .null, .long 0])), (q_1, .inl (cy, 44, .inl (fun _ => 0))), (q_2, .inl (cy, 8, .inl (fun _ => 0))), (q_3, .inl (cy, 8, .inl (fun _ => 0))), (q_4, .inl (cy, 8, .inl (fun _ => 0))), (q_5, .inl (cy, 8, .inl (fun _ => 0))), (q_6, .inl (cy, 8, .inl (fun _ => 0))), (q_7, .inl (cy, 8, .inl (fun _ => 0))), (q_8, .inl (cy, 8, .inl (fun _ => 0))), (q_9, .inl (cy, 8, .inl (fun _ => 0))), (q_10, .inl (cy, 8, .inl (fun _ => 0))), (q_11, .inl (cy, 8, .inl (fun _ => 0))), (q_12, .inl (cy, 18, .inl (fun _ => 0))), (q_13, .inl (cy, 5, .inl (fun _ => 0))), (q_14, .inl (cy, 8, .inl (fun _ => 0))), (q_15, .inl (cy, 8, .inl (fun _ => 0))), (q_16, .inl (cy, 8, .inl (fun _ => 0))), (q_17, .inl (cy, 8, .inl (fun _ => 0))), (q_18, .inl (cy, 8, .inl (fun _ => 0))), (q_19, .inl (cy, 8, .inl (fun _ => 0))), (q_20, .inl (cy, 8, .inl (fun _ => 0))), (q_21, .inl (cy, 8, .inl (fun _ => 0)))] := hD
  refine va_putF (D := D) (ci := 12) (v := .ref q_21) (ty := (.array .int)) (C := RX12) (T := TX12) (N := 44) hx hb htb inX12 tyX12 tyX12_ok nmX12 hown hK hP hD hS 0 rfl rfl 41 (by decide) (htb _ tw_804) (fun _ h9 => h9) rfl hin rfl (by decide +kernel) rfl rfl (Nat.le_of_ble_eq_true rfl) dX12_init_168 (fun H locs hP hD hS => ?_)
  have hP : va_P D classes [(mo, .inr (12, [.ref q_1, .int 0, .int 0, .int 0, .int 0, .int 0, .int 0, .int 0, .ref q_2, .ref q_3, .ref q_4, .ref q_5, .int 0, .ref q_6, .ref q_7, .ref q_8, .ref q_9, .int 0, .int 0, .int 0, .int 0, .ref q_10, .ref q_11, .int 0, .ref q_12, .ref q_13, .int 0, .int 0, .int 0, .int 0, .int 0, .int 0, .int 0, .int 0, .ref q_14, .ref q_15, .ref q_16, .ref q_17, .ref q_18, .ref q_19, .ref q_20, .ref q_21, .null, .long 0])), (q_1, .inl (cy, 44, .inl (fun _ => 0))), (q_2, .inl (cy, 8, .inl (fun _ => 0))), (q_3, .inl (cy, 8, .inl (fun _ => 0))), (q_4, .inl (cy, 8, .inl (fun _ => 0))), (q_5, .inl (cy, 8, .inl (fun _ => 0))), (q_6, .inl (cy, 8, .inl (fun _ => 0))), (q_7, .inl (cy, 8, .inl (fun _ => 0))), (q_8, .inl (cy, 8, .inl (fun _ => 0))), (q_9, .inl (cy, 8, .inl (fun _ => 0))), (q_10, .inl (cy, 8, .inl (fun _ => 0))), (q_11, .inl (cy, 8, .inl (fun _ => 0))), (q_12, .inl (cy, 18, .inl (fun _ => 0))), (q_13, .inl (cy, 5, .inl (fun _ => 0))), (q_14, .inl (cy, 8, .inl (fun _ => 0))), (q_15, .inl (cy, 8, .inl (fun _ => 0))), (q_16, .inl (cy, 8, .inl (fun _ => 0))), (q_17, .inl (cy, 8, .inl (fun _ => 0))), (q_18, .inl (cy, 8, .inl (fun _ => 0))), (q_19, .inl (cy, 8, .inl (fun _ => 0))), (q_20, .inl (cy, 8, .inl (fun _ => 0))), (q_21, .inl (cy, 8, .inl (fun _ => 0)))] H := hP
  have hD : va_D A [(mo, .inr (12, [.ref q_1, .int 0, .int 0, .int 0, .int 0, .int 0, .int 0, .int 0, .ref q_2, .ref q_3, .ref q_4, .ref q_5, .int 0, .ref q_6, .ref q_7, .ref q_8, .ref q_9, .int 0, .int 0, .int 0, .int 0, .ref q_10, .ref q_11, .int 0, .ref q_12, .ref q_13, .int 0, .int 0, .int 0, .int 0, .int 0, .int 0, .int 0, .int 0, .ref q_14, .ref q_15, .ref q_16, .ref q_17, .ref q_18, .ref q_19, .ref q_20, .ref q_21, .null, .long 0])), (q_1, .inl (cy, 44, .inl (fun _ => 0))), (q_2, .inl (cy, 8, .inl (fun _ => 0))), (q_3, .inl (cy, 8, .inl (fun _ => 0))), (q_4, .inl (cy, 8, .inl (fun _ => 0))), (q_5, .inl (cy, 8, .inl (fun _ => 0))), (q_6, .inl (cy, 8, .inl (fun _ => 0))), (q_7, .inl (cy, 8, .inl (fun _ => 0))), (q_8, .inl (cy, 8, .inl (fun _ => 0))), (q_9, .inl (cy, 8, .inl (fun _ => 0))), (q_10, .inl (cy, 8, .inl (fun _ => 0))), (q_11, .inl (cy, 8, .inl (fun _ => 0))), (q_12, .inl (cy, 18, .inl (fun _ => 0))), (q_13, .inl (cy, 5, .inl (fun _ => 0))), (q_14, .inl (cy, 8, .inl (fun _ => 0))), (q_15, .inl (cy, 8, .inl (fun _ => 0))), (q_16, .inl (cy, 8, .inl (fun _ => 0))), (q_17, .inl (cy, 8, .inl (fun _ => 0))), (q_18, .inl (cy, 8, .inl (fun _ => 0))), (q_19, .inl (cy, 8, .inl (fun _ => 0))), (q_20, .inl (cy, 8, .inl (fun _ => 0))), (q_21, .inl (cy, 8, .inl (fun _ => 0)))] := hD
  refine lv_aload_n hx hb dX12_init_171 rfl (lv_at hl 0 rfl) ?_
  refine lv_bipush (v := 18) hx hb dX12_init_172 (by decide) ?_
  refine wk_newa hx hb (htb _ tw_101) hK hP hD hS hA 18 (by decide) (by decide) (by decide) (Nat.le_of_ble_eq_true rfl) (Nat.le_of_ble_eq_true rfl) dX12_init_174 (fun q_22 H hP hD hS => ?_)
  refine W.widen (k := 22) (n := 229) (by decide) (by decide) ?_
  have hP : va_P D classes [(mo, .inr (12, [.ref q_1, .int 0, .int 0, .int 0, .int 0, .int 0, .int 0, .int 0, .ref q_2, .ref q_3, .ref q_4, .ref q_5, .int 0, .ref q_6, .ref q_7, .ref q_8, .ref q_9, .int 0, .int 0, .int 0, .int 0, .ref q_10, .ref q_11, .int 0, .ref q_12, .ref q_13, .int 0, .int 0, .int 0, .int 0, .int 0, .int 0, .int 0, .int 0, .ref q_14, .ref q_15, .ref q_16, .ref q_17, .ref q_18, .ref q_19, .ref q_20, .ref q_21, .null, .long 0])), (q_1, .inl (cy, 44, .inl (fun _ => 0))), (q_2, .inl (cy, 8, .inl (fun _ => 0))), (q_3, .inl (cy, 8, .inl (fun _ => 0))), (q_4, .inl (cy, 8, .inl (fun _ => 0))), (q_5, .inl (cy, 8, .inl (fun _ => 0))), (q_6, .inl (cy, 8, .inl (fun _ => 0))), (q_7, .inl (cy, 8, .inl (fun _ => 0))), (q_8, .inl (cy, 8, .inl (fun _ => 0))), (q_9, .inl (cy, 8, .inl (fun _ => 0))), (q_10, .inl (cy, 8, .inl (fun _ => 0))), (q_11, .inl (cy, 8, .inl (fun _ => 0))), (q_12, .inl (cy, 18, .inl (fun _ => 0))), (q_13, .inl (cy, 5, .inl (fun _ => 0))), (q_14, .inl (cy, 8, .inl (fun _ => 0))), (q_15, .inl (cy, 8, .inl (fun _ => 0))), (q_16, .inl (cy, 8, .inl (fun _ => 0))), (q_17, .inl (cy, 8, .inl (fun _ => 0))), (q_18, .inl (cy, 8, .inl (fun _ => 0))), (q_19, .inl (cy, 8, .inl (fun _ => 0))), (q_20, .inl (cy, 8, .inl (fun _ => 0))), (q_21, .inl (cy, 8, .inl (fun _ => 0))), (q_22, .inl (cy, 18, .inl (fun _ => 0)))] H := hP
  have hD : va_D A [(mo, .inr (12, [.ref q_1, .int 0, .int 0, .int 0, .int 0, .int 0, .int 0, .int 0, .ref q_2, .ref q_3, .ref q_4, .ref q_5, .int 0, .ref q_6, .ref q_7, .ref q_8, .ref q_9, .int 0, .int 0, .int 0, .int 0, .ref q_10, .ref q_11, .int 0, .ref q_12, .ref q_13, .int 0, .int 0, .int 0, .int 0, .int 0, .int 0, .int 0, .int 0, .ref q_14, .ref q_15, .ref q_16, .ref q_17, .ref q_18, .ref q_19, .ref q_20, .ref q_21, .null, .long 0])), (q_1, .inl (cy, 44, .inl (fun _ => 0))), (q_2, .inl (cy, 8, .inl (fun _ => 0))), (q_3, .inl (cy, 8, .inl (fun _ => 0))), (q_4, .inl (cy, 8, .inl (fun _ => 0))), (q_5, .inl (cy, 8, .inl (fun _ => 0))), (q_6, .inl (cy, 8, .inl (fun _ => 0))), (q_7, .inl (cy, 8, .inl (fun _ => 0))), (q_8, .inl (cy, 8, .inl (fun _ => 0))), (q_9, .inl (cy, 8, .inl (fun _ => 0))), (q_10, .inl (cy, 8, .inl (fun _ => 0))), (q_11, .inl (cy, 8, .inl (fun _ => 0))), (q_12, .inl (cy, 18, .inl (fun _ => 0))), (q_13, .inl (cy, 5, .inl (fun _ => 0))), (q_14, .inl (cy, 8, .inl (fun _ => 0))), (q_15, .inl (cy, 8, .inl (fun _ => 0))), (q_16, .inl (cy, 8, .inl (fun _ => 0))), (q_17, .inl (cy, 8, .inl (fun _ => 0))), (q_18, .inl (cy, 8, .inl (fun _ => 0))), (q_19, .inl (cy, 8, .inl (fun _ => 0))), (q_20, .inl (cy, 8, .inl (fun _ => 0))), (q_21, .inl (cy, 8, .inl (fun _ => 0))), (q_22, .inl (cy, 18, .inl (fun _ => 0)))] := hD
  refine va_putF (D := D) (ci := 12) (v := .ref q_22) (ty := (.array .int)) (C := RX12) (T := TX12) (N := 44) hx hb htb inX12 tyX12 tyX12_ok nmX12 hown hK hP hD hS 0 rfl rfl 42 (by decide) (htb _ tw_805) (fun _ h9 => h9) rfl hin rfl (by decide +kernel) rfl rfl (Nat.le_of_ble_eq_true rfl) dX12_init_176 (fun H locs hP hD hS => ?_)
  have hP : va_P D classes [(mo, .inr (12, [.ref q_1, .int 0, .int 0, .int 0, .int 0, .int 0, .int 0, .int 0, .ref q_2, .ref q_3, .ref q_4, .ref q_5, .int 0, .ref q_6, .ref q_7, .ref q_8, .ref q_9, .int 0, .int 0, .int 0, .int 0, .ref q_10, .ref q_11, .int 0, .ref q_12, .ref q_13, .int 0, .int 0, .int 0, .int 0, .int 0, .int 0, .int 0, .int 0, .ref q_14, .ref q_15, .ref q_16, .ref q_17, .ref q_18, .ref q_19, .ref q_20, .ref q_21, .ref q_22, .long 0])), (q_1, .inl (cy, 44, .inl (fun _ => 0))), (q_2, .inl (cy, 8, .inl (fun _ => 0))), (q_3, .inl (cy, 8, .inl (fun _ => 0))), (q_4, .inl (cy, 8, .inl (fun _ => 0))), (q_5, .inl (cy, 8, .inl (fun _ => 0))), (q_6, .inl (cy, 8, .inl (fun _ => 0))), (q_7, .inl (cy, 8, .inl (fun _ => 0))), (q_8, .inl (cy, 8, .inl (fun _ => 0))), (q_9, .inl (cy, 8, .inl (fun _ => 0))), (q_10, .inl (cy, 8, .inl (fun _ => 0))), (q_11, .inl (cy, 8, .inl (fun _ => 0))), (q_12, .inl (cy, 18, .inl (fun _ => 0))), (q_13, .inl (cy, 5, .inl (fun _ => 0))), (q_14, .inl (cy, 8, .inl (fun _ => 0))), (q_15, .inl (cy, 8, .inl (fun _ => 0))), (q_16, .inl (cy, 8, .inl (fun _ => 0))), (q_17, .inl (cy, 8, .inl (fun _ => 0))), (q_18, .inl (cy, 8, .inl (fun _ => 0))), (q_19, .inl (cy, 8, .inl (fun _ => 0))), (q_20, .inl (cy, 8, .inl (fun _ => 0))), (q_21, .inl (cy, 8, .inl (fun _ => 0))), (q_22, .inl (cy, 18, .inl (fun _ => 0)))] H := hP
  have hD : va_D A [(mo, .inr (12, [.ref q_1, .int 0, .int 0, .int 0, .int 0, .int 0, .int 0, .int 0, .ref q_2, .ref q_3, .ref q_4, .ref q_5, .int 0, .ref q_6, .ref q_7, .ref q_8, .ref q_9, .int 0, .int 0, .int 0, .int 0, .ref q_10, .ref q_11, .int 0, .ref q_12, .ref q_13, .int 0, .int 0, .int 0, .int 0, .int 0, .int 0, .int 0, .int 0, .ref q_14, .ref q_15, .ref q_16, .ref q_17, .ref q_18, .ref q_19, .ref q_20, .ref q_21, .ref q_22, .long 0])), (q_1, .inl (cy, 44, .inl (fun _ => 0))), (q_2, .inl (cy, 8, .inl (fun _ => 0))), (q_3, .inl (cy, 8, .inl (fun _ => 0))), (q_4, .inl (cy, 8, .inl (fun _ => 0))), (q_5, .inl (cy, 8, .inl (fun _ => 0))), (q_6, .inl (cy, 8, .inl (fun _ => 0))), (q_7, .inl (cy, 8, .inl (fun _ => 0))), (q_8, .inl (cy, 8, .inl (fun _ => 0))), (q_9, .inl (cy, 8, .inl (fun _ => 0))), (q_10, .inl (cy, 8, .inl (fun _ => 0))), (q_11, .inl (cy, 8, .inl (fun _ => 0))), (q_12, .inl (cy, 18, .inl (fun _ => 0))), (q_13, .inl (cy, 5, .inl (fun _ => 0))), (q_14, .inl (cy, 8, .inl (fun _ => 0))), (q_15, .inl (cy, 8, .inl (fun _ => 0))), (q_16, .inl (cy, 8, .inl (fun _ => 0))), (q_17, .inl (cy, 8, .inl (fun _ => 0))), (q_18, .inl (cy, 8, .inl (fun _ => 0))), (q_19, .inl (cy, 8, .inl (fun _ => 0))), (q_20, .inl (cy, 8, .inl (fun _ => 0))), (q_21, .inl (cy, 8, .inl (fun _ => 0))), (q_22, .inl (cy, 18, .inl (fun _ => 0)))] := hD
  refine lv_aload_n hx hb dX12_init_179 rfl (lv_at hl 0 rfl) ?_
  refine lv_iconst (v := (-1)) hx hb dX12_init_180 (by decide) ?_
  refine va_put (D := D) (ci := 12) (v := .int (-1)) (ty := .int) (C := RX12) (T := TX12) (N := 44) hx hb htb inX12 tyX12 tyX12_ok nmX12 hown hK hP hD hS 0 rfl rfl 27 (by decide) (htb _ tw_790) (fun _ h9 => h9) rfl (by decide +kernel) rfl rfl (Nat.le_of_ble_eq_true rfl) dX12_init_181 (fun H locs hP hD hS => ?_)
  have hP : va_P D classes [(mo, .inr (12, [.ref q_1, .int 0, .int 0, .int 0, .int 0, .int 0, .int 0, .int 0, .ref q_2, .ref q_3, .ref q_4, .ref q_5, .int 0, .ref q_6, .ref q_7, .ref q_8, .ref q_9, .int 0, .int 0, .int 0, .int 0, .ref q_10, .ref q_11, .int 0, .ref q_12, .ref q_13, .int 0, .int (-1), .int 0, .int 0, .int 0, .int 0, .int 0, .int 0, .ref q_14, .ref q_15, .ref q_16, .ref q_17, .ref q_18, .ref q_19, .ref q_20, .ref q_21, .ref q_22, .long 0])), (q_1, .inl (cy, 44, .inl (fun _ => 0))), (q_2, .inl (cy, 8, .inl (fun _ => 0))), (q_3, .inl (cy, 8, .inl (fun _ => 0))), (q_4, .inl (cy, 8, .inl (fun _ => 0))), (q_5, .inl (cy, 8, .inl (fun _ => 0))), (q_6, .inl (cy, 8, .inl (fun _ => 0))), (q_7, .inl (cy, 8, .inl (fun _ => 0))), (q_8, .inl (cy, 8, .inl (fun _ => 0))), (q_9, .inl (cy, 8, .inl (fun _ => 0))), (q_10, .inl (cy, 8, .inl (fun _ => 0))), (q_11, .inl (cy, 8, .inl (fun _ => 0))), (q_12, .inl (cy, 18, .inl (fun _ => 0))), (q_13, .inl (cy, 5, .inl (fun _ => 0))), (q_14, .inl (cy, 8, .inl (fun _ => 0))), (q_15, .inl (cy, 8, .inl (fun _ => 0))), (q_16, .inl (cy, 8, .inl (fun _ => 0))), (q_17, .inl (cy, 8, .inl (fun _ => 0))), (q_18, .inl (cy, 8, .inl (fun _ => 0))), (q_19, .inl (cy, 8, .inl (fun _ => 0))), (q_20, .inl (cy, 8, .inl (fun _ => 0))), (q_21, .inl (cy, 8, .inl (fun _ => 0))), (q_22, .inl (cy, 18, .inl (fun _ => 0)))] H := hP
  have hD : va_D A [(mo, .inr (12, [.ref q_1, .int 0, .int 0, .int 0, .int 0, .int 0, .int 0, .int 0, .ref q_2, .ref q_3, .ref q_4, .ref q_5, .int 0, .ref q_6, .ref q_7, .ref q_8, .ref q_9, .int 0, .int 0, .int 0, .int 0, .ref q_10, .ref q_11, .int 0, .ref q_12, .ref q_13, .int 0, .int (-1), .int 0, .int 0, .int 0, .int 0, .int 0, .int 0, .ref q_14, .ref q_15, .ref q_16, .ref q_17, .ref q_18, .ref q_19, .ref q_20, .ref q_21, .ref q_22, .long 0])), (q_1, .inl (cy, 44, .inl (fun _ => 0))), (q_2, .inl (cy, 8, .inl (fun _ => 0))), (q_3, .inl (cy, 8, .inl (fun _ => 0))), (q_4, .inl (cy, 8, .inl (fun _ => 0))), (q_5, .inl (cy, 8, .inl (fun _ => 0))), (q_6, .inl (cy, 8, .inl (fun _ => 0))), (q_7, .inl (cy, 8, .inl (fun _ => 0))), (q_8, .inl (cy, 8, .inl (fun _ => 0))), (q_9, .inl (cy, 8, .inl (fun _ => 0))), (q_10, .inl (cy, 8, .inl (fun _ => 0))), (q_11, .inl (cy, 8, .inl (fun _ => 0))), (q_12, .inl (cy, 18, .inl (fun _ => 0))), (q_13, .inl (cy, 5, .inl (fun _ => 0))), (q_14, .inl (cy, 8, .inl (fun _ => 0))), (q_15, .inl (cy, 8, .inl (fun _ => 0))), (q_16, .inl (cy, 8, .inl (fun _ => 0))), (q_17, .inl (cy, 8, .inl (fun _ => 0))), (q_18, .inl (cy, 8, .inl (fun _ => 0))), (q_19, .inl (cy, 8, .inl (fun _ => 0))), (q_20, .inl (cy, 8, .inl (fun _ => 0))), (q_21, .inl (cy, 8, .inl (fun _ => 0))), (q_22, .inl (cy, 18, .inl (fun _ => 0)))] := hD
  refine W.widen (k := 22) (n := 229) (by decide) (by decide) ?_
  exact wk_vret (fun i => [q_1, q_2, q_3, q_4, q_5, q_6, q_7, q_8, q_9, q_10, q_11, q_12, q_13, q_14, q_15, q_16, q_17, q_18, q_19, q_20, q_21, q_22].getD i 0) hx hb hr hlocks trivial hK hP hD hS [0, 1, 2, 3, 4, 5, 6, 7, 8, 9, 10, 11, 12, 13, 14, 15, 16, 17, 18, 19, 20, 21, 22] rfl rfl dX12_init_184
end
section
theorem dX6_add_0 : decode cX6_add 0 = .ok (.aload_n 0, 1) := by decide +kernel
theorem dX6_add_1 : decode cX6_add 1 = .ok (.getfield 15, 3) := by decide +kernel
theorem dX6_add_4 : decode cX6_add 4 = .ok (.bipush 44, 2) := by decide +kernel
theorem dX6_add_6 : decode cX6_add 6 = .ok (.if_icmp .ge 23, 3) := by decide +kernel
theorem dX6_add_9 : decode cX6_add 9 = .ok (.aload_n 0, 1) := by decide +kernel
theorem dX6_add_10 : decode cX6_add 10 = .ok (.getfield 9, 3) := by decide +kernel
theorem dX6_add_13 : decode cX6_add 13 = .ok (.aload_n 0, 1) := by decide +kernel
theorem dX6_add_14 : decode cX6_add 14 = .ok (.getfield 15, 3) := by decide +kernel
theorem dX6_add_17 : decode cX6_add 17 = .ok (.iload_n 1, 1) := by decide +kernel
theorem dX6_add_18 : decode cX6_add 18 = .ok (.iastore, 1) := by decide +kernel
theorem dX6_add_19 : decode cX6_add 19 = .ok (.aload_n 0, 1) := by decide +kernel
theorem dX6_add_20 : decode cX6_add 20 = .ok (.dup, 1) := by decide +kernel
theorem dX6_add_21 : decode cX6_add 21 = .ok (.getfield 15, 3) := by decide +kernel
theorem dX6_add_24 : decode cX6_add 24 = .ok (.iconst 1, 1) := by decide +kernel
theorem dX6_add_25 : decode cX6_add 25 = .ok (.iadd, 1) := by decide +kernel
theorem dX6_add_26 : decode cX6_add 26 = .ok (.putfield 15, 3) := by decide +kernel
theorem dX6_add_29 : decode cX6_add 29 = .ok (.aload_n 0, 1) := by decide +kernel
theorem dX6_add_30 : decode cX6_add 30 = .ok (.getfield 15, 3) := by decide +kernel
theorem dX6_add_33 : decode cX6_add 33 = .ok (.ireturn, 1) := by decide +kernel
set_option maxHeartbeats 4000000 in
set_option maxRecDepth 100000 in
theorem c_X6_add (l : Launch) (D : va_G) (cy : ClassId) (pg pgc : Nat) (a : Int32) : wk_Ci l yX6_add cX6_add 2 (some .int) { frames := 0, cells := 0, slots := 0, locals := 0 } D cy [.ref pg, .int a] [(pg, .inr (6, [.ref pgc, .int 0])), (pgc, .inl (cy, 44, .inl (fun _ => 0)))] 0 0 (fun (r : Int32) (u : Unit) => r = 1) (fun u => []) := by
  refine wk_mkCi (by decide) (Nat.le_of_ble_eq_true rfl) ?_
  intro p e s m below meth c A ls B hA hK hP hD hS hl
  obtain ⟨hx, hb, hr, hlocks, hml, hown, htb, hin⟩ := B
  have hl : lv_has ls 2 [(0, .ref pg), (1, .int a)] := hl
  refine lv_aload_n hx hb dX6_add_0 rfl (lv_at hl 0 rfl) ?_
  refine va_get (D := D) (ci := 6) (v := .int 0) (C := RX6) (T := TX6) (N := 2) hx hb htb inX6 hown hK hP 0 rfl rfl 1 (by decide) (htb _ tw_94) (fun _ h9 => h9) rfl dX6_add_1 ?_
  refine lv_bipush (v := 44) hx hb dX6_add_4 (by decide) ?_
  refine lv_icmp_ge (tgt := 29) hx hb dX6_add_6 (by decide) (fun c_1 => absurd c_1 (by decide)) (fun _ => ?_)
  refine lv_aload_n hx hb dX6_add_9 rfl (lv_at hl 0 rfl) ?_
  refine va_get (D := D) (ci := 6) (v := .ref pgc) (C := RX6) (T := TX6) (N := 2) hx hb htb inX6 hown hK hP 0 rfl rfl 0 (by decide) (htb _ tw_92) (fun _ h9 => h9) rfl dX6_add_10 ?_
  refine lv_aload_n hx hb dX6_add_13 rfl (lv_at hl 0 rfl) ?_
  refine va_get (D := D) (ci := 6) (v := .int 0) (C := RX6) (T := TX6) (N := 2) hx hb htb inX6 hown hK hP 0 rfl rfl 1 (by decide) (htb _ tw_94) (fun _ h9 => h9) rfl dX6_add_14 ?_
  refine lv_iload_n hx hb dX6_add_17 rfl (lv_at hl 1 rfl) ?_
  refine va_iast hx hb hK hP hD hS 1 0 rfl rfl (show vp_in 0 44 by unfold vp_in; decide) dX6_add_18 (fun H locs hP hD hS => ?_)
  have hP : va_P D classes [(pg, .inr (6, [.ref pgc, .int 0])), (pgc, .inl (cy, 44, .inl (upd (fun _ => 0) (0 : Int32).toNatClampNeg a)))] H := hP
  have hD : va_D A [(pg, .inr (6, [.ref pgc, .int 0])), (pgc, .inl (cy, 44, .inl (upd (fun _ => 0) (0 : Int32).toNatClampNeg a)))] := hD
  refine lv_aload_n hx hb dX6_add_19 rfl (lv_at hl 0 rfl) ?_
  refine lv_dup hx hb dX6_add_20 rfl ?_
  refine va_get (D := D) (ci := 6) (v := .int 0) (C := RX6) (T := TX6) (N := 2) hx hb htb inX6 hown hK hP 0 rfl rfl 1 (by decide) (htb _ tw_94) (fun _ h9 => h9) rfl dX6_add_21 ?_
  refine lv_iconst (v := 1) hx hb dX6_add_24 (by decide) ?_
  refine lv_iadd hx hb dX6_add_25 ?_
  refine wk_toi (show ((0 + 1) : Int32) = 1 by decide) ?_
  refine va_put (D := D) (ci := 6) (v := .int 1) (ty := .int) (C := RX6) (T := TX6) (N := 2) hx hb htb inX6 tyX6 tyX6_ok nmX6 hown hK hP hD hS 0 rfl rfl 1 (by decide) (htb _ tw_94) (fun _ h9 => h9) rfl (by decide +kernel) rfl rfl (Nat.le_of_ble_eq_true rfl) dX6_add_26 (fun H locs hP hD hS => ?_)
  have hP : va_P D classes [(pg, .inr (6, [.ref pgc, .int 1])), (pgc, .inl (cy, 44, .inl (upd (fun _ => 0) (0 : Int32).toNatClampNeg a)))] H := hP
  have hD : va_D A [(pg, .inr (6, [.ref pgc, .int 1])), (pgc, .inl (cy, 44, .inl (upd (fun _ => 0) (0 : Int32).toNatClampNeg a)))] := hD
  refine lv_aload_n hx hb dX6_add_29 rfl (lv_at hl 0 rfl) ?_
  refine va_get (D := D) (ci := 6) (v := .int 1) (C := RX6) (T := TX6) (N := 2) hx hb htb inX6 hown hK hP 0 rfl rfl 1 (by decide) (htb _ tw_94) (fun _ h9 => h9) rfl dX6_add_30 ?_
  refine W.widen (k := 0) (n := 0) (by decide) (by decide) ?_
  exact wk_iret () hx hb hr hlocks rfl hK hP hD hS [] rfl rfl dX6_add_33
theorem dX6_clear_0 : decode cX6_clear 0 = .ok (.aload_n 0, 1) := by decide +kernel
theorem dX6_clear_1 : decode cX6_clear 1 = .ok (.getfield 15, 3) := by decide +kernel
theorem dX6_clear_4 : decode cX6_clear 4 = .ok (.istore_n 1, 1) := by decide +kernel
theorem dX6_clear_5 : decode cX6_clear 5 = .ok (.aload_n 0, 1) := by decide +kernel
theorem dX6_clear_6 : decode cX6_clear 6 = .ok (.iconst 0, 1) := by decide +kernel
theorem dX6_clear_7 : decode cX6_clear 7 = .ok (.putfield 15, 3) := by decide +kernel
theorem dX6_clear_10 : decode cX6_clear 10 = .ok (.iload_n 1, 1) := by decide +kernel
theorem dX6_clear_11 : decode cX6_clear 11 = .ok (.ireturn, 1) := by decide +kernel
set_option maxHeartbeats 4000000 in
set_option maxRecDepth 100000 in
theorem c_X6_clear (l : Launch) (D : va_G) (cy : ClassId) (pg pgc : Nat) : wk_Ci l yX6_clear cX6_clear 2 (some .int) { frames := 0, cells := 0, slots := 0, locals := 0 } D cy [.ref pg] [(pg, .inr (6, [.ref pgc, .int 0]))] 0 0 (fun (r : Int32) (u : Unit) => r = 0) (fun u => []) := by
  refine wk_mkCi (by decide) (Nat.le_of_ble_eq_true rfl) ?_
  intro p e s m below meth c A ls B hA hK hP hD hS hl
  obtain ⟨hx, hb, hr, hlocks, hml, hown, htb, hin⟩ := B
  have hl : lv_has ls 2 [(0, .ref pg)] := hl
  refine lv_aload_n hx hb dX6_clear_0 rfl (lv_at hl 0 rfl) ?_
  refine va_get (D := D) (ci := 6) (v := .int 0) (C := RX6) (T := TX6) (N := 2) hx hb htb inX6 hown hK hP 0 rfl rfl 1 (by decide) (htb _ tw_94) (fun _ h9 => h9) rfl dX6_clear_1 ?_
  refine lv_istore_n (lv' := [(1, .int 0), (0, .ref pg)]) hx hb dX6_clear_4 rfl hl (by decide) rfl (fun ls hl => ?_)
  refine lv_aload_n hx hb dX6_clear_5 rfl (lv_at hl 1 rfl) ?_
  refine lv_iconst (v := 0) hx hb dX6_clear_6 (by decide) ?_
  refine va_put (D := D) (ci := 6) (v := .int 0) (ty := .int) (C := RX6) (T := TX6) (N := 2) hx hb htb inX6 tyX6 tyX6_ok nmX6 hown hK hP hD hS 0 rfl rfl 1 (by decide) (htb _ tw_94) (fun _ h9 => h9) rfl (by decide +kernel) rfl rfl (Nat.le_of_ble_eq_true rfl) dX6_clear_7 (fun H locs hP hD hS => ?_)
  have hP : va_P D classes [(pg, .inr (6, [.ref pgc, .int 0]))] H := hP
  have hD : va_D A [(pg, .inr (6, [.ref pgc, .int 0]))] := hD
  refine lv_iload_n hx hb dX6_clear_10 rfl (lv_at hl 0 rfl) ?_
  refine W.widen (k := 0) (n := 0) (by decide) (by decide) ?_
  exact wk_iret () hx hb hr hlocks rfl hK hP hD hS [] rfl rfl dX6_clear_11
theorem dX6_signsOfKey_0 : decode cX6_signsOfKey 0 = .ok (.aload_n 0, 1) := by decide +kernel
theorem dX6_signsOfKey_1 : decode cX6_signsOfKey 1 = .ok (.getfield 15, 3) := by decide +kernel
theorem dX6_signsOfKey_4 : decode cX6_signsOfKey 4 = .ok (.ifCond .le 12, 3) := by decide +kernel
theorem dX6_signsOfKey_16 : decode cX6_signsOfKey 16 = .ok (.iconst 0, 1) := by decide +kernel
theorem dX6_signsOfKey_17 : decode cX6_signsOfKey 17 = .ok (.lookupswitch 55 #[(100, 53), (101, 53), (104, 53), (115, 53), (116, 51)], 51) := by decide +kernel
theorem dX6_signsOfKey_72 : decode cX6_signsOfKey 72 = .ok (.iconst (-1), 1) := by decide +kernel
theorem dX6_signsOfKey_73 : decode cX6_signsOfKey 73 = .ok (.ireturn, 1) := by decide +kernel
set_option maxHeartbeats 4000000 in
set_option maxRecDepth 100000 in
theorem c_X6_signsOfKey (l : Launch) (D : va_G) (cy : ClassId) (pg pgc : Nat) : wk_Ci l yX6_signsOfKey cX6_signsOfKey 1 (some .int) { frames := 0, cells := 0, slots := 0, locals := 0 } D cy [.ref pg] [(pg, .inr (6, [.ref pgc, .int 0]))] 0 0 (fun (r : Int32) (u : Unit) => r = (-1)) (fun u => [(pg, .inr (6, [.ref pgc, .int 0]))]) := by
  refine wk_mkCi (by decide) (Nat.le_of_ble_eq_true rfl) ?_
  intro p e s m below meth c A ls B hA hK hP hD hS hl
  obtain ⟨hx, hb, hr, hlocks, hml, hown, htb, hin⟩ := B
  have hl : lv_has ls 1 [(0, .ref pg)] := hl
  refine lv_aload_n hx hb dX6_signsOfKey_0 rfl (lv_at hl 0 rfl) ?_
  refine va_get (D := D) (ci := 6) (v := .int 0) (C := RX6) (T := TX6) (N := 2) hx hb htb inX6 hown hK hP 0 rfl rfl 1 (by decide) (htb _ tw_94) (fun _ h9 => h9) rfl dX6_signsOfKey_1 ?_
  refine lv_if_le (tgt := 16) hx hb dX6_signsOfKey_4 (by decide) (fun _ => ?_) (fun c_1 => absurd (by decide) c_1)
  refine lv_iconst (v := 0) hx hb dX6_signsOfKey_16 (by decide) ?_
  refine lv_lookup (off := 55) (tgt := 72) hx hb dX6_signsOfKey_17 (by decide) (by decide) (by decide) ?_
  refine lv_iconst (v := (-1)) hx hb dX6_signsOfKey_72 (by decide) ?_
  refine W.widen (k := 0) (n := 0) (by decide) (by decide) ?_
  exact wk_iret () hx hb hr hlocks rfl hK hP hD hS [0] rfl rfl dX6_signsOfKey_73
theorem dX6_firstFault_0 : decode cX6_firstFault 0 = .ok (.aload_n 0, 1) := by decide +kernel
theorem dX6_firstFault_1 : decode cX6_firstFault 1 = .ok (.invokevirtual 49, 3) := by decide +kernel
theorem dX6_firstFault_4 : decode cX6_firstFault 4 = .ok (.istore_n 1, 1) := by decide +kernel
theorem dX6_firstFault_5 : decode cX6_firstFault 5 = .ok (.iload_n 1, 1) := by decide +kernel
theorem dX6_firstFault_6 : decode cX6_firstFault 6 = .ok (.iconst (-1), 1) := by decide +kernel
theorem dX6_firstFault_7 : decode cX6_firstFault 7 = .ok (.if_icmp .ne 5, 3) := by decide +kernel
theorem dX6_firstFault_10 : decode cX6_firstFault 10 = .ok (.iconst 0, 1) := by decide +kernel
theorem dX6_firstFault_11 : decode cX6_firstFault 11 = .ok (.ireturn, 1) := by decide +kernel
set_option maxHeartbeats 4000000 in
set_option maxRecDepth 100000 in
theorem c_X6_firstFault (l : Launch) (D : va_G) (cy : ClassId) (pg pgc : Nat) : wk_Ci l yX6_firstFault cX6_firstFault 5 (some .int) { frames := 1, cells := 0, slots := 0, locals := 20 } D cy [.ref pg] [(pg, .inr (6, [.ref pgc, .int 0]))] 0 0 (fun (r : Int32) (u : Unit) => r = 0) (fun u => [(pg, .inr (6, [.ref pgc, .int 0]))]) := by
  refine wk_mkCi (by decide) (Nat.le_of_ble_eq_true rfl) ?_
  intro p e s m below meth c A ls B hA hK hP hD hS hl
  obtain ⟨hx, hb, hr, hlocks, hml, hown, htb, hin⟩ := B
  have hl : lv_has ls 5 [(0, .ref pg)] := hl
  refine lv_aload_n hx hb dX6_firstFault_0 rfl (lv_at hl 0 rfl) ?_
  refine wk_iV (As := []) (rest := []) (wc := [(pg, .inr (6, [.ref pgc, .int 0]))]) (wr := []) (n := 0) (R := _) ⟨hx, hb, hml, hown, htb⟩ (c_X6_signsOfKey l D cy pg pgc  ) tw_310 tw_307 tw_309 tw_0 tw_65 rfl rfl (by decide +kernel) ⟨Nat.le_of_ble_eq_true rfl, Nat.le_of_ble_eq_true rfl⟩ hK hP hD hS hA [0] [] rfl rfl rfl rfl (by decide) 0 (ci := 6) rfl rfl rfl hl.1 rfl (Nat.le_of_ble_eq_true rfl) dX6_firstFault_1 ⟨Nat.le_of_ble_eq_true rfl, Nat.le_of_ble_eq_true rfl⟩ (fun r_1 u_2 H locs hw_3 hP hD hS => ?_)
  refine W.widen (k := 0) (n := 0) (by decide) (by decide) ?_
  have hw_3 : r_1 = (-1) := hw_3
  subst hw_3
  have hP : va_P D classes [(pg, .inr (6, [.ref pgc, .int 0]))] H := hP
  have hD : va_D A [(pg, .inr (6, [.ref pgc, .int 0]))] := hD
  refine lv_istore_n (lv' := [(1, .int (-1)), (0, .ref pg)]) hx hb dX6_firstFault_4 rfl hl (by decide) rfl (fun ls hl => ?_)
  refine lv_iload_n hx hb dX6_firstFault_5 rfl (lv_at hl 0 rfl) ?_
  refine lv_iconst (v := (-1)) hx hb dX6_firstFault_6 (by decide) ?_
  refine lv_icmp_ne (tgt := 12) hx hb dX6_firstFault_7 (by decide) (fun c_4 => absurd (by decide) c_4) (fun _ => ?_)
  refine lv_iconst (v := 0) hx hb dX6_firstFault_10 (by decide) ?_
  refine W.widen (k := 0) (n := 0) (by decide) (by decide) ?_
  exact wk_iret () hx hb hr hlocks rfl hK hP hD hS [0] rfl rfl dX6_firstFault_11
theorem dX6_keysTold_0 : decode cX6_keysTold 0 = .ok (.aload_n 0, 1) := by decide +kernel
theorem dX6_keysTold_1 : decode cX6_keysTold 1 = .ok (.invokevirtual 49, 3) := by decide +kernel
theorem dX6_keysTold_4 : decode cX6_keysTold 4 = .ok (.istore_n 1, 1) := by decide +kernel
theorem dX6_keysTold_5 : decode cX6_keysTold 5 = .ok (.iload_n 1, 1) := by decide +kernel
theorem dX6_keysTold_6 : decode cX6_keysTold 6 = .ok (.iconst (-1), 1) := by decide +kernel
theorem dX6_keysTold_7 : decode cX6_keysTold 7 = .ok (.if_icmp .eq 14, 3) := by decide +kernel
theorem dX6_keysTold_21 : decode cX6_keysTold 21 = .ok (.iconst (-1), 1) := by decide +kernel
theorem dX6_keysTold_22 : decode cX6_keysTold 22 = .ok (.ireturn, 1) := by decide +kernel
set_option maxHeartbeats 4000000 in
set_option maxRecDepth 100000 in
theorem c_X6_keysTold (l : Launch) (D : va_G) (cy : ClassId) (pg pgc : Nat) : wk_Ci l yX6_keysTold cX6_keysTold 3 (some .int) { frames := 1, cells := 0, slots := 0, locals := 20 } D cy [.ref pg] [(pg, .inr (6, [.ref pgc, .int 0]))] 0 0 (fun (r : Int32) (u : Unit) => r = (-1)) (fun u => [(pg, .inr (6, [.ref pgc, .int 0]))]) := by
  refine wk_mkCi (by decide) (Nat.le_of_ble_eq_true rfl) ?_
  intro p e s m below meth c A ls B hA hK hP hD hS hl
  obtain ⟨hx, hb, hr, hlocks, hml, hown, htb, hin⟩ := B
  have hl : lv_has ls 3 [(0, .ref pg)] := hl
  refine lv_aload_n hx hb dX6_keysTold_0 rfl (lv_at hl 0 rfl) ?_
  refine wk_iV (As := []) (rest := []) (wc := [(pg, .inr (6, [.ref pgc, .int 0]))]) (wr := []) (n := 0) (R := _) ⟨hx, hb, hml, hown, htb⟩ (c_X6_signsOfKey l D cy pg pgc  ) tw_310 tw_307 tw_309 tw_0 tw_65 rfl rfl (by decide +kernel) ⟨Nat.le_of_ble_eq_true rfl, Nat.le_of_ble_eq_true rfl⟩ hK hP hD hS hA [0] [] rfl rfl rfl rfl (by decide) 0 (ci := 6) rfl rfl rfl hl.1 rfl (Nat.le_of_ble_eq_true rfl) dX6_keysTold_1 ⟨Nat.le_of_ble_eq_true rfl, Nat.le_of_ble_eq_true rfl⟩ (fun r_1 u_2 H locs hw_3 hP hD hS => ?_)
  refine W.widen (k := 0) (n := 0) (by decide) (by decide) ?_
  have hw_3 : r_1 = (-1) := hw_3
  subst hw_3
  have hP : va_P D classes [(pg, .inr (6, [.ref pgc, .int 0]))] H := hP
  have hD : va_D A [(pg, .inr (6, [.ref pgc, .int 0]))] := hD
  refine lv_istore_n (lv' := [(1, .int (-1)), (0, .ref pg)]) hx hb dX6_keysTold_4 rfl hl (by decide) rfl (fun ls hl => ?_)
  refine lv_iload_n hx hb dX6_keysTold_5 rfl (lv_at hl 0 rfl) ?_
  refine lv_iconst (v := (-1)) hx hb dX6_keysTold_6 (by decide) ?_
  refine lv_icmp_eq (tgt := 21) hx hb dX6_keysTold_7 (by decide) (fun _ => ?_) (fun c_4 => absurd (by decide) c_4)
  refine lv_iconst (v := (-1)) hx hb dX6_keysTold_21 (by decide) ?_
  refine W.widen (k := 0) (n := 0) (by decide) (by decide) ?_
  exact wk_iret () hx hb hr hlocks rfl hK hP hD hS [0] rfl rfl dX6_keysTold_22
theorem dX8_firstNotLess_0 : decode cX8_firstNotLess 0 = .ok (.iconst 0, 1) := by decide +kernel
theorem dX8_firstNotLess_1 : decode cX8_firstNotLess 1 = .ok (.istore_n 2, 1) := by decide +kernel
theorem dX8_firstNotLess_2 : decode cX8_firstNotLess 2 = .ok (.iload_n 2, 1) := by decide +kernel
theorem dX8_firstNotLess_3 : decode cX8_firstNotLess 3 = .ok (.aload_n 0, 1) := by decide +kernel
theorem dX8_firstNotLess_4 : decode cX8_firstNotLess 4 = .ok (.getfield 24, 3) := by decide +kernel
theorem dX8_firstNotLess_7 : decode cX8_firstNotLess 7 = .ok (.if_icmp .ge 19, 3) := by decide +kernel
theorem dX8_firstNotLess_26 : decode cX8_firstNotLess 26 = .ok (.iload_n 2, 1) := by decide +kernel
theorem dX8_firstNotLess_27 : decode cX8_firstNotLess 27 = .ok (.ireturn, 1) := by decide +kernel
set_option maxHeartbeats 4000000 in
set_option maxRecDepth 100000 in
theorem c_X8_firstNotLess (l : Launch) (D : va_G) (cy : ClassId) (nwf nwfk nwfv nwfh nwft : Nat) (a : Int32) : wk_Ci l yX8_firstNotLess cX8_firstNotLess 3 (some .int) { frames := 0, cells := 0, slots := 0, locals := 0 } D cy [.ref nwf, .int a] [(nwf, .inr (8, [.ref nwfk, .ref nwfv, .ref nwfh, .ref nwft, .int 0]))] 0 0 (fun (r : Int32) (u : Unit) => r = 0) (fun u => [(nwf, .inr (8, [.ref nwfk, .ref nwfv, .ref nwfh, .ref nwft, .int 0]))]) := by
  refine wk_mkCi (by decide) (Nat.le_of_ble_eq_true rfl) ?_
  intro p e s m below meth c A ls B hA hK hP hD hS hl
  obtain ⟨hx, hb, hr, hlocks, hml, hown, htb, hin⟩ := B
  have hl : lv_has ls 3 [(0, .ref nwf), (1, .int a)] := hl
  refine lv_iconst (v := 0) hx hb dX8_firstNotLess_0 (by decide) ?_
  refine lv_istore_n (lv' := [(2, .int 0), (0, .ref nwf), (1, .int a)]) hx hb dX8_firstNotLess_1 rfl hl (by decide) rfl (fun ls hl => ?_)
  refine lv_iload_n hx hb dX8_firstNotLess_2 rfl (lv_at hl 0 rfl) ?_
  refine lv_aload_n hx hb dX8_firstNotLess_3 rfl (lv_at hl 1 rfl) ?_
  refine va_get (D := D) (ci := 8) (v := .int 0) (C := RX8) (T := TX8) (N := 5) hx hb htb inX8 hown hK hP 0 rfl rfl 4 (by decide) (htb _ tw_129) (fun _ h9 => h9) rfl dX8_firstNotLess_4 ?_
  refine lv_icmp_ge (tgt := 26) hx hb dX8_firstNotLess_7 (by decide) (fun _ => ?_) (fun c_1 => absurd (by decide) c_1)
  refine lv_iload_n hx hb dX8_firstNotLess_26 rfl (lv_at hl 0 rfl) ?_
  refine W.widen (k := 0) (n := 0) (by decide) (by decide) ?_
  exact wk_iret () hx hb hr hlocks rfl hK hP hD hS [0] rfl rfl dX8_firstNotLess_27
theorem dX8_numberOf_0 : decode cX8_numberOf 0 = .ok (.aload_n 0, 1) := by decide +kernel
theorem dX8_numberOf_1 : decode cX8_numberOf 1 = .ok (.iload_n 1, 1) := by decide +kernel
theorem dX8_numberOf_2 : decode cX8_numberOf 2 = .ok (.invokevirtual 36, 3) := by decide +kernel
theorem dX8_numberOf_5 : decode cX8_numberOf 5 = .ok (.istore_n 2, 1) := by decide +kernel
theorem dX8_numberOf_6 : decode cX8_numberOf 6 = .ok (.iload_n 2, 1) := by decide +kernel
theorem dX8_numberOf_7 : decode cX8_numberOf 7 = .ok (.aload_n 0, 1) := by decide +kernel
theorem dX8_numberOf_8 : decode cX8_numberOf 8 = .ok (.getfield 24, 3) := by decide +kernel
theorem dX8_numberOf_11 : decode cX8_numberOf 11 = .ok (.if_icmp .ge 17, 3) := by decide +kernel
theorem dX8_numberOf_28 : decode cX8_numberOf 28 = .ok (.iconst (-1), 1) := by decide +kernel
theorem dX8_numberOf_29 : decode cX8_numberOf 29 = .ok (.ireturn, 1) := by decide +kernel
set_option maxHeartbeats 4000000 in
set_option maxRecDepth 100000 in
theorem c_X8_numberOf (l : Launch) (D : va_G) (cy : ClassId) (nwf nwfk nwfv nwfh nwft : Nat) (a : Int32) : wk_Ci l yX8_numberOf cX8_numberOf 3 (some .int) { frames := 1, cells := 0, slots := 0, locals := 22 } D cy [.ref nwf, .int a] [(nwf, .inr (8, [.ref nwfk, .ref nwfv, .ref nwfh, .ref nwft, .int 0]))] 0 0 (fun (r : Int32) (u : Unit) => r = (-1)) (fun u => [(nwf, .inr (8, [.ref nwfk, .ref nwfv, .ref nwfh, .ref nwft, .int 0]))]) := by
  refine wk_mkCi (by decide) (Nat.le_of_ble_eq_true rfl) ?_
  intro p e s m below meth c A ls B hA hK hP hD hS hl
  obtain ⟨hx, hb, hr, hlocks, hml, hown, htb, hin⟩ := B
  have hl : lv_has ls 3 [(0, .ref nwf), (1, .int a)] := hl
  refine lv_aload_n hx hb dX8_numberOf_0 rfl (lv_at hl 0 rfl) ?_
  refine lv_iload_n hx hb dX8_numberOf_1 rfl (lv_at hl 1 rfl) ?_
  refine wk_iV (As := [.int a]) (rest := []) (wc := [(nwf, .inr (8, [.ref nwfk, .ref nwfv, .ref nwfh, .ref nwft, .int 0]))]) (wr := []) (n := 1) (R := _) ⟨hx, hb, hml, hown, htb⟩ (c_X8_firstNotLess l D cy nwf nwfk nwfv nwfh nwft a ) tw_595 tw_609 tw_593 tw_594 tw_67 rfl rfl (by decide +kernel) ⟨Nat.le_of_ble_eq_true rfl, Nat.le_of_ble_eq_true rfl⟩ hK hP hD hS hA [0] [] rfl rfl rfl rfl (by decide) 0 (ci := 8) rfl rfl rfl hl.1 rfl (Nat.le_of_ble_eq_true rfl) dX8_numberOf_2 ⟨Nat.le_of_ble_eq_true rfl, Nat.le_of_ble_eq_true rfl⟩ (fun r_1 u_2 H locs hw_3 hP hD hS => ?_)
  refine W.widen (k := 0) (n := 0) (by decide) (by decide) ?_
  have hw_3 : r_1 = 0 := hw_3
  subst hw_3
  have hP : va_P D classes [(nwf, .inr (8, [.ref nwfk, .ref nwfv, .ref nwfh, .ref nwft, .int 0]))] H := hP
  have hD : va_D A [(nwf, .inr (8, [.ref nwfk, .ref nwfv, .ref nwfh, .ref nwft, .int 0]))] := hD
  refine lv_istore_n (lv' := [(2, .int 0), (0, .ref nwf), (1, .int a)]) hx hb dX8_numberOf_5 rfl hl (by decide) rfl (fun ls hl => ?_)
  refine lv_iload_n hx hb dX8_numberOf_6 rfl (lv_at hl 0 rfl) ?_
  refine lv_aload_n hx hb dX8_numberOf_7 rfl (lv_at hl 1 rfl) ?_
  refine va_get (D := D) (ci := 8) (v := .int 0) (C := RX8) (T := TX8) (N := 5) hx hb htb inX8 hown hK hP 0 rfl rfl 4 (by decide) (htb _ tw_129) (fun _ h9 => h9) rfl dX8_numberOf_8 ?_
  refine lv_icmp_ge (tgt := 28) hx hb dX8_numberOf_11 (by decide) (fun _ => ?_) (fun c_4 => absurd (by decide) c_4)
  refine lv_iconst (v := (-1)) hx hb dX8_numberOf_28 (by decide) ?_
  refine W.widen (k := 0) (n := 0) (by decide) (by decide) ?_
  exact wk_iret () hx hb hr hlocks rfl hK hP hD hS [0] rfl rfl dX8_numberOf_29
theorem dX8_highestOf_0 : decode cX8_highestOf 0 = .ok (.iconst 0, 1) := by decide +kernel
theorem dX8_highestOf_1 : decode cX8_highestOf 1 = .ok (.istore_n 2, 1) := by decide +kernel
theorem dX8_highestOf_2 : decode cX8_highestOf 2 = .ok (.iconst 0, 1) := by decide +kernel
theorem dX8_highestOf_3 : decode cX8_highestOf 3 = .ok (.istore_n 3, 1) := by decide +kernel
theorem dX8_highestOf_4 : decode cX8_highestOf 4 = .ok (.iload_n 3, 1) := by decide +kernel
theorem dX8_highestOf_5 : decode cX8_highestOf 5 = .ok (.aload_n 0, 1) := by decide +kernel
theorem dX8_highestOf_6 : decode cX8_highestOf 6 = .ok (.getfield 24, 3) := by decide +kernel
theorem dX8_highestOf_9 : decode cX8_highestOf 9 = .ok (.if_icmp .ge 17, 3) := by decide +kernel
theorem dX8_highestOf_26 : decode cX8_highestOf 26 = .ok (.iload_n 2, 1) := by decide +kernel
theorem dX8_highestOf_27 : decode cX8_highestOf 27 = .ok (.ireturn, 1) := by decide +kernel
set_option maxHeartbeats 4000000 in
set_option maxRecDepth 100000 in
theorem c_X8_highestOf (l : Launch) (D : va_G) (cy : ClassId) (nwf nwfk nwfv nwfh nwft : Nat) : wk_Ci l yX8_highestOf cX8_highestOf 4 (some .int) { frames := 0, cells := 0, slots := 0, locals := 0 } D cy [.ref nwf, .ref nwfh] [(nwf, .inr (8, [.ref nwfk, .ref nwfv, .ref nwfh, .ref nwft, .int 0]))] 0 0 (fun (r : Int32) (u : Unit) => r = 0) (fun u => [(nwf, .inr (8, [.ref nwfk, .ref nwfv, .ref nwfh, .ref nwft, .int 0]))]) := by
  refine wk_mkCi (by decide) (Nat.le_of_ble_eq_true rfl) ?_
  intro p e s m below meth c A ls B hA hK hP hD hS hl
  obtain ⟨hx, hb, hr, hlocks, hml, hown, htb, hin⟩ := B
  have hl : lv_has ls 4 [(0, .ref nwf), (1, .ref nwfh)] := hl
  refine lv_iconst (v := 0) hx hb dX8_highestOf_0 (by decide) ?_
  refine lv_istore_n (lv' := [(2, .int 0), (0, .ref nwf), (1, .ref nwfh)]) hx hb dX8_highestOf_1 rfl hl (by decide) rfl (fun ls hl => ?_)
  refine lv_iconst (v := 0) hx hb dX8_highestOf_2 (by decide) ?_
  refine lv_istore_n (lv' := [(3, .int 0), (2, .int 0), (0, .ref nwf), (1, .ref nwfh)]) hx hb dX8_highestOf_3 rfl hl (by decide) rfl (fun ls hl => ?_)
  refine lv_iload_n hx hb dX8_highestOf_4 rfl (lv_at hl 0 rfl) ?_
  refine lv_aload_n hx hb dX8_highestOf_5 rfl (lv_at hl 2 rfl) ?_
  refine va_get (D := D) (ci := 8) (v := .int 0) (C := RX8) (T := TX8) (N := 5) hx hb htb inX8 hown hK hP 0 rfl rfl 4 (by decide) (htb _ tw_129) (fun _ h9 => h9) rfl dX8_highestOf_6 ?_
  refine lv_icmp_ge (tgt := 26) hx hb dX8_highestOf_9 (by decide) (fun _ => ?_) (fun c_1 => absurd (by decide) c_1)
  refine lv_iload_n hx hb dX8_highestOf_26 rfl (lv_at hl 1 rfl) ?_
  refine W.widen (k := 0) (n := 0) (by decide) (by decide) ?_
  exact wk_iret () hx hb hr hlocks rfl hK hP hD hS [0] rfl rfl dX8_highestOf_27
theorem dX8_linksOf_0 : decode cX8_linksOf 0 = .ok (.iconst 0, 1) := by decide +kernel
theorem dX8_linksOf_1 : decode cX8_linksOf 1 = .ok (.istore_n 2, 1) := by decide +kernel
theorem dX8_linksOf_2 : decode cX8_linksOf 2 = .ok (.iconst 0, 1) := by decide +kernel
theorem dX8_linksOf_3 : decode cX8_linksOf 3 = .ok (.istore_n 3, 1) := by decide +kernel
theorem dX8_linksOf_4 : decode cX8_linksOf 4 = .ok (.iload_n 3, 1) := by decide +kernel
theorem dX8_linksOf_5 : decode cX8_linksOf 5 = .ok (.aload_n 0, 1) := by decide +kernel
theorem dX8_linksOf_6 : decode cX8_linksOf 6 = .ok (.getfield 24, 3) := by decide +kernel
theorem dX8_linksOf_9 : decode cX8_linksOf 9 = .ok (.if_icmp .ge 15, 3) := by decide +kernel
theorem dX8_linksOf_24 : decode cX8_linksOf 24 = .ok (.iload_n 2, 1) := by decide +kernel
theorem dX8_linksOf_25 : decode cX8_linksOf 25 = .ok (.ireturn, 1) := by decide +kernel
set_option maxHeartbeats 4000000 in
set_option maxRecDepth 100000 in
theorem c_X8_linksOf (l : Launch) (D : va_G) (cy : ClassId) (nwf nwfk nwfv nwfh nwft : Nat) : wk_Ci l yX8_linksOf cX8_linksOf 4 (some .int) { frames := 0, cells := 0, slots := 0, locals := 0 } D cy [.ref nwf, .ref nwfh] [(nwf, .inr (8, [.ref nwfk, .ref nwfv, .ref nwfh, .ref nwft, .int 0]))] 0 0 (fun (r : Int32) (u : Unit) => r = 0) (fun u => [(nwf, .inr (8, [.ref nwfk, .ref nwfv, .ref nwfh, .ref nwft, .int 0]))]) := by
  refine wk_mkCi (by decide) (Nat.le_of_ble_eq_true rfl) ?_
  intro p e s m below meth c A ls B hA hK hP hD hS hl
  obtain ⟨hx, hb, hr, hlocks, hml, hown, htb, hin⟩ := B
  have hl : lv_has ls 4 [(0, .ref nwf), (1, .ref nwfh)] := hl
  refine lv_iconst (v := 0) hx hb dX8_linksOf_0 (by decide) ?_
  refine lv_istore_n (lv' := [(2, .int 0), (0, .ref nwf), (1, .ref nwfh)]) hx hb dX8_linksOf_1 rfl hl (by decide) rfl (fun ls hl => ?_)
  refine lv_iconst (v := 0) hx hb dX8_linksOf_2 (by decide) ?_
  refine lv_istore_n (lv' := [(3, .int 0), (2, .int 0), (0, .ref nwf), (1, .ref nwfh)]) hx hb dX8_linksOf_3 rfl hl (by decide) rfl (fun ls hl => ?_)
  refine lv_iload_n hx hb dX8_linksOf_4 rfl (lv_at hl 0 rfl) ?_
  refine lv_aload_n hx hb dX8_linksOf_5 rfl (lv_at hl 2 rfl) ?_
  refine va_get (D := D) (ci := 8) (v := .int 0) (C := RX8) (T := TX8) (N := 5) hx hb htb inX8 hown hK hP 0 rfl rfl 4 (by decide) (htb _ tw_129) (fun _ h9 => h9) rfl dX8_linksOf_6 ?_
  refine lv_icmp_ge (tgt := 24) hx hb dX8_linksOf_9 (by decide) (fun _ => ?_) (fun c_1 => absurd (by decide) c_1)
  refine lv_iload_n hx hb dX8_linksOf_24 rfl (lv_at hl 1 rfl) ?_
  refine W.widen (k := 0) (n := 0) (by decide) (by decide) ?_
  exact wk_iret () hx hb hr hlocks rfl hK hP hD hS [0] rfl rfl dX8_linksOf_25
theorem dX8_valuesBetween_0 : decode cX8_valuesBetween 0 = .ok (.iconst 0, 1) := by decide +kernel
theorem dX8_valuesBetween_1 : decode cX8_valuesBetween 1 = .ok (.istore_n 3, 1) := by decide +kernel
theorem dX8_valuesBetween_2 : decode cX8_valuesBetween 2 = .ok (.iconst 0, 1) := by decide +kernel
theorem dX8_valuesBetween_3 : decode cX8_valuesBetween 3 = .ok (.istore 4, 2) := by decide +kernel
theorem dX8_valuesBetween_5 : decode cX8_valuesBetween 5 = .ok (.iload 4, 2) := by decide +kernel
theorem dX8_valuesBetween_7 : decode cX8_valuesBetween 7 = .ok (.aload_n 0, 1) := by decide +kernel
theorem dX8_valuesBetween_8 : decode cX8_valuesBetween 8 = .ok (.getfield 24, 3) := by decide +kernel
theorem dX8_valuesBetween_11 : decode cX8_valuesBetween 11 = .ok (.if_icmp .ge 45, 3) := by decide +kernel
theorem dX8_valuesBetween_56 : decode cX8_valuesBetween 56 = .ok (.iload_n 3, 1) := by decide +kernel
theorem dX8_valuesBetween_57 : decode cX8_valuesBetween 57 = .ok (.ireturn, 1) := by decide +kernel
set_option maxHeartbeats 4000000 in
set_option maxRecDepth 100000 in
theorem c_X8_valuesBetween (l : Launch) (D : va_G) (cy : ClassId) (nwf nwfk nwfv nwfh nwft : Nat) (a b : Int32) : wk_Ci l yX8_valuesBetween cX8_valuesBetween 5 (some .int) { frames := 0, cells := 0, slots := 0, locals := 0 } D cy [.ref nwf, .int a, .int b] [(nwf, .inr (8, [.ref nwfk, .ref nwfv, .ref nwfh, .ref nwft, .int 0]))] 0 0 (fun (r : Int32) (u : Unit) => r = 0) (fun u => [(nwf, .inr (8, [.ref nwfk, .ref nwfv, .ref nwfh, .ref nwft, .int 0]))]) := by
  refine wk_mkCi (by decide) (Nat.le_of_ble_eq_true rfl) ?_
  intro p e s m below meth c A ls B hA hK hP hD hS hl
  obtain ⟨hx, hb, hr, hlocks, hml, hown, htb, hin⟩ := B
  have hl : lv_has ls 5 [(0, .ref nwf), (1, .int a), (2, .int b)] := hl
  refine lv_iconst (v := 0) hx hb dX8_valuesBetween_0 (by decide) ?_
  refine lv_istore_n (lv' := [(3, .int 0), (0, .ref nwf), (1, .int a), (2, .int b)]) hx hb dX8_valuesBetween_1 rfl hl (by decide) rfl (fun ls hl => ?_)
  refine lv_iconst (v := 0) hx hb dX8_valuesBetween_2 (by decide) ?_
  refine lv_istore (lv' := [(4, .int 0), (3, .int 0), (0, .ref nwf), (1, .int a), (2, .int b)]) hx hb dX8_valuesBetween_3 hl (by decide) rfl (fun ls hl => ?_)
  refine lv_iload hx hb dX8_valuesBetween_5 (lv_at hl 0 rfl) ?_
  refine lv_aload_n hx hb dX8_valuesBetween_7 rfl (lv_at hl 2 rfl) ?_
  refine va_get (D := D) (ci := 8) (v := .int 0) (C := RX8) (T := TX8) (N := 5) hx hb htb inX8 hown hK hP 0 rfl rfl 4 (by decide) (htb _ tw_129) (fun _ h9 => h9) rfl dX8_valuesBetween_8 ?_
  refine lv_icmp_ge (tgt := 56) hx hb dX8_valuesBetween_11 (by decide) (fun _ => ?_) (fun c_1 => absurd (by decide) c_1)
  refine lv_iload_n hx hb dX8_valuesBetween_56 rfl (lv_at hl 1 rfl) ?_
  refine W.widen (k := 0) (n := 0) (by decide) (by decide) ?_
  exact wk_iret () hx hb hr hlocks rfl hK hP hD hS [0] rfl rfl dX8_valuesBetween_57
theorem dX8_allHeat_0 : decode cX8_allHeat 0 = .ok (.iconst 0, 1) := by decide +kernel
theorem dX8_allHeat_1 : decode cX8_allHeat 1 = .ok (.istore_n 1, 1) := by decide +kernel
theorem dX8_allHeat_2 : decode cX8_allHeat 2 = .ok (.iconst 0, 1) := by decide +kernel
theorem dX8_allHeat_3 : decode cX8_allHeat 3 = .ok (.istore_n 2, 1) := by decide +kernel
theorem dX8_allHeat_4 : decode cX8_allHeat 4 = .ok (.iload_n 2, 1) := by decide +kernel
theorem dX8_allHeat_5 : decode cX8_allHeat 5 = .ok (.aload_n 0, 1) := by decide +kernel
theorem dX8_allHeat_6 : decode cX8_allHeat 6 = .ok (.getfield 24, 3) := by decide +kernel
theorem dX8_allHeat_9 : decode cX8_allHeat 9 = .ok (.if_icmp .ge 18, 3) := by decide +kernel
theorem dX8_allHeat_27 : decode cX8_allHeat 27 = .ok (.iload_n 1, 1) := by decide +kernel
theorem dX8_allHeat_28 : decode cX8_allHeat 28 = .ok (.ireturn, 1) := by decide +kernel
set_option maxHeartbeats 4000000 in
set_option maxRecDepth 100000 in
theorem c_X8_allHeat (l : Launch) (D : va_G) (cy : ClassId) (nwf nwfk nwfv nwfh nwft : Nat) : wk_Ci l yX8_allHeat cX8_allHeat 3 (some .int) { frames := 0, cells := 0, slots := 0, locals := 0 } D cy [.ref nwf] [(nwf, .inr (8, [.ref nwfk, .ref nwfv, .ref nwfh, .ref nwft, .int 0]))] 0 0 (fun (r : Int32) (u : Unit) => r = 0) (fun u => [(nwf, .inr (8, [.ref nwfk, .ref nwfv, .ref nwfh, .ref nwft, .int 0]))]) := by
  refine wk_mkCi (by decide) (Nat.le_of_ble_eq_true rfl) ?_
  intro p e s m below meth c A ls B hA hK hP hD hS hl
  obtain ⟨hx, hb, hr, hlocks, hml, hown, htb, hin⟩ := B
  have hl : lv_has ls 3 [(0, .ref nwf)] := hl
  refine lv_iconst (v := 0) hx hb dX8_allHeat_0 (by decide) ?_
  refine lv_istore_n (lv' := [(1, .int 0), (0, .ref nwf)]) hx hb dX8_allHeat_1 rfl hl (by decide) rfl (fun ls hl => ?_)
  refine lv_iconst (v := 0) hx hb dX8_allHeat_2 (by decide) ?_
  refine lv_istore_n (lv' := [(2, .int 0), (1, .int 0), (0, .ref nwf)]) hx hb dX8_allHeat_3 rfl hl (by decide) rfl (fun ls hl => ?_)
  refine lv_iload_n hx hb dX8_allHeat_4 rfl (lv_at hl 0 rfl) ?_
  refine lv_aload_n hx hb dX8_allHeat_5 rfl (lv_at hl 2 rfl) ?_
  refine va_get (D := D) (ci := 8) (v := .int 0) (C := RX8) (T := TX8) (N := 5) hx hb htb inX8 hown hK hP 0 rfl rfl 4 (by decide) (htb _ tw_129) (fun _ h9 => h9) rfl dX8_allHeat_6 ?_
  refine lv_icmp_ge (tgt := 27) hx hb dX8_allHeat_9 (by decide) (fun _ => ?_) (fun c_1 => absurd (by decide) c_1)
  refine lv_iload_n hx hb dX8_allHeat_27 rfl (lv_at hl 1 rfl) ?_
  refine W.widen (k := 0) (n := 0) (by decide) (by decide) ?_
  exact wk_iret () hx hb hr hlocks rfl hK hP hD hS [0] rfl rfl dX8_allHeat_28
theorem dX4_clear_0 : decode cX4_clear 0 = .ok (.aload_n 0, 1) := by decide +kernel
theorem dX4_clear_1 : decode cX4_clear 1 = .ok (.getfield 21, 3) := by decide +kernel
theorem dX4_clear_4 : decode cX4_clear 4 = .ok (.istore_n 1, 1) := by decide +kernel
theorem dX4_clear_5 : decode cX4_clear 5 = .ok (.aload_n 0, 1) := by decide +kernel
theorem dX4_clear_6 : decode cX4_clear 6 = .ok (.iconst 0, 1) := by decide +kernel
theorem dX4_clear_7 : decode cX4_clear 7 = .ok (.putfield 21, 3) := by decide +kernel
theorem dX4_clear_10 : decode cX4_clear 10 = .ok (.iload_n 1, 1) := by decide +kernel
theorem dX4_clear_11 : decode cX4_clear 11 = .ok (.ireturn, 1) := by decide +kernel
set_option maxHeartbeats 4000000 in
set_option maxRecDepth 100000 in
theorem c_X4_clear (l : Launch) (D : va_G) (cy : ClassId) (nwe nwea nweb nwec : Nat) : wk_Ci l yX4_clear cX4_clear 2 (some .int) { frames := 0, cells := 0, slots := 0, locals := 0 } D cy [.ref nwe] [(nwe, .inr (4, [.ref nwea, .ref nweb, .ref nwec, .int 0]))] 0 0 (fun (r : Int32) (u : Unit) => r = 0) (fun u => []) := by
  refine wk_mkCi (by decide) (Nat.le_of_ble_eq_true rfl) ?_
  intro p e s m below meth c A ls B hA hK hP hD hS hl
  obtain ⟨hx, hb, hr, hlocks, hml, hown, htb, hin⟩ := B
  have hl : lv_has ls 2 [(0, .ref nwe)] := hl
  refine lv_aload_n hx hb dX4_clear_0 rfl (lv_at hl 0 rfl) ?_
  refine va_get (D := D) (ci := 4) (v := .int 0) (C := RX4) (T := TX4) (N := 4) hx hb htb inX4 hown hK hP 0 rfl rfl 3 (by decide) (htb _ tw_158) (fun _ h9 => h9) rfl dX4_clear_1 ?_
  refine lv_istore_n (lv' := [(1, .int 0), (0, .ref nwe)]) hx hb dX4_clear_4 rfl hl (by decide) rfl (fun ls hl => ?_)
  refine lv_aload_n hx hb dX4_clear_5 rfl (lv_at hl 1 rfl) ?_
  refine lv_iconst (v := 0) hx hb dX4_clear_6 (by decide) ?_
  refine va_put (D := D) (ci := 4) (v := .int 0) (ty := .int) (C := RX4) (T := TX4) (N := 4) hx hb htb inX4 tyX4 tyX4_ok nmX4 hown hK hP hD hS 0 rfl rfl 3 (by decide) (htb _ tw_158) (fun _ h9 => h9) rfl (by decide +kernel) rfl rfl (Nat.le_of_ble_eq_true rfl) dX4_clear_7 (fun H locs hP hD hS => ?_)
  have hP : va_P D classes [(nwe, .inr (4, [.ref nwea, .ref nweb, .ref nwec, .int 0]))] H := hP
  have hD : va_D A [(nwe, .inr (4, [.ref nwea, .ref nweb, .ref nwec, .int 0]))] := hD
  refine lv_iload_n hx hb dX4_clear_10 rfl (lv_at hl 0 rfl) ?_
  refine W.widen (k := 0) (n := 0) (by decide) (by decide) ?_
  exact wk_iret () hx hb hr hlocks rfl hK hP hD hS [] rfl rfl dX4_clear_11
theorem dX11_namesNoKey_0 : decode cX11_namesNoKey 0 = .ok (.iload_n 1, 1) := by decide +kernel
theorem dX11_namesNoKey_1 : decode cX11_namesNoKey 1 = .ok (.ifCond .lt 17, 3) := by decide +kernel
theorem dX11_namesNoKey_4 : decode cX11_namesNoKey 4 = .ok (.iload_n 1, 1) := by decide +kernel
theorem dX11_namesNoKey_5 : decode cX11_namesNoKey 5 = .ok (.aload_n 0, 1) := by decide +kernel
theorem dX11_namesNoKey_6 : decode cX11_namesNoKey 6 = .ok (.getfield 22, 3) := by decide +kernel
theorem dX11_namesNoKey_9 : decode cX11_namesNoKey 9 = .ok (.getfield 77, 3) := by decide +kernel
theorem dX11_namesNoKey_12 : decode cX11_namesNoKey 12 = .ok (.getfield 91, 3) := by decide +kernel
theorem dX11_namesNoKey_15 : decode cX11_namesNoKey 15 = .ok (.if_icmp .lt 7, 3) := by decide +kernel
theorem dX11_namesNoKey_18 : decode cX11_namesNoKey 18 = .ok (.iconst 1, 1) := by decide +kernel
theorem dX11_namesNoKey_19 : decode cX11_namesNoKey 19 = .ok (.goto 4, 3) := by decide +kernel
theorem dX11_namesNoKey_22 : decode cX11_namesNoKey 22 = .ok (.iconst 0, 1) := by decide +kernel
theorem dX11_namesNoKey_23 : decode cX11_namesNoKey 23 = .ok (.ireturn, 1) := by decide +kernel
set_option maxHeartbeats 4000000 in
set_option maxRecDepth 100000 in
theorem c_X11_namesNoKey (l : Launch) (D : va_G) (cy : ClassId) (x pg wr nw kp wk tr nwf nws nwe nwfk nwfv nwfh nwft : Nat) (a : Int32) : wk_Ci l yX11_namesNoKey cX11_namesNoKey 2 (some .boolean) { frames := 0, cells := 0, slots := 0, locals := 0 } D cy [.ref x, .int a] [(x, .inr (11, [.ref pg, .ref wr, .ref nw, .ref kp, .ref wk, .ref tr, .null, .int 0, .int 0, .int 0])), (nw, .inr (2, [.ref nwf, .ref nws, .ref nwe, .int 0, .int 0, .int 0])), (nwf, .inr (8, [.ref nwfk, .ref nwfv, .ref nwfh, .ref nwft, .int 0]))] 0 0 (fun (r : Int32) (u : Unit) => r = 1) (fun u => [(x, .inr (11, [.ref pg, .ref wr, .ref nw, .ref kp, .ref wk, .ref tr, .null, .int 0, .int 0, .int 0])), (nw, .inr (2, [.ref nwf, .ref nws, .ref nwe, .int 0, .int 0, .int 0])), (nwf, .inr (8, [.ref nwfk, .ref nwfv, .ref nwfh, .ref nwft, .int 0]))]) := by
  refine wk_mkCi (by decide) (Nat.le_of_ble_eq_true rfl) ?_
  intro p e s m below meth c A ls B hA hK hP hD hS hl
  obtain ⟨hx, hb, hr, hlocks, hml, hown, htb, hin⟩ := B
  have hl : lv_has ls 2 [(0, .ref x), (1, .int a)] := hl
  refine lv_iload_n hx hb dX11_namesNoKey_0 rfl (lv_at hl 1 rfl) ?_
  refine lv_if_lt (tgt := 18) hx hb dX11_namesNoKey_1 (by decide) (fun c_1 => ?_) (fun c_1 => ?_)
  · have k_1 : a.toInt < 0 := wk_lt c_1
    refine lv_iconst (v := 1) hx hb dX11_namesNoKey_18 (by decide) ?_
    refine lv_goto (tgt := 23) hx hb dX11_namesNoKey_19 (by decide) ?_
    refine W.widen (k := 0) (n := 0) (by decide) (by decide) ?_
    exact wk_zret () hx hb hr hlocks rfl rfl hK hP hD hS [0, 1, 2] rfl rfl dX11_namesNoKey_23
  · have k_1 : ¬ a.toInt < 0 := wk_nlt c_1
    refine lv_iload_n hx hb dX11_namesNoKey_4 rfl (lv_at hl 1 rfl) ?_
    refine lv_aload_n hx hb dX11_namesNoKey_5 rfl (lv_at hl 0 rfl) ?_
    refine va_get (D := D) (ci := 11) (v := .ref nw) (C := RX11) (T := TX11) (N := 10) hx hb htb inX11 hown hK hP 0 rfl rfl 2 (by decide) (htb _ tw_254) (fun _ h9 => h9) rfl dX11_namesNoKey_6 ?_
    refine va_get (D := D) (ci := 2) (v := .ref nwf) (C := RX2) (T := TX2) (N := 6) hx hb htb inX2 hown hK hP 1 rfl rfl 0 (by decide) (htb _ tw_171) (fun _ h9 => h9) rfl dX11_namesNoKey_9 ?_
    refine va_get (D := D) (ci := 8) (v := .int 0) (C := RX8) (T := TX8) (N := 5) hx hb htb inX8 hown hK hP 2 rfl rfl 4 (by decide) (htb _ tw_134) (fun _ h9 => h9) rfl dX11_namesNoKey_12 ?_
    refine lv_icmp_lt (tgt := 22) hx hb dX11_namesNoKey_15 (by decide) (fun c_2 => ?_) (fun c_2 => ?_)
    · have k_2 : a.toInt < 0 := wk_lt c_2
      refine lv_iconst (v := 0) hx hb dX11_namesNoKey_22 (by decide) ?_
      refine W.widen (k := 0) (n := 0) (by decide) (by decide) ?_
      exact wk_zret () hx hb hr hlocks rfl (by exfalso; omega) hK hP hD hS [0, 1, 2] rfl rfl dX11_namesNoKey_23
    · have k_2 : ¬ a.toInt < 0 := wk_nlt c_2
      refine lv_iconst (v := 1) hx hb dX11_namesNoKey_18 (by decide) ?_
      refine lv_goto (tgt := 23) hx hb dX11_namesNoKey_19 (by decide) ?_
      refine W.widen (k := 0) (n := 0) (by decide) (by decide) ?_
      exact wk_zret () hx hb hr hlocks rfl rfl hK hP hD hS [0, 1, 2] rfl rfl dX11_namesNoKey_23
theorem dX11_isNoKey_0 : decode cX11_isNoKey 0 = .ok (.iload_n 0, 1) := by decide +kernel
theorem dX11_isNoKey_1 : decode cX11_isNoKey 1 = .ok (.ifCond .lt 9, 3) := by decide +kernel
theorem dX11_isNoKey_4 : decode cX11_isNoKey 4 = .ok (.iload_n 0, 1) := by decide +kernel
theorem dX11_isNoKey_5 : decode cX11_isNoKey 5 = .ok (.bipush 99, 2) := by decide +kernel
theorem dX11_isNoKey_7 : decode cX11_isNoKey 7 = .ok (.if_icmp .le 7, 3) := by decide +kernel
theorem dX11_isNoKey_10 : decode cX11_isNoKey 10 = .ok (.iconst 1, 1) := by decide +kernel
theorem dX11_isNoKey_11 : decode cX11_isNoKey 11 = .ok (.goto 4, 3) := by decide +kernel
theorem dX11_isNoKey_14 : decode cX11_isNoKey 14 = .ok (.iconst 0, 1) := by decide +kernel
theorem dX11_isNoKey_15 : decode cX11_isNoKey 15 = .ok (.ireturn, 1) := by decide +kernel
set_option maxHeartbeats 4000000 in
set_option maxRecDepth 100000 in
theorem c_X11_isNoKey (l : Launch) (D : va_G) (cy : ClassId) (a : Int32) : wk_Ci l yX11_isNoKey cX11_isNoKey 1 (some .boolean) { frames := 0, cells := 0, slots := 0, locals := 0 } D cy [.int a] [] 0 0 (fun (r : Int32) (u : Unit) => r = if (0 ≤ a.toInt ∧ a.toInt ≤ 99) then 0 else 1) (fun u => []) := by
  refine wk_mkCi (by decide) (Nat.le_of_ble_eq_true rfl) ?_
  intro p e s m below meth c A ls B hA hK hP hD hS hl
  obtain ⟨hx, hb, hr, hlocks, hml, hown, htb, hin⟩ := B
  have hl : lv_has ls 1 [(0, .int a)] := hl
  refine lv_iload_n hx hb dX11_isNoKey_0 rfl (lv_at hl 0 rfl) ?_
  refine lv_if_lt (tgt := 10) hx hb dX11_isNoKey_1 (by decide) (fun c_1 => ?_) (fun c_1 => ?_)
  · have k_1 : a.toInt < 0 := wk_lt c_1
    refine lv_iconst (v := 1) hx hb dX11_isNoKey_10 (by decide) ?_
    refine lv_goto (tgt := 15) hx hb dX11_isNoKey_11 (by decide) ?_
    refine W.widen (k := 0) (n := 0) (by decide) (by decide) ?_
    exact wk_zret () hx hb hr hlocks rfl (if_neg (by omega)).symm hK hP hD hS [] rfl rfl dX11_isNoKey_15
  · have k_1 : ¬ a.toInt < 0 := wk_nlt c_1
    refine lv_iload_n hx hb dX11_isNoKey_4 rfl (lv_at hl 0 rfl) ?_
    refine lv_bipush (v := 99) hx hb dX11_isNoKey_5 (by decide) ?_
    refine lv_icmp_le (tgt := 14) hx hb dX11_isNoKey_7 (by decide) (fun c_2 => ?_) (fun c_2 => ?_)
    · have k_2 : a.toInt ≤ 99 := wk_le c_2
      refine lv_iconst (v := 0) hx hb dX11_isNoKey_14 (by decide) ?_
      refine W.widen (k := 0) (n := 0) (by decide) (by decide) ?_
      exact wk_zret () hx hb hr hlocks rfl (if_pos (by omega)).symm hK hP hD hS [] rfl rfl dX11_isNoKey_15
    · have k_2 : ¬ a.toInt ≤ 99 := wk_nle c_2
      refine lv_iconst (v := 1) hx hb dX11_isNoKey_10 (by decide) ?_
      refine lv_goto (tgt := 15) hx hb dX11_isNoKey_11 (by decide) ?_
      refine W.widen (k := 0) (n := 0) (by decide) (by decide) ?_
      exact wk_zret () hx hb hr hlocks rfl (if_neg (by omega)).symm hK hP hD hS [] rfl rfl dX11_isNoKey_15
theorem dX11_withCodes_0 : decode cX11_withCodes 0 = .ok (.lload_n 0, 1) := by decide +kernel
theorem dX11_withCodes_1 : decode cX11_withCodes 1 = .ok (.lstore 4, 2) := by decide +kernel
theorem dX11_withCodes_3 : decode cX11_withCodes 3 = .ok (.iconst 0, 1) := by decide +kernel
theorem dX11_withCodes_4 : decode cX11_withCodes 4 = .ok (.istore 6, 2) := by decide +kernel
theorem dX11_withCodes_6 : decode cX11_withCodes 6 = .ok (.iload 6, 2) := by decide +kernel
theorem dX11_withCodes_8 : decode cX11_withCodes 8 = .ok (.iload_n 3, 1) := by decide +kernel
theorem dX11_withCodes_9 : decode cX11_withCodes 9 = .ok (.if_icmp .ge 30, 3) := by decide +kernel
theorem dX11_withCodes_39 : decode cX11_withCodes 39 = .ok (.lload 4, 2) := by decide +kernel
theorem dX11_withCodes_41 : decode cX11_withCodes 41 = .ok (.lreturn, 1) := by decide +kernel
set_option maxHeartbeats 4000000 in
set_option maxRecDepth 100000 in
theorem c_X11_withCodes (l : Launch) (D : va_G) (cy : ClassId) (pgc : Nat) (h : Int64) : wk_Cl l yX11_withCodes cX11_withCodes 7 (some .long) { frames := 0, cells := 0, slots := 0, locals := 0 } D cy [.long h, .ref pgc, .int 0] [] 0 0 (fun (r : Int64) (u : Unit) => r = h) (fun u => []) := by
  refine wk_mkCl (by decide) (Nat.le_of_ble_eq_true rfl) ?_
  intro p e s m below meth c A ls B hA hK hP hD hS hl
  obtain ⟨hx, hb, hr, hlocks, hml, hown, htb, hin⟩ := B
  have hl : lv_has ls 7 [(0, .long h), (2, .ref pgc), (3, .int 0)] := hl
  refine lv_lload_n hx hb dX11_withCodes_0 rfl (lv_at hl 0 rfl) ?_
  refine lv_lstore (lv' := [(4, .long h), (0, .long h), (2, .ref pgc), (3, .int 0)]) hx hb dX11_withCodes_1 hl (by decide) rfl (fun ls hl => ?_)
  refine lv_iconst (v := 0) hx hb dX11_withCodes_3 (by decide) ?_
  refine lv_istore (lv' := [(6, .int 0), (4, .long h), (0, .long h), (2, .ref pgc), (3, .int 0)]) hx hb dX11_withCodes_4 hl (by decide) rfl (fun ls hl => ?_)
  refine lv_iload hx hb dX11_withCodes_6 (lv_at hl 0 rfl) ?_
  refine lv_iload_n hx hb dX11_withCodes_8 rfl (lv_at hl 4 rfl) ?_
  refine lv_icmp_ge (tgt := 39) hx hb dX11_withCodes_9 (by decide) (fun _ => ?_) (fun c_1 => absurd (by decide) c_1)
  refine lv_lload hx hb dX11_withCodes_39 (lv_at hl 1 rfl) ?_
  refine W.widen (k := 0) (n := 0) (by decide) (by decide) ?_
  exact wk_lret () hx hb hr hlocks rfl hK hP hD hS [] rfl rfl dX11_withCodes_41
end
section
theorem dX11_letter_0 : decode cX11_letter 0 = .ok (.iload_n 1, 1) := by decide +kernel
theorem dX11_letter_1 : decode cX11_letter 1 = .ok (.iconst 1, 1) := by decide +kernel
theorem dX11_letter_2 : decode cX11_letter 2 = .ok (.if_icmp .lt 9, 3) := by decide +kernel
theorem dX11_letter_5 : decode cX11_letter 5 = .ok (.iload_n 1, 1) := by decide +kernel
theorem dX11_letter_6 : decode cX11_letter 6 = .ok (.bipush 126, 2) := by decide +kernel
theorem dX11_letter_8 : decode cX11_letter 8 = .ok (.if_icmp .le 6, 3) := by decide +kernel
theorem dX11_letter_11 : decode cX11_letter 11 = .ok (.bipush (-102), 2) := by decide +kernel
theorem dX11_letter_13 : decode cX11_letter 13 = .ok (.ireturn, 1) := by decide +kernel
theorem dX11_letter_14 : decode cX11_letter 14 = .ok (.aload_n 0, 1) := by decide +kernel
theorem dX11_letter_15 : decode cX11_letter 15 = .ok (.getfield 10, 3) := by decide +kernel
theorem dX11_letter_18 : decode cX11_letter 18 = .ok (.getfield 43, 3) := by decide +kernel
theorem dX11_letter_21 : decode cX11_letter 21 = .ok (.bipush 44, 2) := by decide +kernel
theorem dX11_letter_23 : decode cX11_letter 23 = .ok (.if_icmp .lt 6, 3) := by decide +kernel
theorem dX11_letter_29 : decode cX11_letter 29 = .ok (.aload_n 0, 1) := by decide +kernel
theorem dX11_letter_30 : decode cX11_letter 30 = .ok (.getfield 10, 3) := by decide +kernel
theorem dX11_letter_33 : decode cX11_letter 33 = .ok (.iload_n 1, 1) := by decide +kernel
theorem dX11_letter_34 : decode cX11_letter 34 = .ok (.invokevirtual 47, 3) := by decide +kernel
theorem dX11_letter_37 : decode cX11_letter 37 = .ok (.ireturn, 1) := by decide +kernel
set_option maxHeartbeats 4000000 in
set_option maxRecDepth 100000 in
theorem c_X11_letter (l : Launch) (D : va_G) (cy : ClassId) (x pg wr nw kp wk tr pgc : Nat) (a : Int32) : wk_Ci l yX11_letter cX11_letter 2 (some .int) { frames := 1, cells := 0, slots := 0, locals := 21 } D cy [.ref x, .int a] [(x, .inr (11, [.ref pg, .ref wr, .ref nw, .ref kp, .ref wk, .ref tr, .null, .int 0, .int 0, .int 0])), (pg, .inr (6, [.ref pgc, .int 0])), (pgc, .inl (cy, 44, .inl (fun _ => 0)))] 0 0 (fun (r : Int32) (u : Unit) => r = if (1 ≤ a.toInt ∧ a.toInt ≤ 126) then 1 else (-102)) (fun u => []) := by
  refine wk_mkCi (by decide) (Nat.le_of_ble_eq_true rfl) ?_
  intro p e s m below meth c A ls B hA hK hP hD hS hl
  obtain ⟨hx, hb, hr, hlocks, hml, hown, htb, hin⟩ := B
  have hl : lv_has ls 2 [(0, .ref x), (1, .int a)] := hl
  refine lv_iload_n hx hb dX11_letter_0 rfl (lv_at hl 1 rfl) ?_
  refine lv_iconst (v := 1) hx hb dX11_letter_1 (by decide) ?_
  refine lv_icmp_lt (tgt := 11) hx hb dX11_letter_2 (by decide) (fun c_1 => ?_) (fun c_1 => ?_)
  · have k_1 : a.toInt < 1 := wk_lt c_1
    refine lv_bipush (v := (-102)) hx hb dX11_letter_11 (by decide) ?_
    refine W.widen (k := 0) (n := 0) (by decide) (by decide) ?_
    exact wk_iret () hx hb hr hlocks (if_neg (by omega)).symm hK hP hD hS [] rfl rfl dX11_letter_13
  · have k_1 : ¬ a.toInt < 1 := wk_nlt c_1
    refine lv_iload_n hx hb dX11_letter_5 rfl (lv_at hl 1 rfl) ?_
    refine lv_bipush (v := 126) hx hb dX11_letter_6 (by decide) ?_
    refine lv_icmp_le (tgt := 14) hx hb dX11_letter_8 (by decide) (fun c_2 => ?_) (fun c_2 => ?_)
    · have k_2 : a.toInt ≤ 126 := wk_le c_2
      refine lv_aload_n hx hb dX11_letter_14 rfl (lv_at hl 0 rfl) ?_
      refine va_get (D := D) (ci := 11) (v := .ref pg) (C := RX11) (T := TX11) (N := 10) hx hb htb inX11 hown hK hP 0 rfl rfl 0 (by decide) (htb _ tw_252) (fun _ h9 => h9) rfl dX11_letter_15 ?_
      refine va_get (D := D) (ci := 6) (v := .int 0) (C := RX6) (T := TX6) (N := 2) hx hb htb inX6 hown hK hP 1 rfl rfl 1 (by decide) (htb _ tw_95) (fun _ h9 => h9) rfl dX11_letter_18 ?_
      refine lv_bipush (v := 44) hx hb dX11_letter_21 (by decide) ?_
      refine lv_icmp_lt (tgt := 29) hx hb dX11_letter_23 (by decide) (fun _ => ?_) (fun c_3 => absurd (by decide) c_3)
      refine lv_aload_n hx hb dX11_letter_29 rfl (lv_at hl 0 rfl) ?_
      refine va_get (D := D) (ci := 11) (v := .ref pg) (C := RX11) (T := TX11) (N := 10) hx hb htb inX11 hown hK hP 0 rfl rfl 0 (by decide) (htb _ tw_252) (fun _ h9 => h9) rfl dX11_letter_30 ?_
      refine lv_iload_n hx hb dX11_letter_33 rfl (lv_at hl 1 rfl) ?_
      refine wk_iV (As := [.int a]) (rest := []) (wc := [(pg, .inr (6, [.ref pgc, .int 0])), (pgc, .inl (cy, 44, .inl (fun _ => 0)))]) (wr := [(x, .inr (11, [.ref pg, .ref wr, .ref nw, .ref kp, .ref wk, .ref tr, .null, .int 0, .int 0, .int 0]))]) (n := 1) (R := _) ⟨hx, hb, hml, hown, htb⟩ (c_X6_add l D cy pg pgc a ) tw_290 tw_287 tw_288 tw_289 tw_65 rfl rfl (by decide +kernel) ⟨Nat.le_of_ble_eq_true rfl, Nat.le_of_ble_eq_true rfl⟩ hK hP hD hS hA [1, 2] [0] rfl rfl rfl rfl (by decide) 0 (ci := 6) rfl rfl rfl hl.1 rfl (Nat.le_of_ble_eq_true rfl) dX11_letter_34 ⟨Nat.le_of_ble_eq_true rfl, Nat.le_of_ble_eq_true rfl⟩ (fun r_4 u_5 H locs hw_6 hP hD hS => ?_)
      refine W.widen (k := 0) (n := 0) (by decide) (by decide) ?_
      have hw_6 : r_4 = 1 := hw_6
      subst hw_6
      have hP : va_P D classes [(x, .inr (11, [.ref pg, .ref wr, .ref nw, .ref kp, .ref wk, .ref tr, .null, .int 0, .int 0, .int 0]))] H := hP
      have hD : va_D A [(x, .inr (11, [.ref pg, .ref wr, .ref nw, .ref kp, .ref wk, .ref tr, .null, .int 0, .int 0, .int 0]))] := hD
      refine W.widen (k := 0) (n := 0) (by decide) (by decide) ?_
      exact wk_iret () hx hb hr hlocks (if_pos (by omega)).symm hK hP hD hS [] rfl rfl dX11_letter_37
    · have k_2 : ¬ a.toInt ≤ 126 := wk_nle c_2
      refine lv_bipush (v := (-102)) hx hb dX11_letter_11 (by decide) ?_
      refine W.widen (k := 0) (n := 0) (by decide) (by decide) ?_
      exact wk_iret () hx hb hr hlocks (if_neg (by omega)).symm hK hP hD hS [] rfl rfl dX11_letter_13
theorem dX11_blank_0 : decode cX11_blank 0 = .ok (.aload_n 0, 1) := by decide +kernel
theorem dX11_blank_1 : decode cX11_blank 1 = .ok (.getfield 10, 3) := by decide +kernel
theorem dX11_blank_4 : decode cX11_blank 4 = .ok (.invokevirtual 51, 3) := by decide +kernel
theorem dX11_blank_7 : decode cX11_blank 7 = .ok (.ireturn, 1) := by decide +kernel
set_option maxHeartbeats 4000000 in
set_option maxRecDepth 100000 in
theorem c_X11_blank (l : Launch) (D : va_G) (cy : ClassId) (x pg wr nw kp wk tr pgc : Nat) : wk_Ci l yX11_blank cX11_blank 1 (some .int) { frames := 1, cells := 0, slots := 0, locals := 21 } D cy [.ref x] [(x, .inr (11, [.ref pg, .ref wr, .ref nw, .ref kp, .ref wk, .ref tr, .null, .int 0, .int 0, .int 0])), (pg, .inr (6, [.ref pgc, .int 0]))] 0 0 (fun (r : Int32) (u : Unit) => r = 0) (fun u => []) := by
  refine wk_mkCi (by decide) (Nat.le_of_ble_eq_true rfl) ?_
  intro p e s m below meth c A ls B hA hK hP hD hS hl
  obtain ⟨hx, hb, hr, hlocks, hml, hown, htb, hin⟩ := B
  have hl : lv_has ls 1 [(0, .ref x)] := hl
  refine lv_aload_n hx hb dX11_blank_0 rfl (lv_at hl 0 rfl) ?_
  refine va_get (D := D) (ci := 11) (v := .ref pg) (C := RX11) (T := TX11) (N := 10) hx hb htb inX11 hown hK hP 0 rfl rfl 0 (by decide) (htb _ tw_252) (fun _ h9 => h9) rfl dX11_blank_1 ?_
  refine wk_iV (As := []) (rest := []) (wc := [(pg, .inr (6, [.ref pgc, .int 0]))]) (wr := [(x, .inr (11, [.ref pg, .ref wr, .ref nw, .ref kp, .ref wk, .ref tr, .null, .int 0, .int 0, .int 0]))]) (n := 0) (R := _) ⟨hx, hb, hml, hown, htb⟩ (c_X6_clear l D cy pg pgc  ) tw_298 tw_295 tw_296 tw_297 tw_65 rfl rfl (by decide +kernel) ⟨Nat.le_of_ble_eq_true rfl, Nat.le_of_ble_eq_true rfl⟩ hK hP hD hS hA [1] [0] rfl rfl rfl rfl (by decide) 0 (ci := 6) rfl rfl rfl hl.1 rfl (Nat.le_of_ble_eq_true rfl) dX11_blank_4 ⟨Nat.le_of_ble_eq_true rfl, Nat.le_of_ble_eq_true rfl⟩ (fun r_1 u_2 H locs hw_3 hP hD hS => ?_)
  refine W.widen (k := 0) (n := 0) (by decide) (by decide) ?_
  have hw_3 : r_1 = 0 := hw_3
  subst hw_3
  have hP : va_P D classes [(x, .inr (11, [.ref pg, .ref wr, .ref nw, .ref kp, .ref wk, .ref tr, .null, .int 0, .int 0, .int 0]))] H := hP
  have hD : va_D A [(x, .inr (11, [.ref pg, .ref wr, .ref nw, .ref kp, .ref wk, .ref tr, .null, .int 0, .int 0, .int 0]))] := hD
  refine W.widen (k := 0) (n := 0) (by decide) (by decide) ?_
  exact wk_iret () hx hb hr hlocks rfl hK hP hD hS [] rfl rfl dX11_blank_7
theorem dX11_fault_0 : decode cX11_fault 0 = .ok (.aload_n 0, 1) := by decide +kernel
theorem dX11_fault_1 : decode cX11_fault 1 = .ok (.getfield 10, 3) := by decide +kernel
theorem dX11_fault_4 : decode cX11_fault 4 = .ok (.invokevirtual 55, 3) := by decide +kernel
theorem dX11_fault_7 : decode cX11_fault 7 = .ok (.ireturn, 1) := by decide +kernel
set_option maxHeartbeats 4000000 in
set_option maxRecDepth 100000 in
theorem c_X11_fault (l : Launch) (D : va_G) (cy : ClassId) (x pg wr nw kp wk tr pgc : Nat) : wk_Ci l yX11_fault cX11_fault 1 (some .int) { frames := 2, cells := 0, slots := 0, locals := 44 } D cy [.ref x] [(x, .inr (11, [.ref pg, .ref wr, .ref nw, .ref kp, .ref wk, .ref tr, .null, .int 0, .int 0, .int 0])), (pg, .inr (6, [.ref pgc, .int 0]))] 0 0 (fun (r : Int32) (u : Unit) => r = 0) (fun u => [(x, .inr (11, [.ref pg, .ref wr, .ref nw, .ref kp, .ref wk, .ref tr, .null, .int 0, .int 0, .int 0])), (pg, .inr (6, [.ref pgc, .int 0]))]) := by
  refine wk_mkCi (by decide) (Nat.le_of_ble_eq_true rfl) ?_
  intro p e s m below meth c A ls B hA hK hP hD hS hl
  obtain ⟨hx, hb, hr, hlocks, hml, hown, htb, hin⟩ := B
  have hl : lv_has ls 1 [(0, .ref x)] := hl
  refine lv_aload_n hx hb dX11_fault_0 rfl (lv_at hl 0 rfl) ?_
  refine va_get (D := D) (ci := 11) (v := .ref pg) (C := RX11) (T := TX11) (N := 10) hx hb htb inX11 hown hK hP 0 rfl rfl 0 (by decide) (htb _ tw_252) (fun _ h9 => h9) rfl dX11_fault_1 ?_
  refine wk_iV (As := []) (rest := []) (wc := [(pg, .inr (6, [.ref pgc, .int 0]))]) (wr := [(x, .inr (11, [.ref pg, .ref wr, .ref nw, .ref kp, .ref wk, .ref tr, .null, .int 0, .int 0, .int 0]))]) (n := 0) (R := _) ⟨hx, hb, hml, hown, htb⟩ (c_X6_firstFault l D cy pg pgc  ) tw_306 tw_303 tw_304 tw_305 tw_65 rfl rfl (by decide +kernel) ⟨Nat.le_of_ble_eq_true rfl, Nat.le_of_ble_eq_true rfl⟩ hK hP hD hS hA [1] [0] rfl rfl rfl rfl (by decide) 0 (ci := 6) rfl rfl rfl hl.1 rfl (Nat.le_of_ble_eq_true rfl) dX11_fault_4 ⟨Nat.le_of_ble_eq_true rfl, Nat.le_of_ble_eq_true rfl⟩ (fun r_1 u_2 H locs hw_3 hP hD hS => ?_)
  refine W.widen (k := 0) (n := 0) (by decide) (by decide) ?_
  have hw_3 : r_1 = 0 := hw_3
  subst hw_3
  have hP : va_P D classes [(x, .inr (11, [.ref pg, .ref wr, .ref nw, .ref kp, .ref wk, .ref tr, .null, .int 0, .int 0, .int 0])), (pg, .inr (6, [.ref pgc, .int 0]))] H := hP
  have hD : va_D A [(x, .inr (11, [.ref pg, .ref wr, .ref nw, .ref kp, .ref wk, .ref tr, .null, .int 0, .int 0, .int 0])), (pg, .inr (6, [.ref pgc, .int 0]))] := hD
  refine W.widen (k := 0) (n := 0) (by decide) (by decide) ?_
  exact wk_iret () hx hb hr hlocks rfl hK hP hD hS [0, 1] rfl rfl dX11_fault_7
theorem dX11_row_0 : decode cX11_row 0 = .ok (.aload_n 0, 1) := by decide +kernel
theorem dX11_row_1 : decode cX11_row 1 = .ok (.getfield 10, 3) := by decide +kernel
theorem dX11_row_4 : decode cX11_row 4 = .ok (.invokevirtual 58, 3) := by decide +kernel
theorem dX11_row_7 : decode cX11_row 7 = .ok (.iconst (-1), 1) := by decide +kernel
theorem dX11_row_8 : decode cX11_row 8 = .ok (.if_icmp .ne 6, 3) := by decide +kernel
theorem dX11_row_11 : decode cX11_row 11 = .ok (.bipush (-103), 2) := by decide +kernel
theorem dX11_row_13 : decode cX11_row 13 = .ok (.ireturn, 1) := by decide +kernel
set_option maxHeartbeats 4000000 in
set_option maxRecDepth 100000 in
theorem c_X11_row (l : Launch) (D : va_G) (cy : ClassId) (x pg wr nw kp wk tr pgc : Nat) : wk_Ci l yX11_row cX11_row 1 (some .int) { frames := 2, cells := 0, slots := 0, locals := 42 } D cy [.ref x] [(x, .inr (11, [.ref pg, .ref wr, .ref nw, .ref kp, .ref wk, .ref tr, .null, .int 0, .int 0, .int 0])), (pg, .inr (6, [.ref pgc, .int 0]))] 0 0 (fun (r : Int32) (u : Unit) => r = (-103)) (fun u => [(x, .inr (11, [.ref pg, .ref wr, .ref nw, .ref kp, .ref wk, .ref tr, .null, .int 0, .int 0, .int 0])), (pg, .inr (6, [.ref pgc, .int 0]))]) := by
  refine wk_mkCi (by decide) (Nat.le_of_ble_eq_true rfl) ?_
  intro p e s m below meth c A ls B hA hK hP hD hS hl
  obtain ⟨hx, hb, hr, hlocks, hml, hown, htb, hin⟩ := B
  have hl : lv_has ls 1 [(0, .ref x)] := hl
  refine lv_aload_n hx hb dX11_row_0 rfl (lv_at hl 0 rfl) ?_
  refine va_get (D := D) (ci := 11) (v := .ref pg) (C := RX11) (T := TX11) (N := 10) hx hb htb inX11 hown hK hP 0 rfl rfl 0 (by decide) (htb _ tw_252) (fun _ h9 => h9) rfl dX11_row_1 ?_
  refine wk_iV (As := []) (rest := []) (wc := [(pg, .inr (6, [.ref pgc, .int 0]))]) (wr := [(x, .inr (11, [.ref pg, .ref wr, .ref nw, .ref kp, .ref wk, .ref tr, .null, .int 0, .int 0, .int 0]))]) (n := 0) (R := _) ⟨hx, hb, hml, hown, htb⟩ (c_X6_keysTold l D cy pg pgc  ) tw_330 tw_327 tw_328 tw_329 tw_65 rfl rfl (by decide +kernel) ⟨Nat.le_of_ble_eq_true rfl, Nat.le_of_ble_eq_true rfl⟩ hK hP hD hS hA [1] [0] rfl rfl rfl rfl (by decide) 0 (ci := 6) rfl rfl rfl hl.1 rfl (Nat.le_of_ble_eq_true rfl) dX11_row_4 ⟨Nat.le_of_ble_eq_true rfl, Nat.le_of_ble_eq_true rfl⟩ (fun r_1 u_2 H locs hw_3 hP hD hS => ?_)
  refine W.widen (k := 0) (n := 0) (by decide) (by decide) ?_
  have hw_3 : r_1 = (-1) := hw_3
  subst hw_3
  have hP : va_P D classes [(x, .inr (11, [.ref pg, .ref wr, .ref nw, .ref kp, .ref wk, .ref tr, .null, .int 0, .int 0, .int 0])), (pg, .inr (6, [.ref pgc, .int 0]))] H := hP
  have hD : va_D A [(x, .inr (11, [.ref pg, .ref wr, .ref nw, .ref kp, .ref wk, .ref tr, .null, .int 0, .int 0, .int 0])), (pg, .inr (6, [.ref pgc, .int 0]))] := hD
  refine lv_iconst (v := (-1)) hx hb dX11_row_7 (by decide) ?_
  refine lv_icmp_ne (tgt := 14) hx hb dX11_row_8 (by decide) (fun c_4 => absurd (by decide) c_4) (fun _ => ?_)
  refine lv_bipush (v := (-103)) hx hb dX11_row_11 (by decide) ?_
  refine W.widen (k := 0) (n := 0) (by decide) (by decide) ?_
  exact wk_iret () hx hb hr hlocks rfl hK hP hD hS [0, 1] rfl rfl dX11_row_13
theorem dX11_tape_0 : decode cX11_tape 0 = .ok (.iload_n 1, 1) := by decide +kernel
theorem dX11_tape_1 : decode cX11_tape 1 = .ok (.ifCond .lt 9, 3) := by decide +kernel
theorem dX11_tape_4 : decode cX11_tape 4 = .ok (.iload_n 1, 1) := by decide +kernel
theorem dX11_tape_5 : decode cX11_tape 5 = .ok (.bipush 50, 2) := by decide +kernel
theorem dX11_tape_7 : decode cX11_tape 7 = .ok (.if_icmp .le 6, 3) := by decide +kernel
theorem dX11_tape_10 : decode cX11_tape 10 = .ok (.bipush (-102), 2) := by decide +kernel
theorem dX11_tape_12 : decode cX11_tape 12 = .ok (.ireturn, 1) := by decide +kernel
theorem dX11_tape_13 : decode cX11_tape 13 = .ok (.aload_n 0, 1) := by decide +kernel
theorem dX11_tape_14 : decode cX11_tape 14 = .ok (.getfield 71, 3) := by decide +kernel
theorem dX11_tape_17 : decode cX11_tape 17 = .ok (.ifnonnull 6, 3) := by decide +kernel
theorem dX11_tape_20 : decode cX11_tape 20 = .ok (.bipush (-103), 2) := by decide +kernel
theorem dX11_tape_22 : decode cX11_tape 22 = .ok (.ireturn, 1) := by decide +kernel
set_option maxHeartbeats 4000000 in
set_option maxRecDepth 100000 in
theorem c_X11_tape (l : Launch) (D : va_G) (cy : ClassId) (x pg wr nw kp wk tr : Nat) (a : Int32) : wk_Ci l yX11_tape cX11_tape 2 (some .int) { frames := 0, cells := 0, slots := 0, locals := 0 } D cy [.ref x, .int a] [(x, .inr (11, [.ref pg, .ref wr, .ref nw, .ref kp, .ref wk, .ref tr, .null, .int 0, .int 0, .int 0]))] 0 0 (fun (r : Int32) (u : Unit) => r = if (0 ≤ a.toInt ∧ a.toInt ≤ 50) then (-103) else (-102)) (fun u => [(x, .inr (11, [.ref pg, .ref wr, .ref nw, .ref kp, .ref wk, .ref tr, .null, .int 0, .int 0, .int 0]))]) := by
  refine wk_mkCi (by decide) (Nat.le_of_ble_eq_true rfl) ?_
  intro p e s m below meth c A ls B hA hK hP hD hS hl
  obtain ⟨hx, hb, hr, hlocks, hml, hown, htb, hin⟩ := B
  have hl : lv_has ls 2 [(0, .ref x), (1, .int a)] := hl
  refine lv_iload_n hx hb dX11_tape_0 rfl (lv_at hl 1 rfl) ?_
  refine lv_if_lt (tgt := 10) hx hb dX11_tape_1 (by decide) (fun c_1 => ?_) (fun c_1 => ?_)
  · have k_1 : a.toInt < 0 := wk_lt c_1
    refine lv_bipush (v := (-102)) hx hb dX11_tape_10 (by decide) ?_
    refine W.widen (k := 0) (n := 0) (by decide) (by decide) ?_
    exact wk_iret () hx hb hr hlocks (if_neg (by omega)).symm hK hP hD hS [0] rfl rfl dX11_tape_12
  · have k_1 : ¬ a.toInt < 0 := wk_nlt c_1
    refine lv_iload_n hx hb dX11_tape_4 rfl (lv_at hl 1 rfl) ?_
    refine lv_bipush (v := 50) hx hb dX11_tape_5 (by decide) ?_
    refine lv_icmp_le (tgt := 13) hx hb dX11_tape_7 (by decide) (fun c_2 => ?_) (fun c_2 => ?_)
    · have k_2 : a.toInt ≤ 50 := wk_le c_2
      refine lv_aload_n hx hb dX11_tape_13 rfl (lv_at hl 0 rfl) ?_
      refine va_get (D := D) (ci := 11) (v := .null) (C := RX11) (T := TX11) (N := 10) hx hb htb inX11 hown hK hP 0 rfl rfl 6 (by decide) (htb _ tw_258) (fun _ h9 => h9) rfl dX11_tape_14 ?_
      refine lv_ifnonnullN hx hb dX11_tape_17 ?_
      refine lv_bipush (v := (-103)) hx hb dX11_tape_20 (by decide) ?_
      refine W.widen (k := 0) (n := 0) (by decide) (by decide) ?_
      exact wk_iret () hx hb hr hlocks (if_pos (by omega)).symm hK hP hD hS [0] rfl rfl dX11_tape_22
    · have k_2 : ¬ a.toInt ≤ 50 := wk_nle c_2
      refine lv_bipush (v := (-102)) hx hb dX11_tape_10 (by decide) ?_
      refine W.widen (k := 0) (n := 0) (by decide) (by decide) ?_
      exact wk_iret () hx hb hr hlocks (if_neg (by omega)).symm hK hP hD hS [0] rfl rfl dX11_tape_12
theorem dX11_as_0 : decode cX11_as 0 = .ok (.iload_n 1, 1) := by decide +kernel
theorem dX11_as_1 : decode cX11_as 1 = .ok (.ifCond .lt 8, 3) := by decide +kernel
theorem dX11_as_4 : decode cX11_as 4 = .ok (.iload_n 1, 1) := by decide +kernel
theorem dX11_as_5 : decode cX11_as 5 = .ok (.iconst 4, 1) := by decide +kernel
theorem dX11_as_6 : decode cX11_as 6 = .ok (.if_icmp .le 6, 3) := by decide +kernel
theorem dX11_as_9 : decode cX11_as 9 = .ok (.bipush (-102), 2) := by decide +kernel
theorem dX11_as_11 : decode cX11_as 11 = .ok (.ireturn, 1) := by decide +kernel
theorem dX11_as_12 : decode cX11_as 12 = .ok (.aload_n 0, 1) := by decide +kernel
theorem dX11_as_13 : decode cX11_as 13 = .ok (.getfield 71, 3) := by decide +kernel
theorem dX11_as_16 : decode cX11_as 16 = .ok (.ifnonnull 6, 3) := by decide +kernel
theorem dX11_as_19 : decode cX11_as 19 = .ok (.bipush (-103), 2) := by decide +kernel
theorem dX11_as_21 : decode cX11_as 21 = .ok (.ireturn, 1) := by decide +kernel
set_option maxHeartbeats 4000000 in
set_option maxRecDepth 100000 in
theorem c_X11_as (l : Launch) (D : va_G) (cy : ClassId) (x pg wr nw kp wk tr : Nat) (a : Int32) : wk_Ci l yX11_as cX11_as 2 (some .int) { frames := 0, cells := 0, slots := 0, locals := 0 } D cy [.ref x, .int a] [(x, .inr (11, [.ref pg, .ref wr, .ref nw, .ref kp, .ref wk, .ref tr, .null, .int 0, .int 0, .int 0]))] 0 0 (fun (r : Int32) (u : Unit) => r = if (0 ≤ a.toInt ∧ a.toInt ≤ 4) then (-103) else (-102)) (fun u => [(x, .inr (11, [.ref pg, .ref wr, .ref nw, .ref kp, .ref wk, .ref tr, .null, .int 0, .int 0, .int 0]))]) := by
  refine wk_mkCi (by decide) (Nat.le_of_ble_eq_true rfl) ?_
  intro p e s m below meth c A ls B hA hK hP hD hS hl
  obtain ⟨hx, hb, hr, hlocks, hml, hown, htb, hin⟩ := B
  have hl : lv_has ls 2 [(0, .ref x), (1, .int a)] := hl
  refine lv_iload_n hx hb dX11_as_0 rfl (lv_at hl 1 rfl) ?_
  refine lv_if_lt (tgt := 9) hx hb dX11_as_1 (by decide) (fun c_1 => ?_) (fun c_1 => ?_)
  · have k_1 : a.toInt < 0 := wk_lt c_1
    refine lv_bipush (v := (-102)) hx hb dX11_as_9 (by decide) ?_
    refine W.widen (k := 0) (n := 0) (by decide) (by decide) ?_
    exact wk_iret () hx hb hr hlocks (if_neg (by omega)).symm hK hP hD hS [0] rfl rfl dX11_as_11
  · have k_1 : ¬ a.toInt < 0 := wk_nlt c_1
    refine lv_iload_n hx hb dX11_as_4 rfl (lv_at hl 1 rfl) ?_
    refine lv_iconst (v := 4) hx hb dX11_as_5 (by decide) ?_
    refine lv_icmp_le (tgt := 12) hx hb dX11_as_6 (by decide) (fun c_2 => ?_) (fun c_2 => ?_)
    · have k_2 : a.toInt ≤ 4 := wk_le c_2
      refine lv_aload_n hx hb dX11_as_12 rfl (lv_at hl 0 rfl) ?_
      refine va_get (D := D) (ci := 11) (v := .null) (C := RX11) (T := TX11) (N := 10) hx hb htb inX11 hown hK hP 0 rfl rfl 6 (by decide) (htb _ tw_258) (fun _ h9 => h9) rfl dX11_as_13 ?_
      refine lv_ifnonnullN hx hb dX11_as_16 ?_
      refine lv_bipush (v := (-103)) hx hb dX11_as_19 (by decide) ?_
      refine W.widen (k := 0) (n := 0) (by decide) (by decide) ?_
      exact wk_iret () hx hb hr hlocks (if_pos (by omega)).symm hK hP hD hS [0] rfl rfl dX11_as_21
    · have k_2 : ¬ a.toInt ≤ 4 := wk_nle c_2
      refine lv_bipush (v := (-102)) hx hb dX11_as_9 (by decide) ?_
      refine W.widen (k := 0) (n := 0) (by decide) (by decide) ?_
      exact wk_iret () hx hb hr hlocks (if_neg (by omega)).symm hK hP hD hS [0] rfl rfl dX11_as_11
theorem dX11_key_0 : decode cX11_key 0 = .ok (.aload_n 0, 1) := by decide +kernel
theorem dX11_key_1 : decode cX11_key 1 = .ok (.iload_n 1, 1) := by decide +kernel
theorem dX11_key_2 : decode cX11_key 2 = .ok (.invokevirtual 102, 3) := by decide +kernel
theorem dX11_key_5 : decode cX11_key 5 = .ok (.ifCond .eq 6, 3) := by decide +kernel
theorem dX11_key_8 : decode cX11_key 8 = .ok (.bipush (-101), 2) := by decide +kernel
theorem dX11_key_10 : decode cX11_key 10 = .ok (.ireturn, 1) := by decide +kernel
set_option maxHeartbeats 4000000 in
set_option maxRecDepth 100000 in
theorem c_X11_key (l : Launch) (D : va_G) (cy : ClassId) (x pg wr nw kp wk tr nwf nws nwe nwfk nwfv nwfh nwft : Nat) (a b : Int32) : wk_Ci l yX11_key cX11_key 4 (some .int) { frames := 1, cells := 0, slots := 0, locals := 21 } D cy [.ref x, .int a, .int b] [(x, .inr (11, [.ref pg, .ref wr, .ref nw, .ref kp, .ref wk, .ref tr, .null, .int 0, .int 0, .int 0])), (nw, .inr (2, [.ref nwf, .ref nws, .ref nwe, .int 0, .int 0, .int 0])), (nwf, .inr (8, [.ref nwfk, .ref nwfv, .ref nwfh, .ref nwft, .int 0]))] 0 0 (fun (r : Int32) (u : Unit) => r = (-101)) (fun u => [(x, .inr (11, [.ref pg, .ref wr, .ref nw, .ref kp, .ref wk, .ref tr, .null, .int 0, .int 0, .int 0])), (nw, .inr (2, [.ref nwf, .ref nws, .ref nwe, .int 0, .int 0, .int 0])), (nwf, .inr (8, [.ref nwfk, .ref nwfv, .ref nwfh, .ref nwft, .int 0]))]) := by
  refine wk_mkCi (by decide) (Nat.le_of_ble_eq_true rfl) ?_
  intro p e s m below meth c A ls B hA hK hP hD hS hl
  obtain ⟨hx, hb, hr, hlocks, hml, hown, htb, hin⟩ := B
  have hl : lv_has ls 4 [(0, .ref x), (1, .int a), (2, .int b)] := hl
  refine lv_aload_n hx hb dX11_key_0 rfl (lv_at hl 0 rfl) ?_
  refine lv_iload_n hx hb dX11_key_1 rfl (lv_at hl 1 rfl) ?_
  refine wk_iV (As := [.int a]) (rest := []) (wc := [(x, .inr (11, [.ref pg, .ref wr, .ref nw, .ref kp, .ref wk, .ref tr, .null, .int 0, .int 0, .int 0])), (nw, .inr (2, [.ref nwf, .ref nws, .ref nwe, .int 0, .int 0, .int 0])), (nwf, .inr (8, [.ref nwfk, .ref nwfv, .ref nwfh, .ref nwft, .int 0]))]) (wr := []) (n := 1) (R := _) ⟨hx, hb, hml, hown, htb⟩ (c_X11_namesNoKey l D cy x pg wr nw kp wk tr nwf nws nwe nwfk nwfv nwfh nwft a ) tw_481 tw_478 tw_480 tw_7 tw_64 rfl rfl (by decide +kernel) ⟨Nat.le_of_ble_eq_true rfl, Nat.le_of_ble_eq_true rfl⟩ hK hP hD hS hA [0, 1, 2] [] rfl rfl rfl rfl (by decide) 0 (ci := 11) rfl rfl rfl hl.1 rfl (Nat.le_of_ble_eq_true rfl) dX11_key_2 ⟨Nat.le_of_ble_eq_true rfl, Nat.le_of_ble_eq_true rfl⟩ (fun r_1 u_2 H locs hw_3 hP hD hS => ?_)
  refine W.widen (k := 0) (n := 0) (by decide) (by decide) ?_
  have hw_3 : r_1 = 1 := hw_3
  subst hw_3
  have hP : va_P D classes [(x, .inr (11, [.ref pg, .ref wr, .ref nw, .ref kp, .ref wk, .ref tr, .null, .int 0, .int 0, .int 0])), (nw, .inr (2, [.ref nwf, .ref nws, .ref nwe, .int 0, .int 0, .int 0])), (nwf, .inr (8, [.ref nwfk, .ref nwfv, .ref nwfh, .ref nwft, .int 0]))] H := hP
  have hD : va_D A [(x, .inr (11, [.ref pg, .ref wr, .ref nw, .ref kp, .ref wk, .ref tr, .null, .int 0, .int 0, .int 0])), (nw, .inr (2, [.ref nwf, .ref nws, .ref nwe, .int 0, .int 0, .int 0])), (nwf, .inr (8, [.ref nwfk, .ref nwfv, .ref nwfh, .ref nwft, .int 0]))] := hD
  refine lv_if_eq (tgt := 11) hx hb dX11_key_5 (by decide) (fun c_4 => absurd c_4 (by decide)) (fun _ => ?_)
  refine lv_bipush (v := (-101)) hx hb dX11_key_8 (by decide) ?_
  refine W.widen (k := 0) (n := 0) (by decide) (by decide) ?_
  exact wk_iret () hx hb hr hlocks rfl hK hP hD hS [0, 1, 2] rfl rfl dX11_key_10
theorem dX11_lane_0 : decode cX11_lane 0 = .ok (.aload_n 0, 1) := by decide +kernel
theorem dX11_lane_1 : decode cX11_lane 1 = .ok (.getfield 71, 3) := by decide +kernel
theorem dX11_lane_4 : decode cX11_lane 4 = .ok (.ifnull 12, 3) := by decide +kernel
theorem dX11_lane_16 : decode cX11_lane 16 = .ok (.bipush (-101), 2) := by decide +kernel
theorem dX11_lane_18 : decode cX11_lane 18 = .ok (.ireturn, 1) := by decide +kernel
set_option maxHeartbeats 4000000 in
set_option maxRecDepth 100000 in
theorem c_X11_lane (l : Launch) (D : va_G) (cy : ClassId) (x pg wr nw kp wk tr : Nat) (a b : Int32) : wk_Ci l yX11_lane cX11_lane 3 (some .int) { frames := 0, cells := 0, slots := 0, locals := 0 } D cy [.ref x, .int a, .int b] [(x, .inr (11, [.ref pg, .ref wr, .ref nw, .ref kp, .ref wk, .ref tr, .null, .int 0, .int 0, .int 0]))] 0 0 (fun (r : Int32) (u : Unit) => r = (-101)) (fun u => [(x, .inr (11, [.ref pg, .ref wr, .ref nw, .ref kp, .ref wk, .ref tr, .null, .int 0, .int 0, .int 0]))]) := by
  refine wk_mkCi (by decide) (Nat.le_of_ble_eq_true rfl) ?_
  intro p e s m below meth c A ls B hA hK hP hD hS hl
  obtain ⟨hx, hb, hr, hlocks, hml, hown, htb, hin⟩ := B
  have hl : lv_has ls 3 [(0, .ref x), (1, .int a), (2, .int b)] := hl
  refine lv_aload_n hx hb dX11_lane_0 rfl (lv_at hl 0 rfl) ?_
  refine va_get (D := D) (ci := 11) (v := .null) (C := RX11) (T := TX11) (N := 10) hx hb htb inX11 hown hK hP 0 rfl rfl 6 (by decide) (htb _ tw_258) (fun _ h9 => h9) rfl dX11_lane_1 ?_
  refine lv_ifnullN (tgt := 16) hx hb dX11_lane_4 (by decide) ?_
  refine lv_bipush (v := (-101)) hx hb dX11_lane_16 (by decide) ?_
  refine W.widen (k := 0) (n := 0) (by decide) (by decide) ?_
  exact wk_iret () hx hb hr hlocks rfl hK hP hD hS [0] rfl rfl dX11_lane_18
theorem dX11_find_0 : decode cX11_find 0 = .ok (.iload_n 1, 1) := by decide +kernel
theorem dX11_find_1 : decode cX11_find 1 = .ok (.invokestatic 147, 3) := by decide +kernel
theorem dX11_find_4 : decode cX11_find 4 = .ok (.ifCond .ne 12, 3) := by decide +kernel
theorem dX11_find_7 : decode cX11_find 7 = .ok (.iload_n 2, 1) := by decide +kernel
theorem dX11_find_8 : decode cX11_find 8 = .ok (.ifCond .lt 8, 3) := by decide +kernel
theorem dX11_find_11 : decode cX11_find 11 = .ok (.iload_n 2, 1) := by decide +kernel
theorem dX11_find_12 : decode cX11_find 12 = .ok (.iconst 3, 1) := by decide +kernel
theorem dX11_find_13 : decode cX11_find 13 = .ok (.if_icmp .le 6, 3) := by decide +kernel
theorem dX11_find_16 : decode cX11_find 16 = .ok (.bipush (-102), 2) := by decide +kernel
theorem dX11_find_18 : decode cX11_find 18 = .ok (.ireturn, 1) := by decide +kernel
theorem dX11_find_19 : decode cX11_find 19 = .ok (.aload_n 0, 1) := by decide +kernel
theorem dX11_find_20 : decode cX11_find 20 = .ok (.getfield 71, 3) := by decide +kernel
theorem dX11_find_23 : decode cX11_find 23 = .ok (.ifnonnull 6, 3) := by decide +kernel
theorem dX11_find_26 : decode cX11_find 26 = .ok (.bipush (-103), 2) := by decide +kernel
theorem dX11_find_28 : decode cX11_find 28 = .ok (.ireturn, 1) := by decide +kernel
set_option maxHeartbeats 4000000 in
set_option maxRecDepth 100000 in
theorem c_X11_find (l : Launch) (D : va_G) (cy : ClassId) (x pg wr nw kp wk tr : Nat) (a b : Int32) : wk_Ci l yX11_find cX11_find 3 (some .int) { frames := 1, cells := 0, slots := 0, locals := 20 } D cy [.ref x, .int a, .int b] [(x, .inr (11, [.ref pg, .ref wr, .ref nw, .ref kp, .ref wk, .ref tr, .null, .int 0, .int 0, .int 0]))] 0 0 (fun (r : Int32) (u : Unit) => r = if (0 ≤ a.toInt ∧ a.toInt ≤ 99) ∧ (0 ≤ b.toInt ∧ b.toInt ≤ 3) then (-103) else (-102)) (fun u => [(x, .inr (11, [.ref pg, .ref wr, .ref nw, .ref kp, .ref wk, .ref tr, .null, .int 0, .int 0, .int 0]))]) := by
  refine wk_mkCi (by decide) (Nat.le_of_ble_eq_true rfl) ?_
  intro p e s m below meth c A ls B hA hK hP hD hS hl
  obtain ⟨hx, hb, hr, hlocks, hml, hown, htb, hin⟩ := B
  have hl : lv_has ls 3 [(0, .ref x), (1, .int a), (2, .int b)] := hl
  refine lv_iload_n hx hb dX11_find_0 rfl (lv_at hl 1 rfl) ?_
  refine wk_iS (As := [.int a]) (rest := []) (wc := []) (wr := [(x, .inr (11, [.ref pg, .ref wr, .ref nw, .ref kp, .ref wk, .ref tr, .null, .int 0, .int 0, .int 0]))]) (n := 1) (R := _) ⟨hx, hb, hml, hown, htb⟩ (c_X11_isNoKey l D cy  a ) tw_563 tw_561 tw_562 tw_64 rfl rfl (by decide +kernel) ⟨Nat.le_of_ble_eq_true rfl, Nat.le_of_ble_eq_true rfl⟩ hK hP hD hS hA [] [0] rfl rfl rfl rfl (by decide) rfl hl.1 rfl (Nat.le_of_ble_eq_true rfl) dX11_find_1 ⟨Nat.le_of_ble_eq_true rfl, Nat.le_of_ble_eq_true rfl⟩ (fun r_1 u_2 H locs hw_3 hP hD hS => ?_)
  refine W.widen (k := 0) (n := 0) (by decide) (by decide) ?_
  have hw_3 : r_1 = if (0 ≤ a.toInt ∧ a.toInt ≤ 99) then 0 else 1 := hw_3
  subst hw_3
  have hP : va_P D classes [(x, .inr (11, [.ref pg, .ref wr, .ref nw, .ref kp, .ref wk, .ref tr, .null, .int 0, .int 0, .int 0]))] H := hP
  have hD : va_D A [(x, .inr (11, [.ref pg, .ref wr, .ref nw, .ref kp, .ref wk, .ref tr, .null, .int 0, .int 0, .int 0]))] := hD
  refine lv_if_ne (tgt := 16) hx hb dX11_find_4 (by decide) (fun c_4 => ?_) (fun c_4 => ?_)
  · have k_4 : ¬ ((0 ≤ a.toInt ∧ a.toInt ≤ 99)) := wk_t1 c_4
    refine lv_bipush (v := (-102)) hx hb dX11_find_16 (by decide) ?_
    refine W.widen (k := 0) (n := 0) (by decide) (by decide) ?_
    exact wk_iret () hx hb hr hlocks (if_neg (by omega)).symm hK hP hD hS [0] rfl rfl dX11_find_18
  · have k_4 : (0 ≤ a.toInt ∧ a.toInt ≤ 99) := wk_t0 c_4
    refine lv_iload_n hx hb dX11_find_7 rfl (lv_at hl 2 rfl) ?_
    refine lv_if_lt (tgt := 16) hx hb dX11_find_8 (by decide) (fun c_5 => ?_) (fun c_5 => ?_)
    · have k_5 : b.toInt < 0 := wk_lt c_5
      refine lv_bipush (v := (-102)) hx hb dX11_find_16 (by decide) ?_
      refine W.widen (k := 0) (n := 0) (by decide) (by decide) ?_
      exact wk_iret () hx hb hr hlocks (if_neg (by omega)).symm hK hP hD hS [0] rfl rfl dX11_find_18
    · have k_5 : ¬ b.toInt < 0 := wk_nlt c_5
      refine lv_iload_n hx hb dX11_find_11 rfl (lv_at hl 2 rfl) ?_
      refine lv_iconst (v := 3) hx hb dX11_find_12 (by decide) ?_
      refine lv_icmp_le (tgt := 19) hx hb dX11_find_13 (by decide) (fun c_6 => ?_) (fun c_6 => ?_)
      · have k_6 : b.toInt ≤ 3 := wk_le c_6
        refine lv_aload_n hx hb dX11_find_19 rfl (lv_at hl 0 rfl) ?_
        refine va_get (D := D) (ci := 11) (v := .null) (C := RX11) (T := TX11) (N := 10) hx hb htb inX11 hown hK hP 0 rfl rfl 6 (by decide) (htb _ tw_258) (fun _ h9 => h9) rfl dX11_find_20 ?_
        refine lv_ifnonnullN hx hb dX11_find_23 ?_
        refine lv_bipush (v := (-103)) hx hb dX11_find_26 (by decide) ?_
        refine W.widen (k := 0) (n := 0) (by decide) (by decide) ?_
        exact wk_iret () hx hb hr hlocks (if_pos (by omega)).symm hK hP hD hS [0] rfl rfl dX11_find_28
      · have k_6 : ¬ b.toInt ≤ 3 := wk_nle c_6
        refine lv_bipush (v := (-102)) hx hb dX11_find_16 (by decide) ?_
        refine W.widen (k := 0) (n := 0) (by decide) (by decide) ?_
        exact wk_iret () hx hb hr hlocks (if_neg (by omega)).symm hK hP hD hS [0] rfl rfl dX11_find_18
theorem dX11_nth_0 : decode cX11_nth 0 = .ok (.aload_n 0, 1) := by decide +kernel
theorem dX11_nth_1 : decode cX11_nth 1 = .ok (.iload_n 1, 1) := by decide +kernel
theorem dX11_nth_2 : decode cX11_nth 2 = .ok (.invokevirtual 102, 3) := by decide +kernel
theorem dX11_nth_5 : decode cX11_nth 5 = .ok (.ifCond .eq 6, 3) := by decide +kernel
theorem dX11_nth_8 : decode cX11_nth 8 = .ok (.bipush (-101), 2) := by decide +kernel
theorem dX11_nth_10 : decode cX11_nth 10 = .ok (.ireturn, 1) := by decide +kernel
set_option maxHeartbeats 4000000 in
set_option maxRecDepth 100000 in
theorem c_X11_nth (l : Launch) (D : va_G) (cy : ClassId) (x pg wr nw kp wk tr nwf nws nwe nwfk nwfv nwfh nwft : Nat) (a b : Int32) : wk_Ci l yX11_nth cX11_nth 4 (some .int) { frames := 1, cells := 0, slots := 0, locals := 21 } D cy [.ref x, .int a, .int b] [(x, .inr (11, [.ref pg, .ref wr, .ref nw, .ref kp, .ref wk, .ref tr, .null, .int 0, .int 0, .int 0])), (nw, .inr (2, [.ref nwf, .ref nws, .ref nwe, .int 0, .int 0, .int 0])), (nwf, .inr (8, [.ref nwfk, .ref nwfv, .ref nwfh, .ref nwft, .int 0]))] 0 0 (fun (r : Int32) (u : Unit) => r = (-101)) (fun u => [(x, .inr (11, [.ref pg, .ref wr, .ref nw, .ref kp, .ref wk, .ref tr, .null, .int 0, .int 0, .int 0])), (nw, .inr (2, [.ref nwf, .ref nws, .ref nwe, .int 0, .int 0, .int 0])), (nwf, .inr (8, [.ref nwfk, .ref nwfv, .ref nwfh, .ref nwft, .int 0]))]) := by
  refine wk_mkCi (by decide) (Nat.le_of_ble_eq_true rfl) ?_
  intro p e s m below meth c A ls B hA hK hP hD hS hl
  obtain ⟨hx, hb, hr, hlocks, hml, hown, htb, hin⟩ := B
  have hl : lv_has ls 4 [(0, .ref x), (1, .int a), (2, .int b)] := hl
  refine lv_aload_n hx hb dX11_nth_0 rfl (lv_at hl 0 rfl) ?_
  refine lv_iload_n hx hb dX11_nth_1 rfl (lv_at hl 1 rfl) ?_
  refine wk_iV (As := [.int a]) (rest := []) (wc := [(x, .inr (11, [.ref pg, .ref wr, .ref nw, .ref kp, .ref wk, .ref tr, .null, .int 0, .int 0, .int 0])), (nw, .inr (2, [.ref nwf, .ref nws, .ref nwe, .int 0, .int 0, .int 0])), (nwf, .inr (8, [.ref nwfk, .ref nwfv, .ref nwfh, .ref nwft, .int 0]))]) (wr := []) (n := 1) (R := _) ⟨hx, hb, hml, hown, htb⟩ (c_X11_namesNoKey l D cy x pg wr nw kp wk tr nwf nws nwe nwfk nwfv nwfh nwft a ) tw_481 tw_478 tw_480 tw_7 tw_64 rfl rfl (by decide +kernel) ⟨Nat.le_of_ble_eq_true rfl, Nat.le_of_ble_eq_true rfl⟩ hK hP hD hS hA [0, 1, 2] [] rfl rfl rfl rfl (by decide) 0 (ci := 11) rfl rfl rfl hl.1 rfl (Nat.le_of_ble_eq_true rfl) dX11_nth_2 ⟨Nat.le_of_ble_eq_true rfl, Nat.le_of_ble_eq_true rfl⟩ (fun r_1 u_2 H locs hw_3 hP hD hS => ?_)
  refine W.widen (k := 0) (n := 0) (by decide) (by decide) ?_
  have hw_3 : r_1 = 1 := hw_3
  subst hw_3
  have hP : va_P D classes [(x, .inr (11, [.ref pg, .ref wr, .ref nw, .ref kp, .ref wk, .ref tr, .null, .int 0, .int 0, .int 0])), (nw, .inr (2, [.ref nwf, .ref nws, .ref nwe, .int 0, .int 0, .int 0])), (nwf, .inr (8, [.ref nwfk, .ref nwfv, .ref nwfh, .ref nwft, .int 0]))] H := hP
  have hD : va_D A [(x, .inr (11, [.ref pg, .ref wr, .ref nw, .ref kp, .ref wk, .ref tr, .null, .int 0, .int 0, .int 0])), (nw, .inr (2, [.ref nwf, .ref nws, .ref nwe, .int 0, .int 0, .int 0])), (nwf, .inr (8, [.ref nwfk, .ref nwfv, .ref nwfh, .ref nwft, .int 0]))] := hD
  refine lv_if_eq (tgt := 11) hx hb dX11_nth_5 (by decide) (fun c_4 => absurd c_4 (by decide)) (fun _ => ?_)
  refine lv_bipush (v := (-101)) hx hb dX11_nth_8 (by decide) ?_
  refine W.widen (k := 0) (n := 0) (by decide) (by decide) ?_
  exact wk_iret () hx hb hr hlocks rfl hK hP hD hS [0, 1, 2] rfl rfl dX11_nth_10
theorem dX11_sum_0 : decode cX11_sum 0 = .ok (.iload_n 1, 1) := by decide +kernel
theorem dX11_sum_1 : decode cX11_sum 1 = .ok (.invokestatic 147, 3) := by decide +kernel
theorem dX11_sum_4 : decode cX11_sum 4 = .ok (.ifCond .ne 15, 3) := by decide +kernel
theorem dX11_sum_7 : decode cX11_sum 7 = .ok (.iload_n 2, 1) := by decide +kernel
theorem dX11_sum_8 : decode cX11_sum 8 = .ok (.invokestatic 147, 3) := by decide +kernel
theorem dX11_sum_11 : decode cX11_sum 11 = .ok (.ifCond .ne 8, 3) := by decide +kernel
theorem dX11_sum_14 : decode cX11_sum 14 = .ok (.iload_n 1, 1) := by decide +kernel
theorem dX11_sum_15 : decode cX11_sum 15 = .ok (.iload_n 2, 1) := by decide +kernel
theorem dX11_sum_16 : decode cX11_sum 16 = .ok (.if_icmp .le 6, 3) := by decide +kernel
theorem dX11_sum_19 : decode cX11_sum 19 = .ok (.bipush (-102), 2) := by decide +kernel
theorem dX11_sum_21 : decode cX11_sum 21 = .ok (.ireturn, 1) := by decide +kernel
theorem dX11_sum_22 : decode cX11_sum 22 = .ok (.aload_n 0, 1) := by decide +kernel
theorem dX11_sum_23 : decode cX11_sum 23 = .ok (.getfield 71, 3) := by decide +kernel
theorem dX11_sum_26 : decode cX11_sum 26 = .ok (.ifnonnull 6, 3) := by decide +kernel
theorem dX11_sum_29 : decode cX11_sum 29 = .ok (.bipush (-103), 2) := by decide +kernel
theorem dX11_sum_31 : decode cX11_sum 31 = .ok (.ireturn, 1) := by decide +kernel
set_option maxHeartbeats 4000000 in
set_option maxRecDepth 100000 in
theorem c_X11_sum (l : Launch) (D : va_G) (cy : ClassId) (x pg wr nw kp wk tr : Nat) (a b : Int32) : wk_Ci l yX11_sum cX11_sum 3 (some .int) { frames := 1, cells := 0, slots := 0, locals := 20 } D cy [.ref x, .int a, .int b] [(x, .inr (11, [.ref pg, .ref wr, .ref nw, .ref kp, .ref wk, .ref tr, .null, .int 0, .int 0, .int 0]))] 0 0 (fun (r : Int32) (u : Unit) => r = if (0 ≤ a.toInt ∧ a.toInt ≤ 99) ∧ (0 ≤ b.toInt ∧ b.toInt ≤ 99) ∧ a.toInt ≤ b.toInt then (-103) else (-102)) (fun u => [(x, .inr (11, [.ref pg, .ref wr, .ref nw, .ref kp, .ref wk, .ref tr, .null, .int 0, .int 0, .int 0]))]) := by
  refine wk_mkCi (by decide) (Nat.le_of_ble_eq_true rfl) ?_
  intro p e s m below meth c A ls B hA hK hP hD hS hl
  obtain ⟨hx, hb, hr, hlocks, hml, hown, htb, hin⟩ := B
  have hl : lv_has ls 3 [(0, .ref x), (1, .int a), (2, .int b)] := hl
  refine lv_iload_n hx hb dX11_sum_0 rfl (lv_at hl 1 rfl) ?_
  refine wk_iS (As := [.int a]) (rest := []) (wc := []) (wr := [(x, .inr (11, [.ref pg, .ref wr, .ref nw, .ref kp, .ref wk, .ref tr, .null, .int 0, .int 0, .int 0]))]) (n := 1) (R := _) ⟨hx, hb, hml, hown, htb⟩ (c_X11_isNoKey l D cy  a ) tw_563 tw_561 tw_562 tw_64 rfl rfl (by decide +kernel) ⟨Nat.le_of_ble_eq_true rfl, Nat.le_of_ble_eq_true rfl⟩ hK hP hD hS hA [] [0] rfl rfl rfl rfl (by decide) rfl hl.1 rfl (Nat.le_of_ble_eq_true rfl) dX11_sum_1 ⟨Nat.le_of_ble_eq_true rfl, Nat.le_of_ble_eq_true rfl⟩ (fun r_1 u_2 H locs hw_3 hP hD hS => ?_)
  refine W.widen (k := 0) (n := 0) (by decide) (by decide) ?_
  have hw_3 : r_1 = if (0 ≤ a.toInt ∧ a.toInt ≤ 99) then 0 else 1 := hw_3
  subst hw_3
  have hP : va_P D classes [(x, .inr (11, [.ref pg, .ref wr, .ref nw, .ref kp, .ref wk, .ref tr, .null, .int 0, .int 0, .int 0]))] H := hP
  have hD : va_D A [(x, .inr (11, [.ref pg, .ref wr, .ref nw, .ref kp, .ref wk, .ref tr, .null, .int 0, .int 0, .int 0]))] := hD
  refine lv_if_ne (tgt := 19) hx hb dX11_sum_4 (by decide) (fun c_4 => ?_) (fun c_4 => ?_)
  · have k_4 : ¬ ((0 ≤ a.toInt ∧ a.toInt ≤ 99)) := wk_t1 c_4
    refine lv_bipush (v := (-102)) hx hb dX11_sum_19 (by decide) ?_
    refine W.widen (k := 0) (n := 0) (by decide) (by decide) ?_
    exact wk_iret () hx hb hr hlocks (if_neg (by omega)).symm hK hP hD hS [0] rfl rfl dX11_sum_21
  · have k_4 : (0 ≤ a.toInt ∧ a.toInt ≤ 99) := wk_t0 c_4
    refine lv_iload_n hx hb dX11_sum_7 rfl (lv_at hl 2 rfl) ?_
    refine wk_iS (As := [.int b]) (rest := []) (wc := []) (wr := [(x, .inr (11, [.ref pg, .ref wr, .ref nw, .ref kp, .ref wk, .ref tr, .null, .int 0, .int 0, .int 0]))]) (n := 1) (R := _) ⟨hx, hb, hml, hown, htb⟩ (c_X11_isNoKey l D cy  b ) tw_563 tw_561 tw_562 tw_64 rfl rfl (by decide +kernel) ⟨Nat.le_of_ble_eq_true rfl, Nat.le_of_ble_eq_true rfl⟩ hK hP hD hS hA [] [0] rfl rfl rfl rfl (by decide) rfl hl.1 rfl (Nat.le_of_ble_eq_true rfl) dX11_sum_8 ⟨Nat.le_of_ble_eq_true rfl, Nat.le_of_ble_eq_true rfl⟩ (fun r_5 u_6 H locs hw_7 hP hD hS => ?_)
    refine W.widen (k := 0) (n := 0) (by decide) (by decide) ?_
    have hw_7 : r_5 = if (0 ≤ b.toInt ∧ b.toInt ≤ 99) then 0 else 1 := hw_7
    subst hw_7
    have hP : va_P D classes [(x, .inr (11, [.ref pg, .ref wr, .ref nw, .ref kp, .ref wk, .ref tr, .null, .int 0, .int 0, .int 0]))] H := hP
    have hD : va_D A [(x, .inr (11, [.ref pg, .ref wr, .ref nw, .ref kp, .ref wk, .ref tr, .null, .int 0, .int 0, .int 0]))] := hD
    refine lv_if_ne (tgt := 19) hx hb dX11_sum_11 (by decide) (fun c_8 => ?_) (fun c_8 => ?_)
    · have k_8 : ¬ ((0 ≤ b.toInt ∧ b.toInt ≤ 99)) := wk_t1 c_8
      refine lv_bipush (v := (-102)) hx hb dX11_sum_19 (by decide) ?_
      refine W.widen (k := 0) (n := 0) (by decide) (by decide) ?_
      exact wk_iret () hx hb hr hlocks (if_neg (by omega)).symm hK hP hD hS [0] rfl rfl dX11_sum_21
    · have k_8 : (0 ≤ b.toInt ∧ b.toInt ≤ 99) := wk_t0 c_8
      refine lv_iload_n hx hb dX11_sum_14 rfl (lv_at hl 1 rfl) ?_
      refine lv_iload_n hx hb dX11_sum_15 rfl (lv_at hl 2 rfl) ?_
      refine lv_icmp_le (tgt := 22) hx hb dX11_sum_16 (by decide) (fun c_9 => ?_) (fun c_9 => ?_)
      · have k_9 : a.toInt ≤ b.toInt := wk_le c_9
        refine lv_aload_n hx hb dX11_sum_22 rfl (lv_at hl 0 rfl) ?_
        refine va_get (D := D) (ci := 11) (v := .null) (C := RX11) (T := TX11) (N := 10) hx hb htb inX11 hown hK hP 0 rfl rfl 6 (by decide) (htb _ tw_258) (fun _ h9 => h9) rfl dX11_sum_23 ?_
        refine lv_ifnonnullN hx hb dX11_sum_26 ?_
        refine lv_bipush (v := (-103)) hx hb dX11_sum_29 (by decide) ?_
        refine W.widen (k := 0) (n := 0) (by decide) (by decide) ?_
        exact wk_iret () hx hb hr hlocks (if_pos (by omega)).symm hK hP hD hS [0] rfl rfl dX11_sum_31
      · have k_9 : ¬ a.toInt ≤ b.toInt := wk_nle c_9
        refine lv_bipush (v := (-102)) hx hb dX11_sum_19 (by decide) ?_
        refine W.widen (k := 0) (n := 0) (by decide) (by decide) ?_
        exact wk_iret () hx hb hr hlocks (if_neg (by omega)).symm hK hP hD hS [0] rfl rfl dX11_sum_21
theorem dX11_finger_0 : decode cX11_finger 0 = .ok (.aload_n 0, 1) := by decide +kernel
theorem dX11_finger_1 : decode cX11_finger 1 = .ok (.iload_n 1, 1) := by decide +kernel
theorem dX11_finger_2 : decode cX11_finger 2 = .ok (.invokevirtual 102, 3) := by decide +kernel
theorem dX11_finger_5 : decode cX11_finger 5 = .ok (.ifCond .eq 6, 3) := by decide +kernel
theorem dX11_finger_8 : decode cX11_finger 8 = .ok (.bipush (-101), 2) := by decide +kernel
theorem dX11_finger_10 : decode cX11_finger 10 = .ok (.ireturn, 1) := by decide +kernel
set_option maxHeartbeats 4000000 in
set_option maxRecDepth 100000 in
theorem c_X11_finger (l : Launch) (D : va_G) (cy : ClassId) (x pg wr nw kp wk tr nwf nws nwe nwfk nwfv nwfh nwft : Nat) (a b d : Int32) : wk_Ci l yX11_finger cX11_finger 4 (some .int) { frames := 1, cells := 0, slots := 0, locals := 21 } D cy [.ref x, .int a, .int b, .int d] [(x, .inr (11, [.ref pg, .ref wr, .ref nw, .ref kp, .ref wk, .ref tr, .null, .int 0, .int 0, .int 0])), (nw, .inr (2, [.ref nwf, .ref nws, .ref nwe, .int 0, .int 0, .int 0])), (nwf, .inr (8, [.ref nwfk, .ref nwfv, .ref nwfh, .ref nwft, .int 0]))] 0 0 (fun (r : Int32) (u : Unit) => r = (-101)) (fun u => [(x, .inr (11, [.ref pg, .ref wr, .ref nw, .ref kp, .ref wk, .ref tr, .null, .int 0, .int 0, .int 0])), (nw, .inr (2, [.ref nwf, .ref nws, .ref nwe, .int 0, .int 0, .int 0])), (nwf, .inr (8, [.ref nwfk, .ref nwfv, .ref nwfh, .ref nwft, .int 0]))]) := by
  refine wk_mkCi (by decide) (Nat.le_of_ble_eq_true rfl) ?_
  intro p e s m below meth c A ls B hA hK hP hD hS hl
  obtain ⟨hx, hb, hr, hlocks, hml, hown, htb, hin⟩ := B
  have hl : lv_has ls 4 [(0, .ref x), (1, .int a), (2, .int b), (3, .int d)] := hl
  refine lv_aload_n hx hb dX11_finger_0 rfl (lv_at hl 0 rfl) ?_
  refine lv_iload_n hx hb dX11_finger_1 rfl (lv_at hl 1 rfl) ?_
  refine wk_iV (As := [.int a]) (rest := []) (wc := [(x, .inr (11, [.ref pg, .ref wr, .ref nw, .ref kp, .ref wk, .ref tr, .null, .int 0, .int 0, .int 0])), (nw, .inr (2, [.ref nwf, .ref nws, .ref nwe, .int 0, .int 0, .int 0])), (nwf, .inr (8, [.ref nwfk, .ref nwfv, .ref nwfh, .ref nwft, .int 0]))]) (wr := []) (n := 1) (R := _) ⟨hx, hb, hml, hown, htb⟩ (c_X11_namesNoKey l D cy x pg wr nw kp wk tr nwf nws nwe nwfk nwfv nwfh nwft a ) tw_481 tw_478 tw_480 tw_7 tw_64 rfl rfl (by decide +kernel) ⟨Nat.le_of_ble_eq_true rfl, Nat.le_of_ble_eq_true rfl⟩ hK hP hD hS hA [0, 1, 2] [] rfl rfl rfl rfl (by decide) 0 (ci := 11) rfl rfl rfl hl.1 rfl (Nat.le_of_ble_eq_true rfl) dX11_finger_2 ⟨Nat.le_of_ble_eq_true rfl, Nat.le_of_ble_eq_true rfl⟩ (fun r_1 u_2 H locs hw_3 hP hD hS => ?_)
  refine W.widen (k := 0) (n := 0) (by decide) (by decide) ?_
  have hw_3 : r_1 = 1 := hw_3
  subst hw_3
  have hP : va_P D classes [(x, .inr (11, [.ref pg, .ref wr, .ref nw, .ref kp, .ref wk, .ref tr, .null, .int 0, .int 0, .int 0])), (nw, .inr (2, [.ref nwf, .ref nws, .ref nwe, .int 0, .int 0, .int 0])), (nwf, .inr (8, [.ref nwfk, .ref nwfv, .ref nwfh, .ref nwft, .int 0]))] H := hP
  have hD : va_D A [(x, .inr (11, [.ref pg, .ref wr, .ref nw, .ref kp, .ref wk, .ref tr, .null, .int 0, .int 0, .int 0])), (nw, .inr (2, [.ref nwf, .ref nws, .ref nwe, .int 0, .int 0, .int 0])), (nwf, .inr (8, [.ref nwfk, .ref nwfv, .ref nwfh, .ref nwft, .int 0]))] := hD
  refine lv_if_eq (tgt := 11) hx hb dX11_finger_5 (by decide) (fun c_4 => absurd c_4 (by decide)) (fun _ => ?_)
  refine lv_bipush (v := (-101)) hx hb dX11_finger_8 (by decide) ?_
  refine W.widen (k := 0) (n := 0) (by decide) (by decide) ?_
  exact wk_iret () hx hb hr hlocks rfl hK hP hD hS [0, 1, 2] rfl rfl dX11_finger_10
theorem dX11_ask_0 : decode cX11_ask 0 = .ok (.iload_n 1, 1) := by decide +kernel
theorem dX11_ask_1 : decode cX11_ask 1 = .ok (.invokestatic 147, 3) := by decide +kernel
theorem dX11_ask_4 : decode cX11_ask 4 = .ok (.ifCond .eq 6, 3) := by decide +kernel
theorem dX11_ask_7 : decode cX11_ask 7 = .ok (.bipush (-102), 2) := by decide +kernel
theorem dX11_ask_9 : decode cX11_ask 9 = .ok (.ireturn, 1) := by decide +kernel
theorem dX11_ask_10 : decode cX11_ask 10 = .ok (.aload_n 0, 1) := by decide +kernel
theorem dX11_ask_11 : decode cX11_ask 11 = .ok (.getfield 71, 3) := by decide +kernel
theorem dX11_ask_14 : decode cX11_ask 14 = .ok (.ifnonnull 6, 3) := by decide +kernel
theorem dX11_ask_17 : decode cX11_ask 17 = .ok (.bipush (-103), 2) := by decide +kernel
theorem dX11_ask_19 : decode cX11_ask 19 = .ok (.ireturn, 1) := by decide +kernel
set_option maxHeartbeats 4000000 in
set_option maxRecDepth 100000 in
theorem c_X11_ask (l : Launch) (D : va_G) (cy : ClassId) (x pg wr nw kp wk tr : Nat) (a : Int32) : wk_Ci l yX11_ask cX11_ask 3 (some .int) { frames := 1, cells := 0, slots := 0, locals := 20 } D cy [.ref x, .int a] [(x, .inr (11, [.ref pg, .ref wr, .ref nw, .ref kp, .ref wk, .ref tr, .null, .int 0, .int 0, .int 0]))] 0 0 (fun (r : Int32) (u : Unit) => r = if (0 ≤ a.toInt ∧ a.toInt ≤ 99) then (-103) else (-102)) (fun u => [(x, .inr (11, [.ref pg, .ref wr, .ref nw, .ref kp, .ref wk, .ref tr, .null, .int 0, .int 0, .int 0]))]) := by
  refine wk_mkCi (by decide) (Nat.le_of_ble_eq_true rfl) ?_
  intro p e s m below meth c A ls B hA hK hP hD hS hl
  obtain ⟨hx, hb, hr, hlocks, hml, hown, htb, hin⟩ := B
  have hl : lv_has ls 3 [(0, .ref x), (1, .int a)] := hl
  refine lv_iload_n hx hb dX11_ask_0 rfl (lv_at hl 1 rfl) ?_
  refine wk_iS (As := [.int a]) (rest := []) (wc := []) (wr := [(x, .inr (11, [.ref pg, .ref wr, .ref nw, .ref kp, .ref wk, .ref tr, .null, .int 0, .int 0, .int 0]))]) (n := 1) (R := _) ⟨hx, hb, hml, hown, htb⟩ (c_X11_isNoKey l D cy  a ) tw_563 tw_561 tw_562 tw_64 rfl rfl (by decide +kernel) ⟨Nat.le_of_ble_eq_true rfl, Nat.le_of_ble_eq_true rfl⟩ hK hP hD hS hA [] [0] rfl rfl rfl rfl (by decide) rfl hl.1 rfl (Nat.le_of_ble_eq_true rfl) dX11_ask_1 ⟨Nat.le_of_ble_eq_true rfl, Nat.le_of_ble_eq_true rfl⟩ (fun r_1 u_2 H locs hw_3 hP hD hS => ?_)
  refine W.widen (k := 0) (n := 0) (by decide) (by decide) ?_
  have hw_3 : r_1 = if (0 ≤ a.toInt ∧ a.toInt ≤ 99) then 0 else 1 := hw_3
  subst hw_3
  have hP : va_P D classes [(x, .inr (11, [.ref pg, .ref wr, .ref nw, .ref kp, .ref wk, .ref tr, .null, .int 0, .int 0, .int 0]))] H := hP
  have hD : va_D A [(x, .inr (11, [.ref pg, .ref wr, .ref nw, .ref kp, .ref wk, .ref tr, .null, .int 0, .int 0, .int 0]))] := hD
  refine lv_if_eq (tgt := 10) hx hb dX11_ask_4 (by decide) (fun c_4 => ?_) (fun c_4 => ?_)
  · have k_4 : (0 ≤ a.toInt ∧ a.toInt ≤ 99) := wk_t0 c_4
    refine lv_aload_n hx hb dX11_ask_10 rfl (lv_at hl 0 rfl) ?_
    refine va_get (D := D) (ci := 11) (v := .null) (C := RX11) (T := TX11) (N := 10) hx hb htb inX11 hown hK hP 0 rfl rfl 6 (by decide) (htb _ tw_258) (fun _ h9 => h9) rfl dX11_ask_11 ?_
    refine lv_ifnonnullN hx hb dX11_ask_14 ?_
    refine lv_bipush (v := (-103)) hx hb dX11_ask_17 (by decide) ?_
    refine W.widen (k := 0) (n := 0) (by decide) (by decide) ?_
    exact wk_iret () hx hb hr hlocks (if_pos (by omega)).symm hK hP hD hS [0] rfl rfl dX11_ask_19
  · have k_4 : ¬ ((0 ≤ a.toInt ∧ a.toInt ≤ 99)) := wk_t1 c_4
    refine lv_bipush (v := (-102)) hx hb dX11_ask_7 (by decide) ?_
    refine W.widen (k := 0) (n := 0) (by decide) (by decide) ?_
    exact wk_iret () hx hb hr hlocks (if_neg (by omega)).symm hK hP hD hS [0] rfl rfl dX11_ask_9
theorem dX11_put_0 : decode cX11_put 0 = .ok (.iload_n 1, 1) := by decide +kernel
theorem dX11_put_1 : decode cX11_put 1 = .ok (.invokestatic 147, 3) := by decide +kernel
theorem dX11_put_4 : decode cX11_put 4 = .ok (.ifCond .ne 23, 3) := by decide +kernel
theorem dX11_put_7 : decode cX11_put 7 = .ok (.iload_n 2, 1) := by decide +kernel
theorem dX11_put_8 : decode cX11_put 8 = .ok (.ifCond .lt 19, 3) := by decide +kernel
theorem dX11_put_11 : decode cX11_put 11 = .ok (.iload_n 2, 1) := by decide +kernel
theorem dX11_put_12 : decode cX11_put 12 = .ok (.bipush 9, 2) := by decide +kernel
theorem dX11_put_14 : decode cX11_put 14 = .ok (.if_icmp .gt 13, 3) := by decide +kernel
theorem dX11_put_17 : decode cX11_put 17 = .ok (.iload_n 3, 1) := by decide +kernel
theorem dX11_put_18 : decode cX11_put 18 = .ok (.iconst 1, 1) := by decide +kernel
theorem dX11_put_19 : decode cX11_put 19 = .ok (.if_icmp .lt 8, 3) := by decide +kernel
theorem dX11_put_22 : decode cX11_put 22 = .ok (.iload_n 3, 1) := by decide +kernel
theorem dX11_put_23 : decode cX11_put 23 = .ok (.iconst 4, 1) := by decide +kernel
theorem dX11_put_24 : decode cX11_put 24 = .ok (.if_icmp .le 6, 3) := by decide +kernel
theorem dX11_put_27 : decode cX11_put 27 = .ok (.bipush (-102), 2) := by decide +kernel
theorem dX11_put_29 : decode cX11_put 29 = .ok (.ireturn, 1) := by decide +kernel
theorem dX11_put_30 : decode cX11_put 30 = .ok (.aload_n 0, 1) := by decide +kernel
theorem dX11_put_31 : decode cX11_put 31 = .ok (.getfield 71, 3) := by decide +kernel
theorem dX11_put_34 : decode cX11_put 34 = .ok (.ifnonnull 6, 3) := by decide +kernel
theorem dX11_put_37 : decode cX11_put 37 = .ok (.bipush (-103), 2) := by decide +kernel
theorem dX11_put_39 : decode cX11_put 39 = .ok (.ireturn, 1) := by decide +kernel
set_option maxHeartbeats 4000000 in
set_option maxRecDepth 100000 in
theorem c_X11_put (l : Launch) (D : va_G) (cy : ClassId) (x pg wr nw kp wk tr : Nat) (a b d : Int32) : wk_Ci l yX11_put cX11_put 7 (some .int) { frames := 1, cells := 0, slots := 0, locals := 20 } D cy [.ref x, .int a, .int b, .int d] [(x, .inr (11, [.ref pg, .ref wr, .ref nw, .ref kp, .ref wk, .ref tr, .null, .int 0, .int 0, .int 0]))] 0 0 (fun (r : Int32) (u : Unit) => r = if (0 ≤ a.toInt ∧ a.toInt ≤ 99) ∧ (0 ≤ b.toInt ∧ b.toInt ≤ 9) ∧ (1 ≤ d.toInt ∧ d.toInt ≤ 4) then (-103) else (-102)) (fun u => [(x, .inr (11, [.ref pg, .ref wr, .ref nw, .ref kp, .ref wk, .ref tr, .null, .int 0, .int 0, .int 0]))]) := by
  refine wk_mkCi (by decide) (Nat.le_of_ble_eq_true rfl) ?_
  intro p e s m below meth c A ls B hA hK hP hD hS hl
  obtain ⟨hx, hb, hr, hlocks, hml, hown, htb, hin⟩ := B
  have hl : lv_has ls 7 [(0, .ref x), (1, .int a), (2, .int b), (3, .int d)] := hl
  refine lv_iload_n hx hb dX11_put_0 rfl (lv_at hl 1 rfl) ?_
  refine wk_iS (As := [.int a]) (rest := []) (wc := []) (wr := [(x, .inr (11, [.ref pg, .ref wr, .ref nw, .ref kp, .ref wk, .ref tr, .null, .int 0, .int 0, .int 0]))]) (n := 1) (R := _) ⟨hx, hb, hml, hown, htb⟩ (c_X11_isNoKey l D cy  a ) tw_563 tw_561 tw_562 tw_64 rfl rfl (by decide +kernel) ⟨Nat.le_of_ble_eq_true rfl, Nat.le_of_ble_eq_true rfl⟩ hK hP hD hS hA [] [0] rfl rfl rfl rfl (by decide) rfl hl.1 rfl (Nat.le_of_ble_eq_true rfl) dX11_put_1 ⟨Nat.le_of_ble_eq_true rfl, Nat.le_of_ble_eq_true rfl⟩ (fun r_1 u_2 H locs hw_3 hP hD hS => ?_)
  refine W.widen (k := 0) (n := 0) (by decide) (by decide) ?_
  have hw_3 : r_1 = if (0 ≤ a.toInt ∧ a.toInt ≤ 99) then 0 else 1 := hw_3
  subst hw_3
  have hP : va_P D classes [(x, .inr (11, [.ref pg, .ref wr, .ref nw, .ref kp, .ref wk, .ref tr, .null, .int 0, .int 0, .int 0]))] H := hP
  have hD : va_D A [(x, .inr (11, [.ref pg, .ref wr, .ref nw, .ref kp, .ref wk, .ref tr, .null, .int 0, .int 0, .int 0]))] := hD
  refine lv_if_ne (tgt := 27) hx hb dX11_put_4 (by decide) (fun c_4 => ?_) (fun c_4 => ?_)
  · have k_4 : ¬ ((0 ≤ a.toInt ∧ a.toInt ≤ 99)) := wk_t1 c_4
    refine lv_bipush (v := (-102)) hx hb dX11_put_27 (by decide) ?_
    refine W.widen (k := 0) (n := 0) (by decide) (by decide) ?_
    exact wk_iret () hx hb hr hlocks (if_neg (by omega)).symm hK hP hD hS [0] rfl rfl dX11_put_29
  · have k_4 : (0 ≤ a.toInt ∧ a.toInt ≤ 99) := wk_t0 c_4
    refine lv_iload_n hx hb dX11_put_7 rfl (lv_at hl 2 rfl) ?_
    refine lv_if_lt (tgt := 27) hx hb dX11_put_8 (by decide) (fun c_5 => ?_) (fun c_5 => ?_)
    · have k_5 : b.toInt < 0 := wk_lt c_5
      refine lv_bipush (v := (-102)) hx hb dX11_put_27 (by decide) ?_
      refine W.widen (k := 0) (n := 0) (by decide) (by decide) ?_
      exact wk_iret () hx hb hr hlocks (if_neg (by omega)).symm hK hP hD hS [0] rfl rfl dX11_put_29
    · have k_5 : ¬ b.toInt < 0 := wk_nlt c_5
      refine lv_iload_n hx hb dX11_put_11 rfl (lv_at hl 2 rfl) ?_
      refine lv_bipush (v := 9) hx hb dX11_put_12 (by decide) ?_
      refine lv_icmp_gt (tgt := 27) hx hb dX11_put_14 (by decide) (fun c_6 => ?_) (fun c_6 => ?_)
      · have k_6 : 9 < b.toInt := wk_lt c_6
        refine lv_bipush (v := (-102)) hx hb dX11_put_27 (by decide) ?_
        refine W.widen (k := 0) (n := 0) (by decide) (by decide) ?_
        exact wk_iret () hx hb hr hlocks (if_neg (by omega)).symm hK hP hD hS [0] rfl rfl dX11_put_29
      · have k_6 : ¬ 9 < b.toInt := wk_nlt c_6
        refine lv_iload_n hx hb dX11_put_17 rfl (lv_at hl 3 rfl) ?_
        refine lv_iconst (v := 1) hx hb dX11_put_18 (by decide) ?_
        refine lv_icmp_lt (tgt := 27) hx hb dX11_put_19 (by decide) (fun c_7 => ?_) (fun c_7 => ?_)
        · have k_7 : d.toInt < 1 := wk_lt c_7
          refine lv_bipush (v := (-102)) hx hb dX11_put_27 (by decide) ?_
          refine W.widen (k := 0) (n := 0) (by decide) (by decide) ?_
          exact wk_iret () hx hb hr hlocks (if_neg (by omega)).symm hK hP hD hS [0] rfl rfl dX11_put_29
        · have k_7 : ¬ d.toInt < 1 := wk_nlt c_7
          refine lv_iload_n hx hb dX11_put_22 rfl (lv_at hl 3 rfl) ?_
          refine lv_iconst (v := 4) hx hb dX11_put_23 (by decide) ?_
          refine lv_icmp_le (tgt := 30) hx hb dX11_put_24 (by decide) (fun c_8 => ?_) (fun c_8 => ?_)
          · have k_8 : d.toInt ≤ 4 := wk_le c_8
            refine lv_aload_n hx hb dX11_put_30 rfl (lv_at hl 0 rfl) ?_
            refine va_get (D := D) (ci := 11) (v := .null) (C := RX11) (T := TX11) (N := 10) hx hb htb inX11 hown hK hP 0 rfl rfl 6 (by decide) (htb _ tw_258) (fun _ h9 => h9) rfl dX11_put_31 ?_
            refine lv_ifnonnullN hx hb dX11_put_34 ?_
            refine lv_bipush (v := (-103)) hx hb dX11_put_37 (by decide) ?_
            refine W.widen (k := 0) (n := 0) (by decide) (by decide) ?_
            exact wk_iret () hx hb hr hlocks (if_pos (by omega)).symm hK hP hD hS [0] rfl rfl dX11_put_39
          · have k_8 : ¬ d.toInt ≤ 4 := wk_nle c_8
            refine lv_bipush (v := (-102)) hx hb dX11_put_27 (by decide) ?_
            refine W.widen (k := 0) (n := 0) (by decide) (by decide) ?_
            exact wk_iret () hx hb hr hlocks (if_neg (by omega)).symm hK hP hD hS [0] rfl rfl dX11_put_29
theorem dX11_remove_0 : decode cX11_remove 0 = .ok (.iload_n 1, 1) := by decide +kernel
theorem dX11_remove_1 : decode cX11_remove 1 = .ok (.invokestatic 147, 3) := by decide +kernel
theorem dX11_remove_4 : decode cX11_remove 4 = .ok (.ifCond .eq 6, 3) := by decide +kernel
theorem dX11_remove_7 : decode cX11_remove 7 = .ok (.bipush (-102), 2) := by decide +kernel
theorem dX11_remove_9 : decode cX11_remove 9 = .ok (.ireturn, 1) := by decide +kernel
theorem dX11_remove_10 : decode cX11_remove 10 = .ok (.aload_n 0, 1) := by decide +kernel
theorem dX11_remove_11 : decode cX11_remove 11 = .ok (.getfield 22, 3) := by decide +kernel
theorem dX11_remove_14 : decode cX11_remove 14 = .ok (.getfield 77, 3) := by decide +kernel
theorem dX11_remove_17 : decode cX11_remove 17 = .ok (.astore_n 2, 1) := by decide +kernel
theorem dX11_remove_18 : decode cX11_remove 18 = .ok (.aload_n 2, 1) := by decide +kernel
theorem dX11_remove_19 : decode cX11_remove 19 = .ok (.iload_n 1, 1) := by decide +kernel
theorem dX11_remove_20 : decode cX11_remove 20 = .ok (.invokevirtual 185, 3) := by decide +kernel
theorem dX11_remove_23 : decode cX11_remove 23 = .ok (.istore_n 3, 1) := by decide +kernel
theorem dX11_remove_24 : decode cX11_remove 24 = .ok (.aload_n 0, 1) := by decide +kernel
theorem dX11_remove_25 : decode cX11_remove 25 = .ok (.getfield 71, 3) := by decide +kernel
theorem dX11_remove_28 : decode cX11_remove 28 = .ok (.ifnull 16, 3) := by decide +kernel
theorem dX11_remove_44 : decode cX11_remove 44 = .ok (.bipush (-103), 2) := by decide +kernel
theorem dX11_remove_46 : decode cX11_remove 46 = .ok (.ireturn, 1) := by decide +kernel
set_option maxHeartbeats 4000000 in
set_option maxRecDepth 100000 in
theorem c_X11_remove (l : Launch) (D : va_G) (cy : ClassId) (x pg wr nw kp wk tr nwf nws nwe nwfk nwfv nwfh nwft : Nat) (a : Int32) : wk_Ci l yX11_remove cX11_remove 5 (some .int) { frames := 2, cells := 0, slots := 0, locals := 44 } D cy [.ref x, .int a] [(x, .inr (11, [.ref pg, .ref wr, .ref nw, .ref kp, .ref wk, .ref tr, .null, .int 0, .int 0, .int 0])), (nw, .inr (2, [.ref nwf, .ref nws, .ref nwe, .int 0, .int 0, .int 0])), (nwf, .inr (8, [.ref nwfk, .ref nwfv, .ref nwfh, .ref nwft, .int 0]))] 0 0 (fun (r : Int32) (u : Unit) => r = if (0 ≤ a.toInt ∧ a.toInt ≤ 99) then (-103) else (-102)) (fun u => [(x, .inr (11, [.ref pg, .ref wr, .ref nw, .ref kp, .ref wk, .ref tr, .null, .int 0, .int 0, .int 0])), (nw, .inr (2, [.ref nwf, .ref nws, .ref nwe, .int 0, .int 0, .int 0])), (nwf, .inr (8, [.ref nwfk, .ref nwfv, .ref nwfh, .ref nwft, .int 0]))]) := by
  refine wk_mkCi (by decide) (Nat.le_of_ble_eq_true rfl) ?_
  intro p e s m below meth c A ls B hA hK hP hD hS hl
  obtain ⟨hx, hb, hr, hlocks, hml, hown, htb, hin⟩ := B
  have hl : lv_has ls 5 [(0, .ref x), (1, .int a)] := hl
  refine lv_iload_n hx hb dX11_remove_0 rfl (lv_at hl 1 rfl) ?_
  refine wk_iS (As := [.int a]) (rest := []) (wc := []) (wr := [(x, .inr (11, [.ref pg, .ref wr, .ref nw, .ref kp, .ref wk, .ref tr, .null, .int 0, .int 0, .int 0])), (nw, .inr (2, [.ref nwf, .ref nws, .ref nwe, .int 0, .int 0, .int 0])), (nwf, .inr (8, [.ref nwfk, .ref nwfv, .ref nwfh, .ref nwft, .int 0]))]) (n := 1) (R := _) ⟨hx, hb, hml, hown, htb⟩ (c_X11_isNoKey l D cy  a ) tw_563 tw_561 tw_562 tw_64 rfl rfl (by decide +kernel) ⟨Nat.le_of_ble_eq_true rfl, Nat.le_of_ble_eq_true rfl⟩ hK hP hD hS hA [] [0, 1, 2] rfl rfl rfl rfl (by decide) rfl hl.1 rfl (Nat.le_of_ble_eq_true rfl) dX11_remove_1 ⟨Nat.le_of_ble_eq_true rfl, Nat.le_of_ble_eq_true rfl⟩ (fun r_1 u_2 H locs hw_3 hP hD hS => ?_)
  refine W.widen (k := 0) (n := 0) (by decide) (by decide) ?_
  have hw_3 : r_1 = if (0 ≤ a.toInt ∧ a.toInt ≤ 99) then 0 else 1 := hw_3
  subst hw_3
  have hP : va_P D classes [(x, .inr (11, [.ref pg, .ref wr, .ref nw, .ref kp, .ref wk, .ref tr, .null, .int 0, .int 0, .int 0])), (nw, .inr (2, [.ref nwf, .ref nws, .ref nwe, .int 0, .int 0, .int 0])), (nwf, .inr (8, [.ref nwfk, .ref nwfv, .ref nwfh, .ref nwft, .int 0]))] H := hP
  have hD : va_D A [(x, .inr (11, [.ref pg, .ref wr, .ref nw, .ref kp, .ref wk, .ref tr, .null, .int 0, .int 0, .int 0])), (nw, .inr (2, [.ref nwf, .ref nws, .ref nwe, .int 0, .int 0, .int 0])), (nwf, .inr (8, [.ref nwfk, .ref nwfv, .ref nwfh, .ref nwft, .int 0]))] := hD
  refine lv_if_eq (tgt := 10) hx hb dX11_remove_4 (by decide) (fun c_4 => ?_) (fun c_4 => ?_)
  · have k_4 : (0 ≤ a.toInt ∧ a.toInt ≤ 99) := wk_t0 c_4
    refine lv_aload_n hx hb dX11_remove_10 rfl (lv_at hl 0 rfl) ?_
    refine va_get (D := D) (ci := 11) (v := .ref nw) (C := RX11) (T := TX11) (N := 10) hx hb htb inX11 hown hK hP 0 rfl rfl 2 (by decide) (htb _ tw_254) (fun _ h9 => h9) rfl dX11_remove_11 ?_
    refine va_get (D := D) (ci := 2) (v := .ref nwf) (C := RX2) (T := TX2) (N := 6) hx hb htb inX2 hown hK hP 1 rfl rfl 0 (by decide) (htb _ tw_171) (fun _ h9 => h9) rfl dX11_remove_14 ?_
    refine lv_astore_n (lv' := [(2, .ref nwf), (0, .ref x), (1, .int a)]) hx hb dX11_remove_17 rfl hl (by decide) rfl (fun ls hl => ?_)
    refine lv_aload_n hx hb dX11_remove_18 rfl (lv_at hl 0 rfl) ?_
    refine lv_iload_n hx hb dX11_remove_19 rfl (lv_at hl 2 rfl) ?_
    refine wk_iV (As := [.int a]) (rest := []) (wc := [(nwf, .inr (8, [.ref nwfk, .ref nwfv, .ref nwfh, .ref nwft, .int 0]))]) (wr := [(x, .inr (11, [.ref pg, .ref wr, .ref nw, .ref kp, .ref wk, .ref tr, .null, .int 0, .int 0, .int 0])), (nw, .inr (2, [.ref nwf, .ref nws, .ref nwe, .int 0, .int 0, .int 0]))]) (n := 1) (R := _) ⟨hx, hb, hml, hown, htb⟩ (c_X8_numberOf l D cy nwf nwfk nwfv nwfh nwft a ) tw_608 tw_605 tw_606 tw_607 tw_67 rfl rfl (by decide +kernel) ⟨Nat.le_of_ble_eq_true rfl, Nat.le_of_ble_eq_true rfl⟩ hK hP hD hS hA [2] [0, 1] rfl rfl rfl rfl (by decide) 0 (ci := 8) rfl rfl rfl hl.1 rfl (Nat.le_of_ble_eq_true rfl) dX11_remove_20 ⟨Nat.le_of_ble_eq_true rfl, Nat.le_of_ble_eq_true rfl⟩ (fun r_5 u_6 H locs hw_7 hP hD hS => ?_)
    refine W.widen (k := 0) (n := 0) (by decide) (by decide) ?_
    have hw_7 : r_5 = (-1) := hw_7
    subst hw_7
    have hP : va_P D classes [(x, .inr (11, [.ref pg, .ref wr, .ref nw, .ref kp, .ref wk, .ref tr, .null, .int 0, .int 0, .int 0])), (nw, .inr (2, [.ref nwf, .ref nws, .ref nwe, .int 0, .int 0, .int 0])), (nwf, .inr (8, [.ref nwfk, .ref nwfv, .ref nwfh, .ref nwft, .int 0]))] H := hP
    have hD : va_D A [(x, .inr (11, [.ref pg, .ref wr, .ref nw, .ref kp, .ref wk, .ref tr, .null, .int 0, .int 0, .int 0])), (nw, .inr (2, [.ref nwf, .ref nws, .ref nwe, .int 0, .int 0, .int 0])), (nwf, .inr (8, [.ref nwfk, .ref nwfv, .ref nwfh, .ref nwft, .int 0]))] := hD
    refine lv_istore_n (lv' := [(3, .int (-1)), (2, .ref nwf), (0, .ref x), (1, .int a)]) hx hb dX11_remove_23 rfl hl (by decide) rfl (fun ls hl => ?_)
    refine lv_aload_n hx hb dX11_remove_24 rfl (lv_at hl 2 rfl) ?_
    refine va_get (D := D) (ci := 11) (v := .null) (C := RX11) (T := TX11) (N := 10) hx hb htb inX11 hown hK hP 0 rfl rfl 6 (by decide) (htb _ tw_258) (fun _ h9 => h9) rfl dX11_remove_25 ?_
    refine lv_ifnullN (tgt := 44) hx hb dX11_remove_28 (by decide) ?_
    refine lv_bipush (v := (-103)) hx hb dX11_remove_44 (by decide) ?_
    refine W.widen (k := 0) (n := 0) (by decide) (by decide) ?_
    exact wk_iret () hx hb hr hlocks (if_pos (by omega)).symm hK hP hD hS [0, 1, 2] rfl rfl dX11_remove_46
  · have k_4 : ¬ ((0 ≤ a.toInt ∧ a.toInt ≤ 99)) := wk_t1 c_4
    refine lv_bipush (v := (-102)) hx hb dX11_remove_7 (by decide) ?_
    refine W.widen (k := 0) (n := 0) (by decide) (by decide) ?_
    exact wk_iret () hx hb hr hlocks (if_neg (by omega)).symm hK hP hD hS [0, 1, 2] rfl rfl dX11_remove_9
theorem dX11_split_0 : decode cX11_split 0 = .ok (.iload_n 1, 1) := by decide +kernel
theorem dX11_split_1 : decode cX11_split 1 = .ok (.invokestatic 147, 3) := by decide +kernel
theorem dX11_split_4 : decode cX11_split 4 = .ok (.ifCond .eq 6, 3) := by decide +kernel
theorem dX11_split_7 : decode cX11_split 7 = .ok (.bipush (-102), 2) := by decide +kernel
theorem dX11_split_9 : decode cX11_split 9 = .ok (.ireturn, 1) := by decide +kernel
theorem dX11_split_10 : decode cX11_split 10 = .ok (.aload_n 0, 1) := by decide +kernel
theorem dX11_split_11 : decode cX11_split 11 = .ok (.getfield 22, 3) := by decide +kernel
theorem dX11_split_14 : decode cX11_split 14 = .ok (.getfield 77, 3) := by decide +kernel
theorem dX11_split_17 : decode cX11_split 17 = .ok (.astore_n 2, 1) := by decide +kernel
theorem dX11_split_18 : decode cX11_split 18 = .ok (.aload_n 2, 1) := by decide +kernel
theorem dX11_split_19 : decode cX11_split 19 = .ok (.iload_n 1, 1) := by decide +kernel
theorem dX11_split_20 : decode cX11_split 20 = .ok (.invokevirtual 175, 3) := by decide +kernel
theorem dX11_split_23 : decode cX11_split 23 = .ok (.istore_n 3, 1) := by decide +kernel
theorem dX11_split_24 : decode cX11_split 24 = .ok (.aload_n 0, 1) := by decide +kernel
theorem dX11_split_25 : decode cX11_split 25 = .ok (.getfield 71, 3) := by decide +kernel
theorem dX11_split_28 : decode cX11_split 28 = .ok (.ifnull 29, 3) := by decide +kernel
theorem dX11_split_57 : decode cX11_split 57 = .ok (.bipush (-103), 2) := by decide +kernel
theorem dX11_split_59 : decode cX11_split 59 = .ok (.ireturn, 1) := by decide +kernel
set_option maxHeartbeats 4000000 in
set_option maxRecDepth 100000 in
theorem c_X11_split (l : Launch) (D : va_G) (cy : ClassId) (x pg wr nw kp wk tr nwf nws nwe nwfk nwfv nwfh nwft : Nat) (a : Int32) : wk_Ci l yX11_split cX11_split 4 (some .int) { frames := 1, cells := 0, slots := 0, locals := 22 } D cy [.ref x, .int a] [(x, .inr (11, [.ref pg, .ref wr, .ref nw, .ref kp, .ref wk, .ref tr, .null, .int 0, .int 0, .int 0])), (nw, .inr (2, [.ref nwf, .ref nws, .ref nwe, .int 0, .int 0, .int 0])), (nwf, .inr (8, [.ref nwfk, .ref nwfv, .ref nwfh, .ref nwft, .int 0]))] 0 0 (fun (r : Int32) (u : Unit) => r = if (0 ≤ a.toInt ∧ a.toInt ≤ 99) then (-103) else (-102)) (fun u => [(x, .inr (11, [.ref pg, .ref wr, .ref nw, .ref kp, .ref wk, .ref tr, .null, .int 0, .int 0, .int 0])), (nw, .inr (2, [.ref nwf, .ref nws, .ref nwe, .int 0, .int 0, .int 0])), (nwf, .inr (8, [.ref nwfk, .ref nwfv, .ref nwfh, .ref nwft, .int 0]))]) := by
  refine wk_mkCi (by decide) (Nat.le_of_ble_eq_true rfl) ?_
  intro p e s m below meth c A ls B hA hK hP hD hS hl
  obtain ⟨hx, hb, hr, hlocks, hml, hown, htb, hin⟩ := B
  have hl : lv_has ls 4 [(0, .ref x), (1, .int a)] := hl
  refine lv_iload_n hx hb dX11_split_0 rfl (lv_at hl 1 rfl) ?_
  refine wk_iS (As := [.int a]) (rest := []) (wc := []) (wr := [(x, .inr (11, [.ref pg, .ref wr, .ref nw, .ref kp, .ref wk, .ref tr, .null, .int 0, .int 0, .int 0])), (nw, .inr (2, [.ref nwf, .ref nws, .ref nwe, .int 0, .int 0, .int 0])), (nwf, .inr (8, [.ref nwfk, .ref nwfv, .ref nwfh, .ref nwft, .int 0]))]) (n := 1) (R := _) ⟨hx, hb, hml, hown, htb⟩ (c_X11_isNoKey l D cy  a ) tw_563 tw_561 tw_562 tw_64 rfl rfl (by decide +kernel) ⟨Nat.le_of_ble_eq_true rfl, Nat.le_of_ble_eq_true rfl⟩ hK hP hD hS hA [] [0, 1, 2] rfl rfl rfl rfl (by decide) rfl hl.1 rfl (Nat.le_of_ble_eq_true rfl) dX11_split_1 ⟨Nat.le_of_ble_eq_true rfl, Nat.le_of_ble_eq_true rfl⟩ (fun r_1 u_2 H locs hw_3 hP hD hS => ?_)
  refine W.widen (k := 0) (n := 0) (by decide) (by decide) ?_
  have hw_3 : r_1 = if (0 ≤ a.toInt ∧ a.toInt ≤ 99) then 0 else 1 := hw_3
  subst hw_3
  have hP : va_P D classes [(x, .inr (11, [.ref pg, .ref wr, .ref nw, .ref kp, .ref wk, .ref tr, .null, .int 0, .int 0, .int 0])), (nw, .inr (2, [.ref nwf, .ref nws, .ref nwe, .int 0, .int 0, .int 0])), (nwf, .inr (8, [.ref nwfk, .ref nwfv, .ref nwfh, .ref nwft, .int 0]))] H := hP
  have hD : va_D A [(x, .inr (11, [.ref pg, .ref wr, .ref nw, .ref kp, .ref wk, .ref tr, .null, .int 0, .int 0, .int 0])), (nw, .inr (2, [.ref nwf, .ref nws, .ref nwe, .int 0, .int 0, .int 0])), (nwf, .inr (8, [.ref nwfk, .ref nwfv, .ref nwfh, .ref nwft, .int 0]))] := hD
  refine lv_if_eq (tgt := 10) hx hb dX11_split_4 (by decide) (fun c_4 => ?_) (fun c_4 => ?_)
  · have k_4 : (0 ≤ a.toInt ∧ a.toInt ≤ 99) := wk_t0 c_4
    refine lv_aload_n hx hb dX11_split_10 rfl (lv_at hl 0 rfl) ?_
    refine va_get (D := D) (ci := 11) (v := .ref nw) (C := RX11) (T := TX11) (N := 10) hx hb htb inX11 hown hK hP 0 rfl rfl 2 (by decide) (htb _ tw_254) (fun _ h9 => h9) rfl dX11_split_11 ?_
    refine va_get (D := D) (ci := 2) (v := .ref nwf) (C := RX2) (T := TX2) (N := 6) hx hb htb inX2 hown hK hP 1 rfl rfl 0 (by decide) (htb _ tw_171) (fun _ h9 => h9) rfl dX11_split_14 ?_
    refine lv_astore_n (lv' := [(2, .ref nwf), (0, .ref x), (1, .int a)]) hx hb dX11_split_17 rfl hl (by decide) rfl (fun ls hl => ?_)
    refine lv_aload_n hx hb dX11_split_18 rfl (lv_at hl 0 rfl) ?_
    refine lv_iload_n hx hb dX11_split_19 rfl (lv_at hl 2 rfl) ?_
    refine wk_iV (As := [.int a]) (rest := []) (wc := [(nwf, .inr (8, [.ref nwfk, .ref nwfv, .ref nwfh, .ref nwft, .int 0]))]) (wr := [(x, .inr (11, [.ref pg, .ref wr, .ref nw, .ref kp, .ref wk, .ref tr, .null, .int 0, .int 0, .int 0])), (nw, .inr (2, [.ref nwf, .ref nws, .ref nwe, .int 0, .int 0, .int 0]))]) (n := 1) (R := _) ⟨hx, hb, hml, hown, htb⟩ (c_X8_firstNotLess l D cy nwf nwfk nwfv nwfh nwft a ) tw_595 tw_592 tw_593 tw_594 tw_67 rfl rfl (by decide +kernel) ⟨Nat.le_of_ble_eq_true rfl, Nat.le_of_ble_eq_true rfl⟩ hK hP hD hS hA [2] [0, 1] rfl rfl rfl rfl (by decide) 0 (ci := 8) rfl rfl rfl hl.1 rfl (Nat.le_of_ble_eq_true rfl) dX11_split_20 ⟨Nat.le_of_ble_eq_true rfl, Nat.le_of_ble_eq_true rfl⟩ (fun r_5 u_6 H locs hw_7 hP hD hS => ?_)
    refine W.widen (k := 0) (n := 0) (by decide) (by decide) ?_
    have hw_7 : r_5 = 0 := hw_7
    subst hw_7
    have hP : va_P D classes [(x, .inr (11, [.ref pg, .ref wr, .ref nw, .ref kp, .ref wk, .ref tr, .null, .int 0, .int 0, .int 0])), (nw, .inr (2, [.ref nwf, .ref nws, .ref nwe, .int 0, .int 0, .int 0])), (nwf, .inr (8, [.ref nwfk, .ref nwfv, .ref nwfh, .ref nwft, .int 0]))] H := hP
    have hD : va_D A [(x, .inr (11, [.ref pg, .ref wr, .ref nw, .ref kp, .ref wk, .ref tr, .null, .int 0, .int 0, .int 0])), (nw, .inr (2, [.ref nwf, .ref nws, .ref nwe, .int 0, .int 0, .int 0])), (nwf, .inr (8, [.ref nwfk, .ref nwfv, .ref nwfh, .ref nwft, .int 0]))] := hD
    refine lv_istore_n (lv' := [(3, .int 0), (2, .ref nwf), (0, .ref x), (1, .int a)]) hx hb dX11_split_23 rfl hl (by decide) rfl (fun ls hl => ?_)
    refine lv_aload_n hx hb dX11_split_24 rfl (lv_at hl 2 rfl) ?_
    refine va_get (D := D) (ci := 11) (v := .null) (C := RX11) (T := TX11) (N := 10) hx hb htb inX11 hown hK hP 0 rfl rfl 6 (by decide) (htb _ tw_258) (fun _ h9 => h9) rfl dX11_split_25 ?_
    refine lv_ifnullN (tgt := 57) hx hb dX11_split_28 (by decide) ?_
    refine lv_bipush (v := (-103)) hx hb dX11_split_57 (by decide) ?_
    refine W.widen (k := 0) (n := 0) (by decide) (by decide) ?_
    exact wk_iret () hx hb hr hlocks (if_pos (by omega)).symm hK hP hD hS [0, 1, 2] rfl rfl dX11_split_59
  · have k_4 : ¬ ((0 ≤ a.toInt ∧ a.toInt ≤ 99)) := wk_t1 c_4
    refine lv_bipush (v := (-102)) hx hb dX11_split_7 (by decide) ?_
    refine W.widen (k := 0) (n := 0) (by decide) (by decide) ?_
    exact wk_iret () hx hb hr hlocks (if_neg (by omega)).symm hK hP hD hS [0, 1, 2] rfl rfl dX11_split_9
end
section
theorem dX11_join_0 : decode cX11_join 0 = .ok (.aload_n 0, 1) := by decide +kernel
theorem dX11_join_1 : decode cX11_join 1 = .ok (.getfield 22, 3) := by decide +kernel
theorem dX11_join_4 : decode cX11_join 4 = .ok (.getfield 77, 3) := by decide +kernel
theorem dX11_join_7 : decode cX11_join 7 = .ok (.astore_n 1, 1) := by decide +kernel
theorem dX11_join_8 : decode cX11_join 8 = .ok (.aload_n 0, 1) := by decide +kernel
theorem dX11_join_9 : decode cX11_join 9 = .ok (.getfield 22, 3) := by decide +kernel
theorem dX11_join_12 : decode cX11_join 12 = .ok (.getfield 192, 3) := by decide +kernel
theorem dX11_join_15 : decode cX11_join 15 = .ok (.astore_n 2, 1) := by decide +kernel
theorem dX11_join_16 : decode cX11_join 16 = .ok (.aload_n 0, 1) := by decide +kernel
theorem dX11_join_17 : decode cX11_join 17 = .ok (.getfield 71, 3) := by decide +kernel
theorem dX11_join_20 : decode cX11_join 20 = .ok (.ifnull 23, 3) := by decide +kernel
theorem dX11_join_43 : decode cX11_join 43 = .ok (.bipush (-103), 2) := by decide +kernel
theorem dX11_join_45 : decode cX11_join 45 = .ok (.ireturn, 1) := by decide +kernel
set_option maxHeartbeats 4000000 in
set_option maxRecDepth 100000 in
theorem c_X11_join (l : Launch) (D : va_G) (cy : ClassId) (x pg wr nw kp wk tr nwf nws nwe : Nat) : wk_Ci l yX11_join cX11_join 3 (some .int) { frames := 0, cells := 0, slots := 0, locals := 0 } D cy [.ref x] [(x, .inr (11, [.ref pg, .ref wr, .ref nw, .ref kp, .ref wk, .ref tr, .null, .int 0, .int 0, .int 0])), (nw, .inr (2, [.ref nwf, .ref nws, .ref nwe, .int 0, .int 0, .int 0]))] 0 0 (fun (r : Int32) (u : Unit) => r = (-103)) (fun u => [(x, .inr (11, [.ref pg, .ref wr, .ref nw, .ref kp, .ref wk, .ref tr, .null, .int 0, .int 0, .int 0])), (nw, .inr (2, [.ref nwf, .ref nws, .ref nwe, .int 0, .int 0, .int 0]))]) := by
  refine wk_mkCi (by decide) (Nat.le_of_ble_eq_true rfl) ?_
  intro p e s m below meth c A ls B hA hK hP hD hS hl
  obtain ⟨hx, hb, hr, hlocks, hml, hown, htb, hin⟩ := B
  have hl : lv_has ls 3 [(0, .ref x)] := hl
  refine lv_aload_n hx hb dX11_join_0 rfl (lv_at hl 0 rfl) ?_
  refine va_get (D := D) (ci := 11) (v := .ref nw) (C := RX11) (T := TX11) (N := 10) hx hb htb inX11 hown hK hP 0 rfl rfl 2 (by decide) (htb _ tw_254) (fun _ h9 => h9) rfl dX11_join_1 ?_
  refine va_get (D := D) (ci := 2) (v := .ref nwf) (C := RX2) (T := TX2) (N := 6) hx hb htb inX2 hown hK hP 1 rfl rfl 0 (by decide) (htb _ tw_171) (fun _ h9 => h9) rfl dX11_join_4 ?_
  refine lv_astore_n (lv' := [(1, .ref nwf), (0, .ref x)]) hx hb dX11_join_7 rfl hl (by decide) rfl (fun ls hl => ?_)
  refine lv_aload_n hx hb dX11_join_8 rfl (lv_at hl 1 rfl) ?_
  refine va_get (D := D) (ci := 11) (v := .ref nw) (C := RX11) (T := TX11) (N := 10) hx hb htb inX11 hown hK hP 0 rfl rfl 2 (by decide) (htb _ tw_254) (fun _ h9 => h9) rfl dX11_join_9 ?_
  refine va_get (D := D) (ci := 2) (v := .ref nws) (C := RX2) (T := TX2) (N := 6) hx hb htb inX2 hown hK hP 1 rfl rfl 1 (by decide) (htb _ tw_173) (fun _ h9 => h9) rfl dX11_join_12 ?_
  refine lv_astore_n (lv' := [(2, .ref nws), (1, .ref nwf), (0, .ref x)]) hx hb dX11_join_15 rfl hl (by decide) rfl (fun ls hl => ?_)
  refine lv_aload_n hx hb dX11_join_16 rfl (lv_at hl 2 rfl) ?_
  refine va_get (D := D) (ci := 11) (v := .null) (C := RX11) (T := TX11) (N := 10) hx hb htb inX11 hown hK hP 0 rfl rfl 6 (by decide) (htb _ tw_258) (fun _ h9 => h9) rfl dX11_join_17 ?_
  refine lv_ifnullN (tgt := 43) hx hb dX11_join_20 (by decide) ?_
  refine lv_bipush (v := (-103)) hx hb dX11_join_43 (by decide) ?_
  refine W.widen (k := 0) (n := 0) (by decide) (by decide) ?_
  exact wk_iret () hx hb hr hlocks rfl hK hP hD hS [0, 1] rfl rfl dX11_join_45
theorem dX11_cost_0 : decode cX11_cost 0 = .ok (.aload_n 0, 1) := by decide +kernel
theorem dX11_cost_1 : decode cX11_cost 1 = .ok (.getfield 71, 3) := by decide +kernel
theorem dX11_cost_4 : decode cX11_cost 4 = .ok (.ifnonnull 6, 3) := by decide +kernel
theorem dX11_cost_7 : decode cX11_cost 7 = .ok (.bipush (-103), 2) := by decide +kernel
theorem dX11_cost_9 : decode cX11_cost 9 = .ok (.ireturn, 1) := by decide +kernel
set_option maxHeartbeats 4000000 in
set_option maxRecDepth 100000 in
theorem c_X11_cost (l : Launch) (D : va_G) (cy : ClassId) (x pg wr nw kp wk tr : Nat) : wk_Ci l yX11_cost cX11_cost 1 (some .int) { frames := 0, cells := 0, slots := 0, locals := 0 } D cy [.ref x] [(x, .inr (11, [.ref pg, .ref wr, .ref nw, .ref kp, .ref wk, .ref tr, .null, .int 0, .int 0, .int 0]))] 0 0 (fun (r : Int32) (u : Unit) => r = (-103)) (fun u => [(x, .inr (11, [.ref pg, .ref wr, .ref nw, .ref kp, .ref wk, .ref tr, .null, .int 0, .int 0, .int 0]))]) := by
  refine wk_mkCi (by decide) (Nat.le_of_ble_eq_true rfl) ?_
  intro p e s m below meth c A ls B hA hK hP hD hS hl
  obtain ⟨hx, hb, hr, hlocks, hml, hown, htb, hin⟩ := B
  have hl : lv_has ls 1 [(0, .ref x)] := hl
  refine lv_aload_n hx hb dX11_cost_0 rfl (lv_at hl 0 rfl) ?_
  refine va_get (D := D) (ci := 11) (v := .null) (C := RX11) (T := TX11) (N := 10) hx hb htb inX11 hown hK hP 0 rfl rfl 6 (by decide) (htb _ tw_258) (fun _ h9 => h9) rfl dX11_cost_1 ?_
  refine lv_ifnonnullN hx hb dX11_cost_4 ?_
  refine lv_bipush (v := (-103)) hx hb dX11_cost_7 (by decide) ?_
  refine W.widen (k := 0) (n := 0) (by decide) (by decide) ?_
  exact wk_iret () hx hb hr hlocks rfl hK hP hD hS [0] rfl rfl dX11_cost_9
theorem dX11_best_0 : decode cX11_best 0 = .ok (.iload_n 2, 1) := by decide +kernel
theorem dX11_best_1 : decode cX11_best 1 = .ok (.bipush 10, 2) := by decide +kernel
theorem dX11_best_3 : decode cX11_best 3 = .ok (.if_icmp .lt 13, 3) := by decide +kernel
theorem dX11_best_6 : decode cX11_best 6 = .ok (.iload_n 2, 1) := by decide +kernel
theorem dX11_best_7 : decode cX11_best 7 = .ok (.bipush 15, 2) := by decide +kernel
theorem dX11_best_9 : decode cX11_best 9 = .ok (.if_icmp .gt 7, 3) := by decide +kernel
theorem dX11_best_12 : decode cX11_best 12 = .ok (.iconst 1, 1) := by decide +kernel
theorem dX11_best_13 : decode cX11_best 13 = .ok (.goto 4, 3) := by decide +kernel
theorem dX11_best_16 : decode cX11_best 16 = .ok (.iconst 0, 1) := by decide +kernel
theorem dX11_best_17 : decode cX11_best 17 = .ok (.istore_n 3, 1) := by decide +kernel
theorem dX11_best_18 : decode cX11_best 18 = .ok (.iload_n 1, 1) := by decide +kernel
theorem dX11_best_19 : decode cX11_best 19 = .ok (.iconst 1, 1) := by decide +kernel
theorem dX11_best_20 : decode cX11_best 20 = .ok (.if_icmp .lt 22, 3) := by decide +kernel
theorem dX11_best_23 : decode cX11_best 23 = .ok (.iload_n 1, 1) := by decide +kernel
theorem dX11_best_24 : decode cX11_best 24 = .ok (.bipush 18, 2) := by decide +kernel
theorem dX11_best_26 : decode cX11_best 26 = .ok (.if_icmp .gt 16, 3) := by decide +kernel
theorem dX11_best_29 : decode cX11_best 29 = .ok (.iload_n 2, 1) := by decide +kernel
theorem dX11_best_30 : decode cX11_best 30 = .ok (.ifCond .eq 15, 3) := by decide +kernel
theorem dX11_best_33 : decode cX11_best 33 = .ok (.iload_n 2, 1) := by decide +kernel
theorem dX11_best_34 : decode cX11_best 34 = .ok (.iconst 1, 1) := by decide +kernel
theorem dX11_best_35 : decode cX11_best 35 = .ok (.if_icmp .eq 10, 3) := by decide +kernel
theorem dX11_best_38 : decode cX11_best 38 = .ok (.iload_n 3, 1) := by decide +kernel
theorem dX11_best_39 : decode cX11_best 39 = .ok (.ifCond .ne 6, 3) := by decide +kernel
theorem dX11_best_42 : decode cX11_best 42 = .ok (.bipush (-102), 2) := by decide +kernel
theorem dX11_best_44 : decode cX11_best 44 = .ok (.ireturn, 1) := by decide +kernel
theorem dX11_best_45 : decode cX11_best 45 = .ok (.aload_n 0, 1) := by decide +kernel
theorem dX11_best_46 : decode cX11_best 46 = .ok (.getfield 71, 3) := by decide +kernel
theorem dX11_best_49 : decode cX11_best 49 = .ok (.ifnull 27, 3) := by decide +kernel
theorem dX11_best_76 : decode cX11_best 76 = .ok (.bipush (-103), 2) := by decide +kernel
theorem dX11_best_78 : decode cX11_best 78 = .ok (.ireturn, 1) := by decide +kernel
set_option maxHeartbeats 4000000 in
set_option maxRecDepth 100000 in
theorem c_X11_best (l : Launch) (D : va_G) (cy : ClassId) (x pg wr nw kp wk tr : Nat) (a b : Int32) : wk_Ci l yX11_best cX11_best 4 (some .int) { frames := 0, cells := 0, slots := 0, locals := 0 } D cy [.ref x, .int a, .int b] [(x, .inr (11, [.ref pg, .ref wr, .ref nw, .ref kp, .ref wk, .ref tr, .null, .int 0, .int 0, .int 0]))] 0 0 (fun (r : Int32) (u : Unit) => r = if (1 ≤ a.toInt ∧ a.toInt ≤ 18) ∧ (b.toInt = 0 ∨ b.toInt = 1 ∨ (10 ≤ b.toInt ∧ b.toInt ≤ 15)) then (-103) else (-102)) (fun u => [(x, .inr (11, [.ref pg, .ref wr, .ref nw, .ref kp, .ref wk, .ref tr, .null, .int 0, .int 0, .int 0]))]) := by
  refine wk_mkCi (by decide) (Nat.le_of_ble_eq_true rfl) ?_
  intro p e s m below meth c A ls B hA hK hP hD hS hl
  obtain ⟨hx, hb, hr, hlocks, hml, hown, htb, hin⟩ := B
  have hl : lv_has ls 4 [(0, .ref x), (1, .int a), (2, .int b)] := hl
  refine lv_iload_n hx hb dX11_best_0 rfl (lv_at hl 2 rfl) ?_
  refine lv_bipush (v := 10) hx hb dX11_best_1 (by decide) ?_
  refine lv_icmp_lt (tgt := 16) hx hb dX11_best_3 (by decide) (fun c_1 => ?_) (fun c_1 => ?_)
  · have k_1 : b.toInt < 10 := wk_lt c_1
    refine lv_iconst (v := 0) hx hb dX11_best_16 (by decide) ?_
    refine lv_istore_n (lv' := [(3, .int 0), (0, .ref x), (1, .int a), (2, .int b)]) hx hb dX11_best_17 rfl hl (by decide) rfl (fun ls hl => ?_)
    refine lv_iload_n hx hb dX11_best_18 rfl (lv_at hl 2 rfl) ?_
    refine lv_iconst (v := 1) hx hb dX11_best_19 (by decide) ?_
    refine lv_icmp_lt (tgt := 42) hx hb dX11_best_20 (by decide) (fun c_2 => ?_) (fun c_2 => ?_)
    · have k_2 : a.toInt < 1 := wk_lt c_2
      refine lv_bipush (v := (-102)) hx hb dX11_best_42 (by decide) ?_
      refine W.widen (k := 0) (n := 0) (by decide) (by decide) ?_
      exact wk_iret () hx hb hr hlocks (if_neg (by omega)).symm hK hP hD hS [0] rfl rfl dX11_best_44
    · have k_2 : ¬ a.toInt < 1 := wk_nlt c_2
      refine lv_iload_n hx hb dX11_best_23 rfl (lv_at hl 2 rfl) ?_
      refine lv_bipush (v := 18) hx hb dX11_best_24 (by decide) ?_
      refine lv_icmp_gt (tgt := 42) hx hb dX11_best_26 (by decide) (fun c_3 => ?_) (fun c_3 => ?_)
      · have k_3 : 18 < a.toInt := wk_lt c_3
        refine lv_bipush (v := (-102)) hx hb dX11_best_42 (by decide) ?_
        refine W.widen (k := 0) (n := 0) (by decide) (by decide) ?_
        exact wk_iret () hx hb hr hlocks (if_neg (by omega)).symm hK hP hD hS [0] rfl rfl dX11_best_44
      · have k_3 : ¬ 18 < a.toInt := wk_nlt c_3
        refine lv_iload_n hx hb dX11_best_29 rfl (lv_at hl 3 rfl) ?_
        refine lv_if_eq (tgt := 45) hx hb dX11_best_30 (by decide) (fun c_4 => ?_) (fun c_4 => ?_)
        · have k_4 : b.toInt = 0 := wk_eq c_4
          refine lv_aload_n hx hb dX11_best_45 rfl (lv_at hl 1 rfl) ?_
          refine va_get (D := D) (ci := 11) (v := .null) (C := RX11) (T := TX11) (N := 10) hx hb htb inX11 hown hK hP 0 rfl rfl 6 (by decide) (htb _ tw_258) (fun _ h9 => h9) rfl dX11_best_46 ?_
          refine lv_ifnullN (tgt := 76) hx hb dX11_best_49 (by decide) ?_
          refine lv_bipush (v := (-103)) hx hb dX11_best_76 (by decide) ?_
          refine W.widen (k := 0) (n := 0) (by decide) (by decide) ?_
          exact wk_iret () hx hb hr hlocks (if_pos (by omega)).symm hK hP hD hS [0] rfl rfl dX11_best_78
        · have k_4 : ¬ b.toInt = 0 := wk_neq c_4
          refine lv_iload_n hx hb dX11_best_33 rfl (lv_at hl 3 rfl) ?_
          refine lv_iconst (v := 1) hx hb dX11_best_34 (by decide) ?_
          refine lv_icmp_eq (tgt := 45) hx hb dX11_best_35 (by decide) (fun c_5 => ?_) (fun c_5 => ?_)
          · have k_5 : b.toInt = 1 := wk_eq c_5
            refine lv_aload_n hx hb dX11_best_45 rfl (lv_at hl 1 rfl) ?_
            refine va_get (D := D) (ci := 11) (v := .null) (C := RX11) (T := TX11) (N := 10) hx hb htb inX11 hown hK hP 0 rfl rfl 6 (by decide) (htb _ tw_258) (fun _ h9 => h9) rfl dX11_best_46 ?_
            refine lv_ifnullN (tgt := 76) hx hb dX11_best_49 (by decide) ?_
            refine lv_bipush (v := (-103)) hx hb dX11_best_76 (by decide) ?_
            refine W.widen (k := 0) (n := 0) (by decide) (by decide) ?_
            exact wk_iret () hx hb hr hlocks (if_pos (by omega)).symm hK hP hD hS [0] rfl rfl dX11_best_78
          · have k_5 : ¬ b.toInt = 1 := wk_neq c_5
            refine lv_iload_n hx hb dX11_best_38 rfl (lv_at hl 0 rfl) ?_
            refine lv_if_ne (tgt := 45) hx hb dX11_best_39 (by decide) (fun c_6 => absurd (by decide) c_6) (fun _ => ?_)
            refine lv_bipush (v := (-102)) hx hb dX11_best_42 (by decide) ?_
            refine W.widen (k := 0) (n := 0) (by decide) (by decide) ?_
            exact wk_iret () hx hb hr hlocks (if_neg (by omega)).symm hK hP hD hS [0] rfl rfl dX11_best_44
  · have k_1 : ¬ b.toInt < 10 := wk_nlt c_1
    refine lv_iload_n hx hb dX11_best_6 rfl (lv_at hl 2 rfl) ?_
    refine lv_bipush (v := 15) hx hb dX11_best_7 (by decide) ?_
    refine lv_icmp_gt (tgt := 16) hx hb dX11_best_9 (by decide) (fun c_7 => ?_) (fun c_7 => ?_)
    · have k_7 : 15 < b.toInt := wk_lt c_7
      refine lv_iconst (v := 0) hx hb dX11_best_16 (by decide) ?_
      refine lv_istore_n (lv' := [(3, .int 0), (0, .ref x), (1, .int a), (2, .int b)]) hx hb dX11_best_17 rfl hl (by decide) rfl (fun ls hl => ?_)
      refine lv_iload_n hx hb dX11_best_18 rfl (lv_at hl 2 rfl) ?_
      refine lv_iconst (v := 1) hx hb dX11_best_19 (by decide) ?_
      refine lv_icmp_lt (tgt := 42) hx hb dX11_best_20 (by decide) (fun c_8 => ?_) (fun c_8 => ?_)
      · have k_8 : a.toInt < 1 := wk_lt c_8
        refine lv_bipush (v := (-102)) hx hb dX11_best_42 (by decide) ?_
        refine W.widen (k := 0) (n := 0) (by decide) (by decide) ?_
        exact wk_iret () hx hb hr hlocks (if_neg (by omega)).symm hK hP hD hS [0] rfl rfl dX11_best_44
      · have k_8 : ¬ a.toInt < 1 := wk_nlt c_8
        refine lv_iload_n hx hb dX11_best_23 rfl (lv_at hl 2 rfl) ?_
        refine lv_bipush (v := 18) hx hb dX11_best_24 (by decide) ?_
        refine lv_icmp_gt (tgt := 42) hx hb dX11_best_26 (by decide) (fun c_9 => ?_) (fun c_9 => ?_)
        · have k_9 : 18 < a.toInt := wk_lt c_9
          refine lv_bipush (v := (-102)) hx hb dX11_best_42 (by decide) ?_
          refine W.widen (k := 0) (n := 0) (by decide) (by decide) ?_
          exact wk_iret () hx hb hr hlocks (if_neg (by omega)).symm hK hP hD hS [0] rfl rfl dX11_best_44
        · have k_9 : ¬ 18 < a.toInt := wk_nlt c_9
          refine lv_iload_n hx hb dX11_best_29 rfl (lv_at hl 3 rfl) ?_
          refine lv_if_eq (tgt := 45) hx hb dX11_best_30 (by decide) (fun c_10 => ?_) (fun c_10 => ?_)
          · have k_10 : b.toInt = 0 := wk_eq c_10
            refine lv_aload_n hx hb dX11_best_45 rfl (lv_at hl 1 rfl) ?_
            refine va_get (D := D) (ci := 11) (v := .null) (C := RX11) (T := TX11) (N := 10) hx hb htb inX11 hown hK hP 0 rfl rfl 6 (by decide) (htb _ tw_258) (fun _ h9 => h9) rfl dX11_best_46 ?_
            refine lv_ifnullN (tgt := 76) hx hb dX11_best_49 (by decide) ?_
            refine lv_bipush (v := (-103)) hx hb dX11_best_76 (by decide) ?_
            refine W.widen (k := 0) (n := 0) (by decide) (by decide) ?_
            exact wk_iret () hx hb hr hlocks (if_pos (by omega)).symm hK hP hD hS [0] rfl rfl dX11_best_78
          · have k_10 : ¬ b.toInt = 0 := wk_neq c_10
            refine lv_iload_n hx hb dX11_best_33 rfl (lv_at hl 3 rfl) ?_
            refine lv_iconst (v := 1) hx hb dX11_best_34 (by decide) ?_
            refine lv_icmp_eq (tgt := 45) hx hb dX11_best_35 (by decide) (fun c_11 => ?_) (fun c_11 => ?_)
            · have k_11 : b.toInt = 1 := wk_eq c_11
              refine lv_aload_n hx hb dX11_best_45 rfl (lv_at hl 1 rfl) ?_
              refine va_get (D := D) (ci := 11) (v := .null) (C := RX11) (T := TX11) (N := 10) hx hb htb inX11 hown hK hP 0 rfl rfl 6 (by decide) (htb _ tw_258) (fun _ h9 => h9) rfl dX11_best_46 ?_
              refine lv_ifnullN (tgt := 76) hx hb dX11_best_49 (by decide) ?_
              refine lv_bipush (v := (-103)) hx hb dX11_best_76 (by decide) ?_
              refine W.widen (k := 0) (n := 0) (by decide) (by decide) ?_
              exact wk_iret () hx hb hr hlocks (if_pos (by omega)).symm hK hP hD hS [0] rfl rfl dX11_best_78
            · have k_11 : ¬ b.toInt = 1 := wk_neq c_11
              refine lv_iload_n hx hb dX11_best_38 rfl (lv_at hl 0 rfl) ?_
              refine lv_if_ne (tgt := 45) hx hb dX11_best_39 (by decide) (fun c_12 => absurd (by decide) c_12) (fun _ => ?_)
              refine lv_bipush (v := (-102)) hx hb dX11_best_42 (by decide) ?_
              refine W.widen (k := 0) (n := 0) (by decide) (by decide) ?_
              exact wk_iret () hx hb hr hlocks (if_neg (by omega)).symm hK hP hD hS [0] rfl rfl dX11_best_44
    · have k_7 : ¬ 15 < b.toInt := wk_nlt c_7
      refine lv_iconst (v := 1) hx hb dX11_best_12 (by decide) ?_
      refine lv_goto (tgt := 17) hx hb dX11_best_13 (by decide) ?_
      refine lv_istore_n (lv' := [(3, .int 1), (0, .ref x), (1, .int a), (2, .int b)]) hx hb dX11_best_17 rfl hl (by decide) rfl (fun ls hl => ?_)
      refine lv_iload_n hx hb dX11_best_18 rfl (lv_at hl 2 rfl) ?_
      refine lv_iconst (v := 1) hx hb dX11_best_19 (by decide) ?_
      refine lv_icmp_lt (tgt := 42) hx hb dX11_best_20 (by decide) (fun c_13 => ?_) (fun c_13 => ?_)
      · have k_13 : a.toInt < 1 := wk_lt c_13
        refine lv_bipush (v := (-102)) hx hb dX11_best_42 (by decide) ?_
        refine W.widen (k := 0) (n := 0) (by decide) (by decide) ?_
        exact wk_iret () hx hb hr hlocks (if_neg (by omega)).symm hK hP hD hS [0] rfl rfl dX11_best_44
      · have k_13 : ¬ a.toInt < 1 := wk_nlt c_13
        refine lv_iload_n hx hb dX11_best_23 rfl (lv_at hl 2 rfl) ?_
        refine lv_bipush (v := 18) hx hb dX11_best_24 (by decide) ?_
        refine lv_icmp_gt (tgt := 42) hx hb dX11_best_26 (by decide) (fun c_14 => ?_) (fun c_14 => ?_)
        · have k_14 : 18 < a.toInt := wk_lt c_14
          refine lv_bipush (v := (-102)) hx hb dX11_best_42 (by decide) ?_
          refine W.widen (k := 0) (n := 0) (by decide) (by decide) ?_
          exact wk_iret () hx hb hr hlocks (if_neg (by omega)).symm hK hP hD hS [0] rfl rfl dX11_best_44
        · have k_14 : ¬ 18 < a.toInt := wk_nlt c_14
          refine lv_iload_n hx hb dX11_best_29 rfl (lv_at hl 3 rfl) ?_
          refine lv_if_eq (tgt := 45) hx hb dX11_best_30 (by decide) (fun c_15 => ?_) (fun c_15 => ?_)
          · have k_15 : b.toInt = 0 := wk_eq c_15
            refine lv_aload_n hx hb dX11_best_45 rfl (lv_at hl 1 rfl) ?_
            refine va_get (D := D) (ci := 11) (v := .null) (C := RX11) (T := TX11) (N := 10) hx hb htb inX11 hown hK hP 0 rfl rfl 6 (by decide) (htb _ tw_258) (fun _ h9 => h9) rfl dX11_best_46 ?_
            refine lv_ifnullN (tgt := 76) hx hb dX11_best_49 (by decide) ?_
            refine lv_bipush (v := (-103)) hx hb dX11_best_76 (by decide) ?_
            refine W.widen (k := 0) (n := 0) (by decide) (by decide) ?_
            exact wk_iret () hx hb hr hlocks (if_pos (by omega)).symm hK hP hD hS [0] rfl rfl dX11_best_78
          · have k_15 : ¬ b.toInt = 0 := wk_neq c_15
            refine lv_iload_n hx hb dX11_best_33 rfl (lv_at hl 3 rfl) ?_
            refine lv_iconst (v := 1) hx hb dX11_best_34 (by decide) ?_
            refine lv_icmp_eq (tgt := 45) hx hb dX11_best_35 (by decide) (fun c_16 => ?_) (fun c_16 => ?_)
            · have k_16 : b.toInt = 1 := wk_eq c_16
              refine lv_aload_n hx hb dX11_best_45 rfl (lv_at hl 1 rfl) ?_
              refine va_get (D := D) (ci := 11) (v := .null) (C := RX11) (T := TX11) (N := 10) hx hb htb inX11 hown hK hP 0 rfl rfl 6 (by decide) (htb _ tw_258) (fun _ h9 => h9) rfl dX11_best_46 ?_
              refine lv_ifnullN (tgt := 76) hx hb dX11_best_49 (by decide) ?_
              refine lv_bipush (v := (-103)) hx hb dX11_best_76 (by decide) ?_
              refine W.widen (k := 0) (n := 0) (by decide) (by decide) ?_
              exact wk_iret () hx hb hr hlocks (if_pos (by omega)).symm hK hP hD hS [0] rfl rfl dX11_best_78
            · have k_16 : ¬ b.toInt = 1 := wk_neq c_16
              refine lv_iload_n hx hb dX11_best_38 rfl (lv_at hl 0 rfl) ?_
              refine lv_if_ne (tgt := 45) hx hb dX11_best_39 (by decide) (fun _ => ?_) (fun c_17 => absurd c_17 (by decide))
              refine lv_aload_n hx hb dX11_best_45 rfl (lv_at hl 1 rfl) ?_
              refine va_get (D := D) (ci := 11) (v := .null) (C := RX11) (T := TX11) (N := 10) hx hb htb inX11 hown hK hP 0 rfl rfl 6 (by decide) (htb _ tw_258) (fun _ h9 => h9) rfl dX11_best_46 ?_
              refine lv_ifnullN (tgt := 76) hx hb dX11_best_49 (by decide) ?_
              refine lv_bipush (v := (-103)) hx hb dX11_best_76 (by decide) ?_
              refine W.widen (k := 0) (n := 0) (by decide) (by decide) ?_
              exact wk_iret () hx hb hr hlocks (if_pos (by omega)).symm hK hP hD hS [0] rfl rfl dX11_best_78
theorem dX11_change_0 : decode cX11_change 0 = .ok (.iload_n 1, 1) := by decide +kernel
theorem dX11_change_1 : decode cX11_change 1 = .ok (.ifCond .lt 8, 3) := by decide +kernel
theorem dX11_change_4 : decode cX11_change 4 = .ok (.iload_n 1, 1) := by decide +kernel
theorem dX11_change_5 : decode cX11_change 5 = .ok (.iconst 2, 1) := by decide +kernel
theorem dX11_change_6 : decode cX11_change 6 = .ok (.if_icmp .le 6, 3) := by decide +kernel
theorem dX11_change_9 : decode cX11_change 9 = .ok (.bipush (-102), 2) := by decide +kernel
theorem dX11_change_11 : decode cX11_change 11 = .ok (.ireturn, 1) := by decide +kernel
theorem dX11_change_12 : decode cX11_change 12 = .ok (.aload_n 0, 1) := by decide +kernel
theorem dX11_change_13 : decode cX11_change 13 = .ok (.getfield 71, 3) := by decide +kernel
theorem dX11_change_16 : decode cX11_change 16 = .ok (.ifnonnull 6, 3) := by decide +kernel
theorem dX11_change_19 : decode cX11_change 19 = .ok (.bipush (-103), 2) := by decide +kernel
theorem dX11_change_21 : decode cX11_change 21 = .ok (.ireturn, 1) := by decide +kernel
set_option maxHeartbeats 4000000 in
set_option maxRecDepth 100000 in
theorem c_X11_change (l : Launch) (D : va_G) (cy : ClassId) (x pg wr nw kp wk tr : Nat) (a : Int32) : wk_Ci l yX11_change cX11_change 2 (some .int) { frames := 0, cells := 0, slots := 0, locals := 0 } D cy [.ref x, .int a] [(x, .inr (11, [.ref pg, .ref wr, .ref nw, .ref kp, .ref wk, .ref tr, .null, .int 0, .int 0, .int 0]))] 0 0 (fun (r : Int32) (u : Unit) => r = if (0 ≤ a.toInt ∧ a.toInt ≤ 2) then (-103) else (-102)) (fun u => [(x, .inr (11, [.ref pg, .ref wr, .ref nw, .ref kp, .ref wk, .ref tr, .null, .int 0, .int 0, .int 0]))]) := by
  refine wk_mkCi (by decide) (Nat.le_of_ble_eq_true rfl) ?_
  intro p e s m below meth c A ls B hA hK hP hD hS hl
  obtain ⟨hx, hb, hr, hlocks, hml, hown, htb, hin⟩ := B
  have hl : lv_has ls 2 [(0, .ref x), (1, .int a)] := hl
  refine lv_iload_n hx hb dX11_change_0 rfl (lv_at hl 1 rfl) ?_
  refine lv_if_lt (tgt := 9) hx hb dX11_change_1 (by decide) (fun c_1 => ?_) (fun c_1 => ?_)
  · have k_1 : a.toInt < 0 := wk_lt c_1
    refine lv_bipush (v := (-102)) hx hb dX11_change_9 (by decide) ?_
    refine W.widen (k := 0) (n := 0) (by decide) (by decide) ?_
    exact wk_iret () hx hb hr hlocks (if_neg (by omega)).symm hK hP hD hS [0] rfl rfl dX11_change_11
  · have k_1 : ¬ a.toInt < 0 := wk_nlt c_1
    refine lv_iload_n hx hb dX11_change_4 rfl (lv_at hl 1 rfl) ?_
    refine lv_iconst (v := 2) hx hb dX11_change_5 (by decide) ?_
    refine lv_icmp_le (tgt := 12) hx hb dX11_change_6 (by decide) (fun c_2 => ?_) (fun c_2 => ?_)
    · have k_2 : a.toInt ≤ 2 := wk_le c_2
      refine lv_aload_n hx hb dX11_change_12 rfl (lv_at hl 0 rfl) ?_
      refine va_get (D := D) (ci := 11) (v := .null) (C := RX11) (T := TX11) (N := 10) hx hb htb inX11 hown hK hP 0 rfl rfl 6 (by decide) (htb _ tw_258) (fun _ h9 => h9) rfl dX11_change_13 ?_
      refine lv_ifnonnullN hx hb dX11_change_16 ?_
      refine lv_bipush (v := (-103)) hx hb dX11_change_19 (by decide) ?_
      refine W.widen (k := 0) (n := 0) (by decide) (by decide) ?_
      exact wk_iret () hx hb hr hlocks (if_pos (by omega)).symm hK hP hD hS [0] rfl rfl dX11_change_21
    · have k_2 : ¬ a.toInt ≤ 2 := wk_nle c_2
      refine lv_bipush (v := (-102)) hx hb dX11_change_9 (by decide) ?_
      refine W.widen (k := 0) (n := 0) (by decide) (by decide) ?_
      exact wk_iret () hx hb hr hlocks (if_neg (by omega)).symm hK hP hD hS [0] rfl rfl dX11_change_11
theorem dX11_see_0 : decode cX11_see 0 = .ok (.aload_n 0, 1) := by decide +kernel
theorem dX11_see_1 : decode cX11_see 1 = .ok (.iload_n 1, 1) := by decide +kernel
theorem dX11_see_2 : decode cX11_see 2 = .ok (.invokevirtual 102, 3) := by decide +kernel
theorem dX11_see_5 : decode cX11_see 5 = .ok (.ifCond .eq 6, 3) := by decide +kernel
theorem dX11_see_8 : decode cX11_see 8 = .ok (.bipush (-101), 2) := by decide +kernel
theorem dX11_see_10 : decode cX11_see 10 = .ok (.ireturn, 1) := by decide +kernel
set_option maxHeartbeats 4000000 in
set_option maxRecDepth 100000 in
theorem c_X11_see (l : Launch) (D : va_G) (cy : ClassId) (x pg wr nw kp wk tr nwf nws nwe nwfk nwfv nwfh nwft : Nat) (a b d : Int32) : wk_Ci l yX11_see cX11_see 4 (some .int) { frames := 1, cells := 0, slots := 0, locals := 21 } D cy [.ref x, .int a, .int b, .int d] [(x, .inr (11, [.ref pg, .ref wr, .ref nw, .ref kp, .ref wk, .ref tr, .null, .int 0, .int 0, .int 0])), (nw, .inr (2, [.ref nwf, .ref nws, .ref nwe, .int 0, .int 0, .int 0])), (nwf, .inr (8, [.ref nwfk, .ref nwfv, .ref nwfh, .ref nwft, .int 0]))] 0 0 (fun (r : Int32) (u : Unit) => r = (-101)) (fun u => [(x, .inr (11, [.ref pg, .ref wr, .ref nw, .ref kp, .ref wk, .ref tr, .null, .int 0, .int 0, .int 0])), (nw, .inr (2, [.ref nwf, .ref nws, .ref nwe, .int 0, .int 0, .int 0])), (nwf, .inr (8, [.ref nwfk, .ref nwfv, .ref nwfh, .ref nwft, .int 0]))]) := by
  refine wk_mkCi (by decide) (Nat.le_of_ble_eq_true rfl) ?_
  intro p e s m below meth c A ls B hA hK hP hD hS hl
  obtain ⟨hx, hb, hr, hlocks, hml, hown, htb, hin⟩ := B
  have hl : lv_has ls 4 [(0, .ref x), (1, .int a), (2, .int b), (3, .int d)] := hl
  refine lv_aload_n hx hb dX11_see_0 rfl (lv_at hl 0 rfl) ?_
  refine lv_iload_n hx hb dX11_see_1 rfl (lv_at hl 1 rfl) ?_
  refine wk_iV (As := [.int a]) (rest := []) (wc := [(x, .inr (11, [.ref pg, .ref wr, .ref nw, .ref kp, .ref wk, .ref tr, .null, .int 0, .int 0, .int 0])), (nw, .inr (2, [.ref nwf, .ref nws, .ref nwe, .int 0, .int 0, .int 0])), (nwf, .inr (8, [.ref nwfk, .ref nwfv, .ref nwfh, .ref nwft, .int 0]))]) (wr := []) (n := 1) (R := _) ⟨hx, hb, hml, hown, htb⟩ (c_X11_namesNoKey l D cy x pg wr nw kp wk tr nwf nws nwe nwfk nwfv nwfh nwft a ) tw_481 tw_478 tw_480 tw_7 tw_64 rfl rfl (by decide +kernel) ⟨Nat.le_of_ble_eq_true rfl, Nat.le_of_ble_eq_true rfl⟩ hK hP hD hS hA [0, 1, 2] [] rfl rfl rfl rfl (by decide) 0 (ci := 11) rfl rfl rfl hl.1 rfl (Nat.le_of_ble_eq_true rfl) dX11_see_2 ⟨Nat.le_of_ble_eq_true rfl, Nat.le_of_ble_eq_true rfl⟩ (fun r_1 u_2 H locs hw_3 hP hD hS => ?_)
  refine W.widen (k := 0) (n := 0) (by decide) (by decide) ?_
  have hw_3 : r_1 = 1 := hw_3
  subst hw_3
  have hP : va_P D classes [(x, .inr (11, [.ref pg, .ref wr, .ref nw, .ref kp, .ref wk, .ref tr, .null, .int 0, .int 0, .int 0])), (nw, .inr (2, [.ref nwf, .ref nws, .ref nwe, .int 0, .int 0, .int 0])), (nwf, .inr (8, [.ref nwfk, .ref nwfv, .ref nwfh, .ref nwft, .int 0]))] H := hP
  have hD : va_D A [(x, .inr (11, [.ref pg, .ref wr, .ref nw, .ref kp, .ref wk, .ref tr, .null, .int 0, .int 0, .int 0])), (nw, .inr (2, [.ref nwf, .ref nws, .ref nwe, .int 0, .int 0, .int 0])), (nwf, .inr (8, [.ref nwfk, .ref nwfv, .ref nwfh, .ref nwft, .int 0]))] := hD
  refine lv_if_eq (tgt := 11) hx hb dX11_see_5 (by decide) (fun c_4 => absurd c_4 (by decide)) (fun _ => ?_)
  refine lv_bipush (v := (-101)) hx hb dX11_see_8 (by decide) ?_
  refine W.widen (k := 0) (n := 0) (by decide) (by decide) ?_
  exact wk_iret () hx hb hr hlocks rfl hK hP hD hS [0, 1, 2] rfl rfl dX11_see_10
theorem dX11_forget_0 : decode cX11_forget 0 = .ok (.aload_n 0, 1) := by decide +kernel
theorem dX11_forget_1 : decode cX11_forget 1 = .ok (.getfield 22, 3) := by decide +kernel
theorem dX11_forget_4 : decode cX11_forget 4 = .ok (.getfield 123, 3) := by decide +kernel
theorem dX11_forget_7 : decode cX11_forget 7 = .ok (.invokevirtual 237, 3) := by decide +kernel
theorem dX11_forget_10 : decode cX11_forget 10 = .ok (.ireturn, 1) := by decide +kernel
set_option maxHeartbeats 4000000 in
set_option maxRecDepth 100000 in
theorem c_X11_forget (l : Launch) (D : va_G) (cy : ClassId) (x pg wr nw kp wk tr nwf nws nwe nwea nweb nwec : Nat) : wk_Ci l yX11_forget cX11_forget 1 (some .int) { frames := 1, cells := 0, slots := 0, locals := 21 } D cy [.ref x] [(x, .inr (11, [.ref pg, .ref wr, .ref nw, .ref kp, .ref wk, .ref tr, .null, .int 0, .int 0, .int 0])), (nw, .inr (2, [.ref nwf, .ref nws, .ref nwe, .int 0, .int 0, .int 0])), (nwe, .inr (4, [.ref nwea, .ref nweb, .ref nwec, .int 0]))] 0 0 (fun (r : Int32) (u : Unit) => r = 0) (fun u => []) := by
  refine wk_mkCi (by decide) (Nat.le_of_ble_eq_true rfl) ?_
  intro p e s m below meth c A ls B hA hK hP hD hS hl
  obtain ⟨hx, hb, hr, hlocks, hml, hown, htb, hin⟩ := B
  have hl : lv_has ls 1 [(0, .ref x)] := hl
  refine lv_aload_n hx hb dX11_forget_0 rfl (lv_at hl 0 rfl) ?_
  refine va_get (D := D) (ci := 11) (v := .ref nw) (C := RX11) (T := TX11) (N := 10) hx hb htb inX11 hown hK hP 0 rfl rfl 2 (by decide) (htb _ tw_254) (fun _ h9 => h9) rfl dX11_forget_1 ?_
  refine va_get (D := D) (ci := 2) (v := .ref nwe) (C := RX2) (T := TX2) (N := 6) hx hb htb inX2 hown hK hP 1 rfl rfl 2 (by decide) (htb _ tw_175) (fun _ h9 => h9) rfl dX11_forget_4 ?_
  refine wk_iV (As := []) (rest := []) (wc := [(nwe, .inr (4, [.ref nwea, .ref nweb, .ref nwec, .int 0]))]) (wr := [(x, .inr (11, [.ref pg, .ref wr, .ref nw, .ref kp, .ref wk, .ref tr, .null, .int 0, .int 0, .int 0])), (nw, .inr (2, [.ref nwf, .ref nws, .ref nwe, .int 0, .int 0, .int 0]))]) (n := 0) (R := _) ⟨hx, hb, hml, hown, htb⟩ (c_X4_clear l D cy nwe nwea nweb nwec  ) tw_377 tw_687 tw_375 tw_376 tw_68 rfl rfl (by decide +kernel) ⟨Nat.le_of_ble_eq_true rfl, Nat.le_of_ble_eq_true rfl⟩ hK hP hD hS hA [2] [0, 1] rfl rfl rfl rfl (by decide) 0 (ci := 4) rfl rfl rfl hl.1 rfl (Nat.le_of_ble_eq_true rfl) dX11_forget_7 ⟨Nat.le_of_ble_eq_true rfl, Nat.le_of_ble_eq_true rfl⟩ (fun r_1 u_2 H locs hw_3 hP hD hS => ?_)
  refine W.widen (k := 0) (n := 0) (by decide) (by decide) ?_
  have hw_3 : r_1 = 0 := hw_3
  subst hw_3
  have hP : va_P D classes [(x, .inr (11, [.ref pg, .ref wr, .ref nw, .ref kp, .ref wk, .ref tr, .null, .int 0, .int 0, .int 0])), (nw, .inr (2, [.ref nwf, .ref nws, .ref nwe, .int 0, .int 0, .int 0]))] H := hP
  have hD : va_D A [(x, .inr (11, [.ref pg, .ref wr, .ref nw, .ref kp, .ref wk, .ref tr, .null, .int 0, .int 0, .int 0])), (nw, .inr (2, [.ref nwf, .ref nws, .ref nwe, .int 0, .int 0, .int 0]))] := hD
  refine W.widen (k := 0) (n := 0) (by decide) (by decide) ?_
  exact wk_iret () hx hb hr hlocks rfl hK hP hD hS [] rfl rfl dX11_forget_10
theorem dX11_rounds_0 : decode cX11_rounds 0 = .ok (.iload_n 1, 1) := by decide +kernel
theorem dX11_rounds_1 : decode cX11_rounds 1 = .ok (.iconst 1, 1) := by decide +kernel
theorem dX11_rounds_2 : decode cX11_rounds 2 = .ok (.if_icmp .lt 22, 3) := by decide +kernel
theorem dX11_rounds_5 : decode cX11_rounds 5 = .ok (.iload_n 1, 1) := by decide +kernel
theorem dX11_rounds_6 : decode cX11_rounds 6 = .ok (.bipush 60, 2) := by decide +kernel
theorem dX11_rounds_8 : decode cX11_rounds 8 = .ok (.if_icmp .gt 16, 3) := by decide +kernel
theorem dX11_rounds_11 : decode cX11_rounds 11 = .ok (.iload_n 2, 1) := by decide +kernel
theorem dX11_rounds_12 : decode cX11_rounds 12 = .ok (.ifCond .lt 12, 3) := by decide +kernel
theorem dX11_rounds_15 : decode cX11_rounds 15 = .ok (.iload_n 3, 1) := by decide +kernel
theorem dX11_rounds_16 : decode cX11_rounds 16 = .ok (.ifCond .lt 8, 3) := by decide +kernel
theorem dX11_rounds_19 : decode cX11_rounds 19 = .ok (.iload_n 3, 1) := by decide +kernel
theorem dX11_rounds_20 : decode cX11_rounds 20 = .ok (.iconst 2, 1) := by decide +kernel
theorem dX11_rounds_21 : decode cX11_rounds 21 = .ok (.if_icmp .le 6, 3) := by decide +kernel
theorem dX11_rounds_24 : decode cX11_rounds 24 = .ok (.bipush (-102), 2) := by decide +kernel
theorem dX11_rounds_26 : decode cX11_rounds 26 = .ok (.ireturn, 1) := by decide +kernel
theorem dX11_rounds_27 : decode cX11_rounds 27 = .ok (.aload_n 0, 1) := by decide +kernel
theorem dX11_rounds_28 : decode cX11_rounds 28 = .ok (.getfield 71, 3) := by decide +kernel
theorem dX11_rounds_31 : decode cX11_rounds 31 = .ok (.ifnonnull 6, 3) := by decide +kernel
theorem dX11_rounds_34 : decode cX11_rounds 34 = .ok (.bipush (-103), 2) := by decide +kernel
theorem dX11_rounds_36 : decode cX11_rounds 36 = .ok (.ireturn, 1) := by decide +kernel
set_option maxHeartbeats 4000000 in
set_option maxRecDepth 100000 in
theorem c_X11_rounds (l : Launch) (D : va_G) (cy : ClassId) (x pg wr nw kp wk tr : Nat) (a b d : Int32) : wk_Ci l yX11_rounds cX11_rounds 8 (some .int) { frames := 0, cells := 0, slots := 0, locals := 0 } D cy [.ref x, .int a, .int b, .int d] [(x, .inr (11, [.ref pg, .ref wr, .ref nw, .ref kp, .ref wk, .ref tr, .null, .int 0, .int 0, .int 0]))] 0 0 (fun (r : Int32) (u : Unit) => r = if (1 ≤ a.toInt ∧ a.toInt ≤ 60) ∧ 0 ≤ b.toInt ∧ (0 ≤ d.toInt ∧ d.toInt ≤ 2) then (-103) else (-102)) (fun u => [(x, .inr (11, [.ref pg, .ref wr, .ref nw, .ref kp, .ref wk, .ref tr, .null, .int 0, .int 0, .int 0]))]) := by
  refine wk_mkCi (by decide) (Nat.le_of_ble_eq_true rfl) ?_
  intro p e s m below meth c A ls B hA hK hP hD hS hl
  obtain ⟨hx, hb, hr, hlocks, hml, hown, htb, hin⟩ := B
  have hl : lv_has ls 8 [(0, .ref x), (1, .int a), (2, .int b), (3, .int d)] := hl
  refine lv_iload_n hx hb dX11_rounds_0 rfl (lv_at hl 1 rfl) ?_
  refine lv_iconst (v := 1) hx hb dX11_rounds_1 (by decide) ?_
  refine lv_icmp_lt (tgt := 24) hx hb dX11_rounds_2 (by decide) (fun c_1 => ?_) (fun c_1 => ?_)
  · have k_1 : a.toInt < 1 := wk_lt c_1
    refine lv_bipush (v := (-102)) hx hb dX11_rounds_24 (by decide) ?_
    refine W.widen (k := 0) (n := 0) (by decide) (by decide) ?_
    exact wk_iret () hx hb hr hlocks (if_neg (by omega)).symm hK hP hD hS [0] rfl rfl dX11_rounds_26
  · have k_1 : ¬ a.toInt < 1 := wk_nlt c_1
    refine lv_iload_n hx hb dX11_rounds_5 rfl (lv_at hl 1 rfl) ?_
    refine lv_bipush (v := 60) hx hb dX11_rounds_6 (by decide) ?_
    refine lv_icmp_gt (tgt := 24) hx hb dX11_rounds_8 (by decide) (fun c_2 => ?_) (fun c_2 => ?_)
    · have k_2 : 60 < a.toInt := wk_lt c_2
      refine lv_bipush (v := (-102)) hx hb dX11_rounds_24 (by decide) ?_
      refine W.widen (k := 0) (n := 0) (by decide) (by decide) ?_
      exact wk_iret () hx hb hr hlocks (if_neg (by omega)).symm hK hP hD hS [0] rfl rfl dX11_rounds_26
    · have k_2 : ¬ 60 < a.toInt := wk_nlt c_2
      refine lv_iload_n hx hb dX11_rounds_11 rfl (lv_at hl 2 rfl) ?_
      refine lv_if_lt (tgt := 24) hx hb dX11_rounds_12 (by decide) (fun c_3 => ?_) (fun c_3 => ?_)
      · have k_3 : b.toInt < 0 := wk_lt c_3
        refine lv_bipush (v := (-102)) hx hb dX11_rounds_24 (by decide) ?_
        refine W.widen (k := 0) (n := 0) (by decide) (by decide) ?_
        exact wk_iret () hx hb hr hlocks (if_neg (by omega)).symm hK hP hD hS [0] rfl rfl dX11_rounds_26
      · have k_3 : ¬ b.toInt < 0 := wk_nlt c_3
        refine lv_iload_n hx hb dX11_rounds_15 rfl (lv_at hl 3 rfl) ?_
        refine lv_if_lt (tgt := 24) hx hb dX11_rounds_16 (by decide) (fun c_4 => ?_) (fun c_4 => ?_)
        · have k_4 : d.toInt < 0 := wk_lt c_4
          refine lv_bipush (v := (-102)) hx hb dX11_rounds_24 (by decide) ?_
          refine W.widen (k := 0) (n := 0) (by decide) (by decide) ?_
          exact wk_iret () hx hb hr hlocks (if_neg (by omega)).symm hK hP hD hS [0] rfl rfl dX11_rounds_26
        · have k_4 : ¬ d.toInt < 0 := wk_nlt c_4
          refine lv_iload_n hx hb dX11_rounds_19 rfl (lv_at hl 3 rfl) ?_
          refine lv_iconst (v := 2) hx hb dX11_rounds_20 (by decide) ?_
          refine lv_icmp_le (tgt := 27) hx hb dX11_rounds_21 (by decide) (fun c_5 => ?_) (fun c_5 => ?_)
          · have k_5 : d.toInt ≤ 2 := wk_le c_5
            refine lv_aload_n hx hb dX11_rounds_27 rfl (lv_at hl 0 rfl) ?_
            refine va_get (D := D) (ci := 11) (v := .null) (C := RX11) (T := TX11) (N := 10) hx hb htb inX11 hown hK hP 0 rfl rfl 6 (by decide) (htb _ tw_258) (fun _ h9 => h9) rfl dX11_rounds_28 ?_
            refine lv_ifnonnullN hx hb dX11_rounds_31 ?_
            refine lv_bipush (v := (-103)) hx hb dX11_rounds_34 (by decide) ?_
            refine W.widen (k := 0) (n := 0) (by decide) (by decide) ?_
            exact wk_iret () hx hb hr hlocks (if_pos (by omega)).symm hK hP hD hS [0] rfl rfl dX11_rounds_36
          · have k_5 : ¬ d.toInt ≤ 2 := wk_nle c_5
            refine lv_bipush (v := (-102)) hx hb dX11_rounds_24 (by decide) ?_
            refine W.widen (k := 0) (n := 0) (by decide) (by decide) ?_
            exact wk_iret () hx hb hr hlocks (if_neg (by omega)).symm hK hP hD hS [0] rfl rfl dX11_rounds_26
theorem dX11_image_0 : decode cX11_image 0 = .ok (.aload_n 0, 1) := by decide +kernel
theorem dX11_image_1 : decode cX11_image 1 = .ok (.getfield 71, 3) := by decide +kernel
theorem dX11_image_4 : decode cX11_image 4 = .ok (.ifnonnull 6, 3) := by decide +kernel
theorem dX11_image_7 : decode cX11_image 7 = .ok (.bipush (-103), 2) := by decide +kernel
theorem dX11_image_9 : decode cX11_image 9 = .ok (.ireturn, 1) := by decide +kernel
set_option maxHeartbeats 4000000 in
set_option maxRecDepth 100000 in
theorem c_X11_image (l : Launch) (D : va_G) (cy : ClassId) (x pg wr nw kp wk tr : Nat) : wk_Ci l yX11_image cX11_image 1 (some .int) { frames := 0, cells := 0, slots := 0, locals := 0 } D cy [.ref x] [(x, .inr (11, [.ref pg, .ref wr, .ref nw, .ref kp, .ref wk, .ref tr, .null, .int 0, .int 0, .int 0]))] 0 0 (fun (r : Int32) (u : Unit) => r = (-103)) (fun u => [(x, .inr (11, [.ref pg, .ref wr, .ref nw, .ref kp, .ref wk, .ref tr, .null, .int 0, .int 0, .int 0]))]) := by
  refine wk_mkCi (by decide) (Nat.le_of_ble_eq_true rfl) ?_
  intro p e s m below meth c A ls B hA hK hP hD hS hl
  obtain ⟨hx, hb, hr, hlocks, hml, hown, htb, hin⟩ := B
  have hl : lv_has ls 1 [(0, .ref x)] := hl
  refine lv_aload_n hx hb dX11_image_0 rfl (lv_at hl 0 rfl) ?_
  refine va_get (D := D) (ci := 11) (v := .null) (C := RX11) (T := TX11) (N := 10) hx hb htb inX11 hown hK hP 0 rfl rfl 6 (by decide) (htb _ tw_258) (fun _ h9 => h9) rfl dX11_image_1 ?_
  refine lv_ifnonnullN hx hb dX11_image_4 ?_
  refine lv_bipush (v := (-103)) hx hb dX11_image_7 (by decide) ?_
  refine W.widen (k := 0) (n := 0) (by decide) (by decide) ?_
  exact wk_iret () hx hb hr hlocks rfl hK hP hD hS [0] rfl rfl dX11_image_9
theorem dX11_restore_0 : decode cX11_restore 0 = .ok (.aload_n 0, 1) := by decide +kernel
theorem dX11_restore_1 : decode cX11_restore 1 = .ok (.getfield 246, 3) := by decide +kernel
theorem dX11_restore_4 : decode cX11_restore 4 = .ok (.ifCond .eq 14, 3) := by decide +kernel
theorem dX11_restore_18 : decode cX11_restore 18 = .ok (.bipush (-103), 2) := by decide +kernel
theorem dX11_restore_20 : decode cX11_restore 20 = .ok (.ireturn, 1) := by decide +kernel
set_option maxHeartbeats 4000000 in
set_option maxRecDepth 100000 in
theorem c_X11_restore (l : Launch) (D : va_G) (cy : ClassId) (x pg wr nw kp wk tr : Nat) : wk_Ci l yX11_restore cX11_restore 1 (some .int) { frames := 0, cells := 0, slots := 0, locals := 0 } D cy [.ref x] [(x, .inr (11, [.ref pg, .ref wr, .ref nw, .ref kp, .ref wk, .ref tr, .null, .int 0, .int 0, .int 0]))] 0 0 (fun (r : Int32) (u : Unit) => r = (-103)) (fun u => [(x, .inr (11, [.ref pg, .ref wr, .ref nw, .ref kp, .ref wk, .ref tr, .null, .int 0, .int 0, .int 0]))]) := by
  refine wk_mkCi (by decide) (Nat.le_of_ble_eq_true rfl) ?_
  intro p e s m below meth c A ls B hA hK hP hD hS hl
  obtain ⟨hx, hb, hr, hlocks, hml, hown, htb, hin⟩ := B
  have hl : lv_has ls 1 [(0, .ref x)] := hl
  refine lv_aload_n hx hb dX11_restore_0 rfl (lv_at hl 0 rfl) ?_
  refine va_get (D := D) (ci := 11) (v := .int 0) (C := RX11) (T := TX11) (N := 10) hx hb htb inX11 hown hK hP 0 rfl rfl 8 (by decide) (htb _ tw_260) (fun _ h9 => h9) rfl dX11_restore_1 ?_
  refine lv_if_eq (tgt := 18) hx hb dX11_restore_4 (by decide) (fun _ => ?_) (fun c_1 => absurd (by decide) c_1)
  refine lv_bipush (v := (-103)) hx hb dX11_restore_18 (by decide) ?_
  refine W.widen (k := 0) (n := 0) (by decide) (by decide) ?_
  exact wk_iret () hx hb hr hlocks rfl hK hP hD hS [0] rfl rfl dX11_restore_20
theorem dX11_count_0 : decode cX11_count 0 = .ok (.iload_n 1, 1) := by decide +kernel
theorem dX11_count_1 : decode cX11_count 1 = .ok (.tableswitch 209 0 12 #[67, 78, 99, 120, 134, 145, 156, 164, 172, 180, 191, 199, 204], 67) := by decide +kernel
theorem dX11_count_68 : decode cX11_count 68 = .ok (.aload_n 0, 1) := by decide +kernel
theorem dX11_count_69 : decode cX11_count 69 = .ok (.getfield 22, 3) := by decide +kernel
theorem dX11_count_72 : decode cX11_count 72 = .ok (.getfield 77, 3) := by decide +kernel
theorem dX11_count_75 : decode cX11_count 75 = .ok (.getfield 91, 3) := by decide +kernel
theorem dX11_count_78 : decode cX11_count 78 = .ok (.ireturn, 1) := by decide +kernel
theorem dX11_count_79 : decode cX11_count 79 = .ok (.aload_n 0, 1) := by decide +kernel
theorem dX11_count_80 : decode cX11_count 80 = .ok (.getfield 22, 3) := by decide +kernel
theorem dX11_count_83 : decode cX11_count 83 = .ok (.getfield 77, 3) := by decide +kernel
theorem dX11_count_86 : decode cX11_count 86 = .ok (.aload_n 0, 1) := by decide +kernel
theorem dX11_count_87 : decode cX11_count 87 = .ok (.getfield 22, 3) := by decide +kernel
theorem dX11_count_90 : decode cX11_count 90 = .ok (.getfield 77, 3) := by decide +kernel
theorem dX11_count_93 : decode cX11_count 93 = .ok (.getfield 111, 3) := by decide +kernel
theorem dX11_count_96 : decode cX11_count 96 = .ok (.invokevirtual 252, 3) := by decide +kernel
theorem dX11_count_99 : decode cX11_count 99 = .ok (.ireturn, 1) := by decide +kernel
theorem dX11_count_100 : decode cX11_count 100 = .ok (.aload_n 0, 1) := by decide +kernel
theorem dX11_count_101 : decode cX11_count 101 = .ok (.getfield 22, 3) := by decide +kernel
theorem dX11_count_104 : decode cX11_count 104 = .ok (.getfield 77, 3) := by decide +kernel
theorem dX11_count_107 : decode cX11_count 107 = .ok (.aload_n 0, 1) := by decide +kernel
theorem dX11_count_108 : decode cX11_count 108 = .ok (.getfield 22, 3) := by decide +kernel
theorem dX11_count_111 : decode cX11_count 111 = .ok (.getfield 77, 3) := by decide +kernel
theorem dX11_count_114 : decode cX11_count 114 = .ok (.getfield 111, 3) := by decide +kernel
theorem dX11_count_117 : decode cX11_count 117 = .ok (.invokevirtual 256, 3) := by decide +kernel
theorem dX11_count_120 : decode cX11_count 120 = .ok (.ireturn, 1) := by decide +kernel
theorem dX11_count_121 : decode cX11_count 121 = .ok (.aload_n 0, 1) := by decide +kernel
theorem dX11_count_122 : decode cX11_count 122 = .ok (.getfield 22, 3) := by decide +kernel
theorem dX11_count_125 : decode cX11_count 125 = .ok (.getfield 77, 3) := by decide +kernel
theorem dX11_count_128 : decode cX11_count 128 = .ok (.iconst 0, 1) := by decide +kernel
theorem dX11_count_129 : decode cX11_count 129 = .ok (.bipush 99, 2) := by decide +kernel
theorem dX11_count_131 : decode cX11_count 131 = .ok (.invokevirtual 166, 3) := by decide +kernel
theorem dX11_count_134 : decode cX11_count 134 = .ok (.ireturn, 1) := by decide +kernel
theorem dX11_count_135 : decode cX11_count 135 = .ok (.aload_n 0, 1) := by decide +kernel
theorem dX11_count_136 : decode cX11_count 136 = .ok (.getfield 22, 3) := by decide +kernel
theorem dX11_count_139 : decode cX11_count 139 = .ok (.getfield 77, 3) := by decide +kernel
theorem dX11_count_142 : decode cX11_count 142 = .ok (.invokevirtual 259, 3) := by decide +kernel
theorem dX11_count_145 : decode cX11_count 145 = .ok (.ireturn, 1) := by decide +kernel
theorem dX11_count_146 : decode cX11_count 146 = .ok (.aload_n 0, 1) := by decide +kernel
theorem dX11_count_147 : decode cX11_count 147 = .ok (.getfield 22, 3) := by decide +kernel
theorem dX11_count_150 : decode cX11_count 150 = .ok (.getfield 192, 3) := by decide +kernel
theorem dX11_count_153 : decode cX11_count 153 = .ok (.getfield 91, 3) := by decide +kernel
theorem dX11_count_156 : decode cX11_count 156 = .ok (.ireturn, 1) := by decide +kernel
theorem dX11_count_157 : decode cX11_count 157 = .ok (.aload_n 0, 1) := by decide +kernel
theorem dX11_count_158 : decode cX11_count 158 = .ok (.getfield 22, 3) := by decide +kernel
theorem dX11_count_161 : decode cX11_count 161 = .ok (.getfield 169, 3) := by decide +kernel
theorem dX11_count_164 : decode cX11_count 164 = .ok (.ireturn, 1) := by decide +kernel
theorem dX11_count_165 : decode cX11_count 165 = .ok (.aload_n 0, 1) := by decide +kernel
theorem dX11_count_166 : decode cX11_count 166 = .ok (.getfield 22, 3) := by decide +kernel
theorem dX11_count_169 : decode cX11_count 169 = .ok (.getfield 172, 3) := by decide +kernel
theorem dX11_count_172 : decode cX11_count 172 = .ok (.ireturn, 1) := by decide +kernel
theorem dX11_count_173 : decode cX11_count 173 = .ok (.aload_n 0, 1) := by decide +kernel
theorem dX11_count_174 : decode cX11_count 174 = .ok (.getfield 22, 3) := by decide +kernel
theorem dX11_count_177 : decode cX11_count 177 = .ok (.getfield 249, 3) := by decide +kernel
theorem dX11_count_180 : decode cX11_count 180 = .ok (.ireturn, 1) := by decide +kernel
theorem dX11_count_181 : decode cX11_count 181 = .ok (.aload_n 0, 1) := by decide +kernel
theorem dX11_count_182 : decode cX11_count 182 = .ok (.getfield 22, 3) := by decide +kernel
theorem dX11_count_185 : decode cX11_count 185 = .ok (.getfield 123, 3) := by decide +kernel
theorem dX11_count_188 : decode cX11_count 188 = .ok (.getfield 231, 3) := by decide +kernel
theorem dX11_count_191 : decode cX11_count 191 = .ok (.ireturn, 1) := by decide +kernel
theorem dX11_count_192 : decode cX11_count 192 = .ok (.aload_n 0, 1) := by decide +kernel
theorem dX11_count_193 : decode cX11_count 193 = .ok (.getfield 10, 3) := by decide +kernel
theorem dX11_count_196 : decode cX11_count 196 = .ok (.getfield 43, 3) := by decide +kernel
theorem dX11_count_199 : decode cX11_count 199 = .ok (.ireturn, 1) := by decide +kernel
theorem dX11_count_200 : decode cX11_count 200 = .ok (.aload_n 0, 1) := by decide +kernel
theorem dX11_count_201 : decode cX11_count 201 = .ok (.getfield 88, 3) := by decide +kernel
theorem dX11_count_204 : decode cX11_count 204 = .ok (.ireturn, 1) := by decide +kernel
theorem dX11_count_205 : decode cX11_count 205 = .ok (.aload_n 0, 1) := by decide +kernel
theorem dX11_count_206 : decode cX11_count 206 = .ok (.getfield 206, 3) := by decide +kernel
theorem dX11_count_209 : decode cX11_count 209 = .ok (.ireturn, 1) := by decide +kernel
theorem dX11_count_210 : decode cX11_count 210 = .ok (.bipush (-102), 2) := by decide +kernel
theorem dX11_count_212 : decode cX11_count 212 = .ok (.ireturn, 1) := by decide +kernel
set_option maxHeartbeats 4000000 in
set_option maxRecDepth 100000 in
theorem c_X11_count (l : Launch) (D : va_G) (cy : ClassId) (x pg wr nw kp wk tr pgc nwf nws nwe nwfk nwfv nwfh nwft nwsk nwsv nwsh nwst nwea nweb nwec : Nat) (a : Int32) : wk_Ci l yX11_count cX11_count 2 (some .int) { frames := 1, cells := 0, slots := 0, locals := 24 } D cy [.ref x, .int a] [(x, .inr (11, [.ref pg, .ref wr, .ref nw, .ref kp, .ref wk, .ref tr, .null, .int 0, .int 0, .int 0])), (pg, .inr (6, [.ref pgc, .int 0])), (nw, .inr (2, [.ref nwf, .ref nws, .ref nwe, .int 0, .int 0, .int 0])), (nwf, .inr (8, [.ref nwfk, .ref nwfv, .ref nwfh, .ref nwft, .int 0])), (nws, .inr (8, [.ref nwsk, .ref nwsv, .ref nwsh, .ref nwst, .int 0])), (nwe, .inr (4, [.ref nwea, .ref nweb, .ref nwec, .int 0]))] 0 0 (fun (r : Int32) (u : Unit) => r = if (0 ≤ (a : Int32).toInt ∧ (a : Int32).toInt ≤ 12) then 0 else (-102)) (fun u => [(x, .inr (11, [.ref pg, .ref wr, .ref nw, .ref kp, .ref wk, .ref tr, .null, .int 0, .int 0, .int 0])), (pg, .inr (6, [.ref pgc, .int 0])), (nw, .inr (2, [.ref nwf, .ref nws, .ref nwe, .int 0, .int 0, .int 0])), (nwf, .inr (8, [.ref nwfk, .ref nwfv, .ref nwfh, .ref nwft, .int 0])), (nws, .inr (8, [.ref nwsk, .ref nwsv, .ref nwsh, .ref nwst, .int 0])), (nwe, .inr (4, [.ref nwea, .ref nweb, .ref nwec, .int 0]))]) := by
  refine wk_mkCi (by decide) (Nat.le_of_ble_eq_true rfl) ?_
  intro p e s m below meth c A ls B hA hK hP hD hS hl
  obtain ⟨hx, hb, hr, hlocks, hml, hown, htb, hin⟩ := B
  have hl : lv_has ls 2 [(0, .ref x), (1, .int a)] := hl
  refine lv_iload_n hx hb dX11_count_0 rfl (lv_at hl 1 rfl) ?_
  rcases wk_sw12 a with c_1 | rfl | rfl | rfl | rfl | rfl | rfl | rfl | rfl | rfl | rfl | rfl | rfl | rfl
  · have k_1 := c_1
    refine lv_tableOut (tgt := 210) hx hb dX11_count_1 c_1 (by decide) ?_
    refine lv_bipush (v := (-102)) hx hb dX11_count_210 (by decide) ?_
    refine W.widen (k := 0) (n := 0) (by decide) (by decide) ?_
    exact wk_iret () hx hb hr hlocks (if_neg (by omega)).symm hK hP hD hS [0, 1, 2, 3, 4, 5] rfl rfl dX11_count_212
  · refine lv_tableIn (off := 67) (tgt := 68) hx hb dX11_count_1 (by decide) (by decide) (by decide) (by decide) ?_
    have hl : lv_has ls 2 [(0, .ref x), (1, .int 0)] := hl
    refine lv_aload_n hx hb dX11_count_68 rfl (lv_at hl 0 rfl) ?_
    refine va_get (D := D) (ci := 11) (v := .ref nw) (C := RX11) (T := TX11) (N := 10) hx hb htb inX11 hown hK hP 0 rfl rfl 2 (by decide) (htb _ tw_254) (fun _ h9 => h9) rfl dX11_count_69 ?_
    refine va_get (D := D) (ci := 2) (v := .ref nwf) (C := RX2) (T := TX2) (N := 6) hx hb htb inX2 hown hK hP 2 rfl rfl 0 (by decide) (htb _ tw_171) (fun _ h9 => h9) rfl dX11_count_72 ?_
    refine va_get (D := D) (ci := 8) (v := .int 0) (C := RX8) (T := TX8) (N := 5) hx hb htb inX8 hown hK hP 3 rfl rfl 4 (by decide) (htb _ tw_134) (fun _ h9 => h9) rfl dX11_count_75 ?_
    refine W.widen (k := 0) (n := 0) (by decide) (by decide) ?_
    exact wk_iret () hx hb hr hlocks (by decide) hK hP hD hS [0, 1, 2, 3, 4, 5] rfl rfl dX11_count_78
  · refine lv_tableIn (off := 78) (tgt := 79) hx hb dX11_count_1 (by decide) (by decide) (by decide) (by decide) ?_
    have hl : lv_has ls 2 [(0, .ref x), (1, .int 1)] := hl
    refine lv_aload_n hx hb dX11_count_79 rfl (lv_at hl 0 rfl) ?_
    refine va_get (D := D) (ci := 11) (v := .ref nw) (C := RX11) (T := TX11) (N := 10) hx hb htb inX11 hown hK hP 0 rfl rfl 2 (by decide) (htb _ tw_254) (fun _ h9 => h9) rfl dX11_count_80 ?_
    refine va_get (D := D) (ci := 2) (v := .ref nwf) (C := RX2) (T := TX2) (N := 6) hx hb htb inX2 hown hK hP 2 rfl rfl 0 (by decide) (htb _ tw_171) (fun _ h9 => h9) rfl dX11_count_83 ?_
    refine lv_aload_n hx hb dX11_count_86 rfl (lv_at hl 0 rfl) ?_
    refine va_get (D := D) (ci := 11) (v := .ref nw) (C := RX11) (T := TX11) (N := 10) hx hb htb inX11 hown hK hP 0 rfl rfl 2 (by decide) (htb _ tw_254) (fun _ h9 => h9) rfl dX11_count_87 ?_
    refine va_get (D := D) (ci := 2) (v := .ref nwf) (C := RX2) (T := TX2) (N := 6) hx hb htb inX2 hown hK hP 2 rfl rfl 0 (by decide) (htb _ tw_171) (fun _ h9 => h9) rfl dX11_count_90 ?_
    refine va_get (D := D) (ci := 8) (v := .ref nwfh) (C := RX8) (T := TX8) (N := 5) hx hb htb inX8 hown hK hP 3 rfl rfl 2 (by decide) (htb _ tw_125) (fun _ h9 => h9) rfl dX11_count_93 ?_
    refine wk_iV (As := [.ref nwfh]) (rest := []) (wc := [(nwf, .inr (8, [.ref nwfk, .ref nwfv, .ref nwfh, .ref nwft, .int 0]))]) (wr := [(x, .inr (11, [.ref pg, .ref wr, .ref nw, .ref kp, .ref wk, .ref tr, .null, .int 0, .int 0, .int 0])), (pg, .inr (6, [.ref pgc, .int 0])), (nw, .inr (2, [.ref nwf, .ref nws, .ref nwe, .int 0, .int 0, .int 0])), (nws, .inr (8, [.ref nwsk, .ref nwsv, .ref nwsh, .ref nwst, .int 0])), (nwe, .inr (4, [.ref nwea, .ref nweb, .ref nwec, .int 0]))]) (n := 1) (R := _) ⟨hx, hb, hml, hown, htb⟩ (c_X8_highestOf l D cy nwf nwfk nwfv nwfh nwft  ) tw_493 tw_725 tw_491 tw_492 tw_67 rfl rfl (by decide +kernel) ⟨Nat.le_of_ble_eq_true rfl, Nat.le_of_ble_eq_true rfl⟩ hK hP hD hS hA [3] [0, 1, 2, 4, 5] rfl rfl rfl rfl (by decide) 0 (ci := 8) rfl rfl rfl hl.1 rfl (Nat.le_of_ble_eq_true rfl) dX11_count_96 ⟨Nat.le_of_ble_eq_true rfl, Nat.le_of_ble_eq_true rfl⟩ (fun r_2 u_3 H locs hw_4 hP hD hS => ?_)
    refine W.widen (k := 0) (n := 0) (by decide) (by decide) ?_
    have hw_4 : r_2 = 0 := hw_4
    subst hw_4
    have hP : va_P D classes [(x, .inr (11, [.ref pg, .ref wr, .ref nw, .ref kp, .ref wk, .ref tr, .null, .int 0, .int 0, .int 0])), (pg, .inr (6, [.ref pgc, .int 0])), (nw, .inr (2, [.ref nwf, .ref nws, .ref nwe, .int 0, .int 0, .int 0])), (nws, .inr (8, [.ref nwsk, .ref nwsv, .ref nwsh, .ref nwst, .int 0])), (nwe, .inr (4, [.ref nwea, .ref nweb, .ref nwec, .int 0])), (nwf, .inr (8, [.ref nwfk, .ref nwfv, .ref nwfh, .ref nwft, .int 0]))] H := hP
    have hD : va_D A [(x, .inr (11, [.ref pg, .ref wr, .ref nw, .ref kp, .ref wk, .ref tr, .null, .int 0, .int 0, .int 0])), (pg, .inr (6, [.ref pgc, .int 0])), (nw, .inr (2, [.ref nwf, .ref nws, .ref nwe, .int 0, .int 0, .int 0])), (nws, .inr (8, [.ref nwsk, .ref nwsv, .ref nwsh, .ref nwst, .int 0])), (nwe, .inr (4, [.ref nwea, .ref nweb, .ref nwec, .int 0])), (nwf, .inr (8, [.ref nwfk, .ref nwfv, .ref nwfh, .ref nwft, .int 0]))] := hD
    refine W.widen (k := 0) (n := 0) (by decide) (by decide) ?_
    exact wk_iret () hx hb hr hlocks (by decide) hK hP hD hS [0, 1, 2, 5, 3, 4] rfl rfl dX11_count_99
  · refine lv_tableIn (off := 99) (tgt := 100) hx hb dX11_count_1 (by decide) (by decide) (by decide) (by decide) ?_
    have hl : lv_has ls 2 [(0, .ref x), (1, .int 2)] := hl
    refine lv_aload_n hx hb dX11_count_100 rfl (lv_at hl 0 rfl) ?_
    refine va_get (D := D) (ci := 11) (v := .ref nw) (C := RX11) (T := TX11) (N := 10) hx hb htb inX11 hown hK hP 0 rfl rfl 2 (by decide) (htb _ tw_254) (fun _ h9 => h9) rfl dX11_count_101 ?_
    refine va_get (D := D) (ci := 2) (v := .ref nwf) (C := RX2) (T := TX2) (N := 6) hx hb htb inX2 hown hK hP 2 rfl rfl 0 (by decide) (htb _ tw_171) (fun _ h9 => h9) rfl dX11_count_104 ?_
    refine lv_aload_n hx hb dX11_count_107 rfl (lv_at hl 0 rfl) ?_
    refine va_get (D := D) (ci := 11) (v := .ref nw) (C := RX11) (T := TX11) (N := 10) hx hb htb inX11 hown hK hP 0 rfl rfl 2 (by decide) (htb _ tw_254) (fun _ h9 => h9) rfl dX11_count_108 ?_
    refine va_get (D := D) (ci := 2) (v := .ref nwf) (C := RX2) (T := TX2) (N := 6) hx hb htb inX2 hown hK hP 2 rfl rfl 0 (by decide) (htb _ tw_171) (fun _ h9 => h9) rfl dX11_count_111 ?_
    refine va_get (D := D) (ci := 8) (v := .ref nwfh) (C := RX8) (T := TX8) (N := 5) hx hb htb inX8 hown hK hP 3 rfl rfl 2 (by decide) (htb _ tw_125) (fun _ h9 => h9) rfl dX11_count_114 ?_
    refine wk_iV (As := [.ref nwfh]) (rest := []) (wc := [(nwf, .inr (8, [.ref nwfk, .ref nwfv, .ref nwfh, .ref nwft, .int 0]))]) (wr := [(x, .inr (11, [.ref pg, .ref wr, .ref nw, .ref kp, .ref wk, .ref tr, .null, .int 0, .int 0, .int 0])), (pg, .inr (6, [.ref pgc, .int 0])), (nw, .inr (2, [.ref nwf, .ref nws, .ref nwe, .int 0, .int 0, .int 0])), (nws, .inr (8, [.ref nwsk, .ref nwsv, .ref nwsh, .ref nwst, .int 0])), (nwe, .inr (4, [.ref nwea, .ref nweb, .ref nwec, .int 0]))]) (n := 1) (R := _) ⟨hx, hb, hml, hown, htb⟩ (c_X8_linksOf l D cy nwf nwfk nwfv nwfh nwft  ) tw_649 tw_726 tw_647 tw_648 tw_67 rfl rfl (by decide +kernel) ⟨Nat.le_of_ble_eq_true rfl, Nat.le_of_ble_eq_true rfl⟩ hK hP hD hS hA [3] [0, 1, 2, 4, 5] rfl rfl rfl rfl (by decide) 0 (ci := 8) rfl rfl rfl hl.1 rfl (Nat.le_of_ble_eq_true rfl) dX11_count_117 ⟨Nat.le_of_ble_eq_true rfl, Nat.le_of_ble_eq_true rfl⟩ (fun r_5 u_6 H locs hw_7 hP hD hS => ?_)
    refine W.widen (k := 0) (n := 0) (by decide) (by decide) ?_
    have hw_7 : r_5 = 0 := hw_7
    subst hw_7
    have hP : va_P D classes [(x, .inr (11, [.ref pg, .ref wr, .ref nw, .ref kp, .ref wk, .ref tr, .null, .int 0, .int 0, .int 0])), (pg, .inr (6, [.ref pgc, .int 0])), (nw, .inr (2, [.ref nwf, .ref nws, .ref nwe, .int 0, .int 0, .int 0])), (nws, .inr (8, [.ref nwsk, .ref nwsv, .ref nwsh, .ref nwst, .int 0])), (nwe, .inr (4, [.ref nwea, .ref nweb, .ref nwec, .int 0])), (nwf, .inr (8, [.ref nwfk, .ref nwfv, .ref nwfh, .ref nwft, .int 0]))] H := hP
    have hD : va_D A [(x, .inr (11, [.ref pg, .ref wr, .ref nw, .ref kp, .ref wk, .ref tr, .null, .int 0, .int 0, .int 0])), (pg, .inr (6, [.ref pgc, .int 0])), (nw, .inr (2, [.ref nwf, .ref nws, .ref nwe, .int 0, .int 0, .int 0])), (nws, .inr (8, [.ref nwsk, .ref nwsv, .ref nwsh, .ref nwst, .int 0])), (nwe, .inr (4, [.ref nwea, .ref nweb, .ref nwec, .int 0])), (nwf, .inr (8, [.ref nwfk, .ref nwfv, .ref nwfh, .ref nwft, .int 0]))] := hD
    refine W.widen (k := 0) (n := 0) (by decide) (by decide) ?_
    exact wk_iret () hx hb hr hlocks (by decide) hK hP hD hS [0, 1, 2, 5, 3, 4] rfl rfl dX11_count_120
  · refine lv_tableIn (off := 120) (tgt := 121) hx hb dX11_count_1 (by decide) (by decide) (by decide) (by decide) ?_
    have hl : lv_has ls 2 [(0, .ref x), (1, .int 3)] := hl
    refine lv_aload_n hx hb dX11_count_121 rfl (lv_at hl 0 rfl) ?_
    refine va_get (D := D) (ci := 11) (v := .ref nw) (C := RX11) (T := TX11) (N := 10) hx hb htb inX11 hown hK hP 0 rfl rfl 2 (by decide) (htb _ tw_254) (fun _ h9 => h9) rfl dX11_count_122 ?_
    refine va_get (D := D) (ci := 2) (v := .ref nwf) (C := RX2) (T := TX2) (N := 6) hx hb htb inX2 hown hK hP 2 rfl rfl 0 (by decide) (htb _ tw_171) (fun _ h9 => h9) rfl dX11_count_125 ?_
    refine lv_iconst (v := 0) hx hb dX11_count_128 (by decide) ?_
    refine lv_bipush (v := 99) hx hb dX11_count_129 (by decide) ?_
    refine wk_iV (As := [.int 0, .int 99]) (rest := []) (wc := [(nwf, .inr (8, [.ref nwfk, .ref nwfv, .ref nwfh, .ref nwft, .int 0]))]) (wr := [(x, .inr (11, [.ref pg, .ref wr, .ref nw, .ref kp, .ref wk, .ref tr, .null, .int 0, .int 0, .int 0])), (pg, .inr (6, [.ref pgc, .int 0])), (nw, .inr (2, [.ref nwf, .ref nws, .ref nwe, .int 0, .int 0, .int 0])), (nws, .inr (8, [.ref nwsk, .ref nwsv, .ref nwsh, .ref nwst, .int 0])), (nwe, .inr (4, [.ref nwea, .ref nweb, .ref nwec, .int 0]))]) (n := 2) (R := _) ⟨hx, hb, hml, hown, htb⟩ (c_X8_valuesBetween l D cy nwf nwfk nwfv nwfh nwft 0 99 ) tw_579 tw_576 tw_577 tw_578 tw_67 rfl rfl (by decide +kernel) ⟨Nat.le_of_ble_eq_true rfl, Nat.le_of_ble_eq_true rfl⟩ hK hP hD hS hA [3] [0, 1, 2, 4, 5] rfl rfl rfl rfl (by decide) 0 (ci := 8) rfl rfl rfl hl.1 rfl (Nat.le_of_ble_eq_true rfl) dX11_count_131 ⟨Nat.le_of_ble_eq_true rfl, Nat.le_of_ble_eq_true rfl⟩ (fun r_8 u_9 H locs hw_10 hP hD hS => ?_)
    refine W.widen (k := 0) (n := 0) (by decide) (by decide) ?_
    have hw_10 : r_8 = 0 := hw_10
    subst hw_10
    have hP : va_P D classes [(x, .inr (11, [.ref pg, .ref wr, .ref nw, .ref kp, .ref wk, .ref tr, .null, .int 0, .int 0, .int 0])), (pg, .inr (6, [.ref pgc, .int 0])), (nw, .inr (2, [.ref nwf, .ref nws, .ref nwe, .int 0, .int 0, .int 0])), (nws, .inr (8, [.ref nwsk, .ref nwsv, .ref nwsh, .ref nwst, .int 0])), (nwe, .inr (4, [.ref nwea, .ref nweb, .ref nwec, .int 0])), (nwf, .inr (8, [.ref nwfk, .ref nwfv, .ref nwfh, .ref nwft, .int 0]))] H := hP
    have hD : va_D A [(x, .inr (11, [.ref pg, .ref wr, .ref nw, .ref kp, .ref wk, .ref tr, .null, .int 0, .int 0, .int 0])), (pg, .inr (6, [.ref pgc, .int 0])), (nw, .inr (2, [.ref nwf, .ref nws, .ref nwe, .int 0, .int 0, .int 0])), (nws, .inr (8, [.ref nwsk, .ref nwsv, .ref nwsh, .ref nwst, .int 0])), (nwe, .inr (4, [.ref nwea, .ref nweb, .ref nwec, .int 0])), (nwf, .inr (8, [.ref nwfk, .ref nwfv, .ref nwfh, .ref nwft, .int 0]))] := hD
    refine W.widen (k := 0) (n := 0) (by decide) (by decide) ?_
    exact wk_iret () hx hb hr hlocks (by decide) hK hP hD hS [0, 1, 2, 5, 3, 4] rfl rfl dX11_count_134
  · refine lv_tableIn (off := 134) (tgt := 135) hx hb dX11_count_1 (by decide) (by decide) (by decide) (by decide) ?_
    have hl : lv_has ls 2 [(0, .ref x), (1, .int 4)] := hl
    refine lv_aload_n hx hb dX11_count_135 rfl (lv_at hl 0 rfl) ?_
    refine va_get (D := D) (ci := 11) (v := .ref nw) (C := RX11) (T := TX11) (N := 10) hx hb htb inX11 hown hK hP 0 rfl rfl 2 (by decide) (htb _ tw_254) (fun _ h9 => h9) rfl dX11_count_136 ?_
    refine va_get (D := D) (ci := 2) (v := .ref nwf) (C := RX2) (T := TX2) (N := 6) hx hb htb inX2 hown hK hP 2 rfl rfl 0 (by decide) (htb _ tw_171) (fun _ h9 => h9) rfl dX11_count_139 ?_
    refine wk_iV (As := []) (rest := []) (wc := [(nwf, .inr (8, [.ref nwfk, .ref nwfv, .ref nwfh, .ref nwft, .int 0]))]) (wr := [(x, .inr (11, [.ref pg, .ref wr, .ref nw, .ref kp, .ref wk, .ref tr, .null, .int 0, .int 0, .int 0])), (pg, .inr (6, [.ref pgc, .int 0])), (nw, .inr (2, [.ref nwf, .ref nws, .ref nwe, .int 0, .int 0, .int 0])), (nws, .inr (8, [.ref nwsk, .ref nwsv, .ref nwsh, .ref nwst, .int 0])), (nwe, .inr (4, [.ref nwea, .ref nweb, .ref nwec, .int 0]))]) (n := 0) (R := _) ⟨hx, hb, hml, hown, htb⟩ (c_X8_allHeat l D cy nwf nwfk nwfv nwfh nwft  ) tw_730 tw_727 tw_728 tw_729 tw_67 rfl rfl (by decide +kernel) ⟨Nat.le_of_ble_eq_true rfl, Nat.le_of_ble_eq_true rfl⟩ hK hP hD hS hA [3] [0, 1, 2, 4, 5] rfl rfl rfl rfl (by decide) 0 (ci := 8) rfl rfl rfl hl.1 rfl (Nat.le_of_ble_eq_true rfl) dX11_count_142 ⟨Nat.le_of_ble_eq_true rfl, Nat.le_of_ble_eq_true rfl⟩ (fun r_11 u_12 H locs hw_13 hP hD hS => ?_)
    refine W.widen (k := 0) (n := 0) (by decide) (by decide) ?_
    have hw_13 : r_11 = 0 := hw_13
    subst hw_13
    have hP : va_P D classes [(x, .inr (11, [.ref pg, .ref wr, .ref nw, .ref kp, .ref wk, .ref tr, .null, .int 0, .int 0, .int 0])), (pg, .inr (6, [.ref pgc, .int 0])), (nw, .inr (2, [.ref nwf, .ref nws, .ref nwe, .int 0, .int 0, .int 0])), (nws, .inr (8, [.ref nwsk, .ref nwsv, .ref nwsh, .ref nwst, .int 0])), (nwe, .inr (4, [.ref nwea, .ref nweb, .ref nwec, .int 0])), (nwf, .inr (8, [.ref nwfk, .ref nwfv, .ref nwfh, .ref nwft, .int 0]))] H := hP
    have hD : va_D A [(x, .inr (11, [.ref pg, .ref wr, .ref nw, .ref kp, .ref wk, .ref tr, .null, .int 0, .int 0, .int 0])), (pg, .inr (6, [.ref pgc, .int 0])), (nw, .inr (2, [.ref nwf, .ref nws, .ref nwe, .int 0, .int 0, .int 0])), (nws, .inr (8, [.ref nwsk, .ref nwsv, .ref nwsh, .ref nwst, .int 0])), (nwe, .inr (4, [.ref nwea, .ref nweb, .ref nwec, .int 0])), (nwf, .inr (8, [.ref nwfk, .ref nwfv, .ref nwfh, .ref nwft, .int 0]))] := hD
    refine W.widen (k := 0) (n := 0) (by decide) (by decide) ?_
    exact wk_iret () hx hb hr hlocks (by decide) hK hP hD hS [0, 1, 2, 5, 3, 4] rfl rfl dX11_count_145
  · refine lv_tableIn (off := 145) (tgt := 146) hx hb dX11_count_1 (by decide) (by decide) (by decide) (by decide) ?_
    have hl : lv_has ls 2 [(0, .ref x), (1, .int 5)] := hl
    refine lv_aload_n hx hb dX11_count_146 rfl (lv_at hl 0 rfl) ?_
    refine va_get (D := D) (ci := 11) (v := .ref nw) (C := RX11) (T := TX11) (N := 10) hx hb htb inX11 hown hK hP 0 rfl rfl 2 (by decide) (htb _ tw_254) (fun _ h9 => h9) rfl dX11_count_147 ?_
    refine va_get (D := D) (ci := 2) (v := .ref nws) (C := RX2) (T := TX2) (N := 6) hx hb htb inX2 hown hK hP 2 rfl rfl 1 (by decide) (htb _ tw_173) (fun _ h9 => h9) rfl dX11_count_150 ?_
    refine va_get (D := D) (ci := 8) (v := .int 0) (C := RX8) (T := TX8) (N := 5) hx hb htb inX8 hown hK hP 4 rfl rfl 4 (by decide) (htb _ tw_134) (fun _ h9 => h9) rfl dX11_count_153 ?_
    refine W.widen (k := 0) (n := 0) (by decide) (by decide) ?_
    exact wk_iret () hx hb hr hlocks (by decide) hK hP hD hS [0, 1, 2, 3, 4, 5] rfl rfl dX11_count_156
  · refine lv_tableIn (off := 156) (tgt := 157) hx hb dX11_count_1 (by decide) (by decide) (by decide) (by decide) ?_
    have hl : lv_has ls 2 [(0, .ref x), (1, .int 6)] := hl
    refine lv_aload_n hx hb dX11_count_157 rfl (lv_at hl 0 rfl) ?_
    refine va_get (D := D) (ci := 11) (v := .ref nw) (C := RX11) (T := TX11) (N := 10) hx hb htb inX11 hown hK hP 0 rfl rfl 2 (by decide) (htb _ tw_254) (fun _ h9 => h9) rfl dX11_count_158 ?_
    refine va_get (D := D) (ci := 2) (v := .int 0) (C := RX2) (T := TX2) (N := 6) hx hb htb inX2 hown hK hP 2 rfl rfl 3 (by decide) (htb _ tw_177) (fun _ h9 => h9) rfl dX11_count_161 ?_
    refine W.widen (k := 0) (n := 0) (by decide) (by decide) ?_
    exact wk_iret () hx hb hr hlocks (by decide) hK hP hD hS [0, 1, 2, 3, 4, 5] rfl rfl dX11_count_164
  · refine lv_tableIn (off := 164) (tgt := 165) hx hb dX11_count_1 (by decide) (by decide) (by decide) (by decide) ?_
    have hl : lv_has ls 2 [(0, .ref x), (1, .int 7)] := hl
    refine lv_aload_n hx hb dX11_count_165 rfl (lv_at hl 0 rfl) ?_
    refine va_get (D := D) (ci := 11) (v := .ref nw) (C := RX11) (T := TX11) (N := 10) hx hb htb inX11 hown hK hP 0 rfl rfl 2 (by decide) (htb _ tw_254) (fun _ h9 => h9) rfl dX11_count_166 ?_
    refine va_get (D := D) (ci := 2) (v := .int 0) (C := RX2) (T := TX2) (N := 6) hx hb htb inX2 hown hK hP 2 rfl rfl 4 (by decide) (htb _ tw_179) (fun _ h9 => h9) rfl dX11_count_169 ?_
    refine W.widen (k := 0) (n := 0) (by decide) (by decide) ?_
    exact wk_iret () hx hb hr hlocks (by decide) hK hP hD hS [0, 1, 2, 3, 4, 5] rfl rfl dX11_count_172
  · refine lv_tableIn (off := 172) (tgt := 173) hx hb dX11_count_1 (by decide) (by decide) (by decide) (by decide) ?_
    have hl : lv_has ls 2 [(0, .ref x), (1, .int 8)] := hl
    refine lv_aload_n hx hb dX11_count_173 rfl (lv_at hl 0 rfl) ?_
    refine va_get (D := D) (ci := 11) (v := .ref nw) (C := RX11) (T := TX11) (N := 10) hx hb htb inX11 hown hK hP 0 rfl rfl 2 (by decide) (htb _ tw_254) (fun _ h9 => h9) rfl dX11_count_174 ?_
    refine va_get (D := D) (ci := 2) (v := .int 0) (C := RX2) (T := TX2) (N := 6) hx hb htb inX2 hown hK hP 2 rfl rfl 5 (by decide) (htb _ tw_181) (fun _ h9 => h9) rfl dX11_count_177 ?_
    refine W.widen (k := 0) (n := 0) (by decide) (by decide) ?_
    exact wk_iret () hx hb hr hlocks (by decide) hK hP hD hS [0, 1, 2, 3, 4, 5] rfl rfl dX11_count_180
  · refine lv_tableIn (off := 180) (tgt := 181) hx hb dX11_count_1 (by decide) (by decide) (by decide) (by decide) ?_
    have hl : lv_has ls 2 [(0, .ref x), (1, .int 9)] := hl
    refine lv_aload_n hx hb dX11_count_181 rfl (lv_at hl 0 rfl) ?_
    refine va_get (D := D) (ci := 11) (v := .ref nw) (C := RX11) (T := TX11) (N := 10) hx hb htb inX11 hown hK hP 0 rfl rfl 2 (by decide) (htb _ tw_254) (fun _ h9 => h9) rfl dX11_count_182 ?_
    refine va_get (D := D) (ci := 2) (v := .ref nwe) (C := RX2) (T := TX2) (N := 6) hx hb htb inX2 hown hK hP 2 rfl rfl 2 (by decide) (htb _ tw_175) (fun _ h9 => h9) rfl dX11_count_185 ?_
    refine va_get (D := D) (ci := 4) (v := .int 0) (C := RX4) (T := TX4) (N := 4) hx hb htb inX4 hown hK hP 5 rfl rfl 3 (by decide) (htb _ tw_160) (fun _ h9 => h9) rfl dX11_count_188 ?_
    refine W.widen (k := 0) (n := 0) (by decide) (by decide) ?_
    exact wk_iret () hx hb hr hlocks (by decide) hK hP hD hS [0, 1, 2, 3, 4, 5] rfl rfl dX11_count_191
  · refine lv_tableIn (off := 191) (tgt := 192) hx hb dX11_count_1 (by decide) (by decide) (by decide) (by decide) ?_
    have hl : lv_has ls 2 [(0, .ref x), (1, .int 10)] := hl
    refine lv_aload_n hx hb dX11_count_192 rfl (lv_at hl 0 rfl) ?_
    refine va_get (D := D) (ci := 11) (v := .ref pg) (C := RX11) (T := TX11) (N := 10) hx hb htb inX11 hown hK hP 0 rfl rfl 0 (by decide) (htb _ tw_252) (fun _ h9 => h9) rfl dX11_count_193 ?_
    refine va_get (D := D) (ci := 6) (v := .int 0) (C := RX6) (T := TX6) (N := 2) hx hb htb inX6 hown hK hP 1 rfl rfl 1 (by decide) (htb _ tw_95) (fun _ h9 => h9) rfl dX11_count_196 ?_
    refine W.widen (k := 0) (n := 0) (by decide) (by decide) ?_
    exact wk_iret () hx hb hr hlocks (by decide) hK hP hD hS [0, 1, 2, 3, 4, 5] rfl rfl dX11_count_199
  · refine lv_tableIn (off := 199) (tgt := 200) hx hb dX11_count_1 (by decide) (by decide) (by decide) (by decide) ?_
    have hl : lv_has ls 2 [(0, .ref x), (1, .int 11)] := hl
    refine lv_aload_n hx hb dX11_count_200 rfl (lv_at hl 0 rfl) ?_
    refine va_get (D := D) (ci := 11) (v := .int 0) (C := RX11) (T := TX11) (N := 10) hx hb htb inX11 hown hK hP 0 rfl rfl 7 (by decide) (htb _ tw_259) (fun _ h9 => h9) rfl dX11_count_201 ?_
    refine W.widen (k := 0) (n := 0) (by decide) (by decide) ?_
    exact wk_iret () hx hb hr hlocks (by decide) hK hP hD hS [0, 1, 2, 3, 4, 5] rfl rfl dX11_count_204
  · refine lv_tableIn (off := 204) (tgt := 205) hx hb dX11_count_1 (by decide) (by decide) (by decide) (by decide) ?_
    have hl : lv_has ls 2 [(0, .ref x), (1, .int 12)] := hl
    refine lv_aload_n hx hb dX11_count_205 rfl (lv_at hl 0 rfl) ?_
    refine va_get (D := D) (ci := 11) (v := .int 0) (C := RX11) (T := TX11) (N := 10) hx hb htb inX11 hown hK hP 0 rfl rfl 9 (by decide) (htb _ tw_261) (fun _ h9 => h9) rfl dX11_count_206 ?_
    refine W.widen (k := 0) (n := 0) (by decide) (by decide) ?_
    exact wk_iret () hx hb hr hlocks (by decide) hK hP hD hS [0, 1, 2, 3, 4, 5] rfl rfl dX11_count_209
theorem dX11_digest_0 : decode cX11_digest 0 = .ok (.ldc2_w 262, 3) := by decide +kernel
theorem dX11_digest_3 : decode cX11_digest 3 = .ok (.lstore_n 1, 1) := by decide +kernel
theorem dX11_digest_4 : decode cX11_digest 4 = .ok (.iconst 0, 1) := by decide +kernel
theorem dX11_digest_5 : decode cX11_digest 5 = .ok (.istore_n 3, 1) := by decide +kernel
theorem dX11_digest_6 : decode cX11_digest 6 = .ok (.iload_n 3, 1) := by decide +kernel
theorem dX11_digest_7 : decode cX11_digest 7 = .ok (.aload_n 0, 1) := by decide +kernel
theorem dX11_digest_8 : decode cX11_digest 8 = .ok (.getfield 22, 3) := by decide +kernel
theorem dX11_digest_11 : decode cX11_digest 11 = .ok (.getfield 77, 3) := by decide +kernel
theorem dX11_digest_14 : decode cX11_digest 14 = .ok (.getfield 91, 3) := by decide +kernel
theorem dX11_digest_17 : decode cX11_digest 17 = .ok (.if_icmp .ge 16, 3) := by decide +kernel
theorem dX11_digest_33 : decode cX11_digest 33 = .ok (.aload_n 0, 1) := by decide +kernel
theorem dX11_digest_34 : decode cX11_digest 34 = .ok (.getfield 71, 3) := by decide +kernel
theorem dX11_digest_37 : decode cX11_digest 37 = .ok (.ifnull 13, 3) := by decide +kernel
theorem dX11_digest_50 : decode cX11_digest 50 = .ok (.lload_n 1, 1) := by decide +kernel
theorem dX11_digest_51 : decode cX11_digest 51 = .ok (.aload_n 0, 1) := by decide +kernel
theorem dX11_digest_52 : decode cX11_digest 52 = .ok (.getfield 10, 3) := by decide +kernel
theorem dX11_digest_55 : decode cX11_digest 55 = .ok (.getfield 61, 3) := by decide +kernel
theorem dX11_digest_58 : decode cX11_digest 58 = .ok (.aload_n 0, 1) := by decide +kernel
theorem dX11_digest_59 : decode cX11_digest 59 = .ok (.getfield 10, 3) := by decide +kernel
theorem dX11_digest_62 : decode cX11_digest 62 = .ok (.getfield 43, 3) := by decide +kernel
theorem dX11_digest_65 : decode cX11_digest 65 = .ok (.invokestatic 275, 3) := by decide +kernel
theorem dX11_digest_68 : decode cX11_digest 68 = .ok (.lstore_n 1, 1) := by decide +kernel
theorem dX11_digest_69 : decode cX11_digest 69 = .ok (.iconst 0, 1) := by decide +kernel
theorem dX11_digest_70 : decode cX11_digest 70 = .ok (.istore_n 3, 1) := by decide +kernel
theorem dX11_digest_71 : decode cX11_digest 71 = .ok (.iload_n 3, 1) := by decide +kernel
theorem dX11_digest_72 : decode cX11_digest 72 = .ok (.bipush 12, 2) := by decide +kernel
theorem dX11_digest_74 : decode cX11_digest 74 = .ok (.if_icmp .gt 22, 3) := by decide +kernel
theorem dX11_digest_77 : decode cX11_digest 77 = .ok (.ldc2_w 279, 3) := by decide +kernel
theorem dX11_digest_80 : decode cX11_digest 80 = .ok (.lload_n 1, 1) := by decide +kernel
theorem dX11_digest_81 : decode cX11_digest 81 = .ok (.lmul, 1) := by decide +kernel
theorem dX11_digest_82 : decode cX11_digest 82 = .ok (.aload_n 0, 1) := by decide +kernel
theorem dX11_digest_83 : decode cX11_digest 83 = .ok (.iload_n 3, 1) := by decide +kernel
theorem dX11_digest_84 : decode cX11_digest 84 = .ok (.invokevirtual 281, 3) := by decide +kernel
theorem dX11_digest_87 : decode cX11_digest 87 = .ok (.i2l, 1) := by decide +kernel
theorem dX11_digest_88 : decode cX11_digest 88 = .ok (.ladd, 1) := by decide +kernel
theorem dX11_digest_89 : decode cX11_digest 89 = .ok (.lstore_n 1, 1) := by decide +kernel
theorem dX11_digest_90 : decode cX11_digest 90 = .ok (.iinc 3 1, 3) := by decide +kernel
theorem dX11_digest_93 : decode cX11_digest 93 = .ok (.goto (-22), 3) := by decide +kernel
theorem dX11_digest_96 : decode cX11_digest 96 = .ok (.lload_n 1, 1) := by decide +kernel
theorem dX11_digest_97 : decode cX11_digest 97 = .ok (.lreturn, 1) := by decide +kernel
set_option maxHeartbeats 4000000 in
set_option maxRecDepth 100000 in
theorem c_X11_digest (l : Launch) (D : va_G) (cy : ClassId) (x pg wr nw kp wk tr pgc nwf nws nwe nwfk nwfv nwfh nwft nwsk nwsv nwsh nwst nwea nweb nwec : Nat) : wk_Cl l yX11_digest cX11_digest 4 (some .long) { frames := 2, cells := 0, slots := 0, locals := 45 } D cy [.ref x] [(x, .inr (11, [.ref pg, .ref wr, .ref nw, .ref kp, .ref wk, .ref tr, .null, .int 0, .int 0, .int 0])), (pg, .inr (6, [.ref pgc, .int 0])), (nw, .inr (2, [.ref nwf, .ref nws, .ref nwe, .int 0, .int 0, .int 0])), (nwf, .inr (8, [.ref nwfk, .ref nwfv, .ref nwfh, .ref nwft, .int 0])), (nws, .inr (8, [.ref nwsk, .ref nwsv, .ref nwsh, .ref nwst, .int 0])), (nwe, .inr (4, [.ref nwea, .ref nweb, .ref nwec, .int 0]))] 0 0 (fun (r : Int64) (u : Unit) => r = (-8242179974112640543)) (fun u => [(x, .inr (11, [.ref pg, .ref wr, .ref nw, .ref kp, .ref wk, .ref tr, .null, .int 0, .int 0, .int 0])), (pg, .inr (6, [.ref pgc, .int 0])), (nw, .inr (2, [.ref nwf, .ref nws, .ref nwe, .int 0, .int 0, .int 0])), (nwf, .inr (8, [.ref nwfk, .ref nwfv, .ref nwfh, .ref nwft, .int 0])), (nws, .inr (8, [.ref nwsk, .ref nwsv, .ref nwsh, .ref nwst, .int 0])), (nwe, .inr (4, [.ref nwea, .ref nweb, .ref nwec, .int 0]))]) := by
  refine wk_mkCl (by decide) (Nat.le_of_ble_eq_true rfl) ?_
  intro p e s m below meth c A ls B hA hK hP hD hS hl
  obtain ⟨hx, hb, hr, hlocks, hml, hown, htb, hin⟩ := B
  have hl : lv_has ls 4 [(0, .ref x)] := hl
  refine lv_ldc2 (v := 1151) hx hb hown (htb _ tw_735) dX11_digest_0 ?_
  refine lv_lstore_n (lv' := [(1, .long 1151), (0, .ref x)]) hx hb dX11_digest_3 rfl hl (by decide) rfl (fun ls hl => ?_)
  refine lv_iconst (v := 0) hx hb dX11_digest_4 (by decide) ?_
  refine lv_istore_n (lv' := [(3, .int 0), (1, .long 1151), (0, .ref x)]) hx hb dX11_digest_5 rfl hl (by decide) rfl (fun ls hl => ?_)
  refine lv_iload_n hx hb dX11_digest_6 rfl (lv_at hl 0 rfl) ?_
  refine lv_aload_n hx hb dX11_digest_7 rfl (lv_at hl 2 rfl) ?_
  refine va_get (D := D) (ci := 11) (v := .ref nw) (C := RX11) (T := TX11) (N := 10) hx hb htb inX11 hown hK hP 0 rfl rfl 2 (by decide) (htb _ tw_254) (fun _ h9 => h9) rfl dX11_digest_8 ?_
  refine va_get (D := D) (ci := 2) (v := .ref nwf) (C := RX2) (T := TX2) (N := 6) hx hb htb inX2 hown hK hP 2 rfl rfl 0 (by decide) (htb _ tw_171) (fun _ h9 => h9) rfl dX11_digest_11 ?_
  refine va_get (D := D) (ci := 8) (v := .int 0) (C := RX8) (T := TX8) (N := 5) hx hb htb inX8 hown hK hP 3 rfl rfl 4 (by decide) (htb _ tw_134) (fun _ h9 => h9) rfl dX11_digest_14 ?_
  refine lv_icmp_ge (tgt := 33) hx hb dX11_digest_17 (by decide) (fun _ => ?_) (fun c_1 => absurd (by decide) c_1)
  refine lv_aload_n hx hb dX11_digest_33 rfl (lv_at hl 2 rfl) ?_
  refine va_get (D := D) (ci := 11) (v := .null) (C := RX11) (T := TX11) (N := 10) hx hb htb inX11 hown hK hP 0 rfl rfl 6 (by decide) (htb _ tw_258) (fun _ h9 => h9) rfl dX11_digest_34 ?_
  refine lv_ifnullN (tgt := 50) hx hb dX11_digest_37 (by decide) ?_
  refine lv_lload_n hx hb dX11_digest_50 rfl (lv_at hl 1 rfl) ?_
  refine lv_aload_n hx hb dX11_digest_51 rfl (lv_at hl 2 rfl) ?_
  refine va_get (D := D) (ci := 11) (v := .ref pg) (C := RX11) (T := TX11) (N := 10) hx hb htb inX11 hown hK hP 0 rfl rfl 0 (by decide) (htb _ tw_252) (fun _ h9 => h9) rfl dX11_digest_52 ?_
  refine va_get (D := D) (ci := 6) (v := .ref pgc) (C := RX6) (T := TX6) (N := 2) hx hb htb inX6 hown hK hP 1 rfl rfl 0 (by decide) (htb _ tw_93) (fun _ h9 => h9) rfl dX11_digest_55 ?_
  refine lv_aload_n hx hb dX11_digest_58 rfl (lv_at hl 2 rfl) ?_
  refine va_get (D := D) (ci := 11) (v := .ref pg) (C := RX11) (T := TX11) (N := 10) hx hb htb inX11 hown hK hP 0 rfl rfl 0 (by decide) (htb _ tw_252) (fun _ h9 => h9) rfl dX11_digest_59 ?_
  refine va_get (D := D) (ci := 6) (v := .int 0) (C := RX6) (T := TX6) (N := 2) hx hb htb inX6 hown hK hP 1 rfl rfl 1 (by decide) (htb _ tw_95) (fun _ h9 => h9) rfl dX11_digest_62 ?_
  refine wk_lS (As := [.long 1151, .ref pgc, .int 0]) (rest := []) (wc := []) (wr := [(x, .inr (11, [.ref pg, .ref wr, .ref nw, .ref kp, .ref wk, .ref tr, .null, .int 0, .int 0, .int 0])), (pg, .inr (6, [.ref pgc, .int 0])), (nw, .inr (2, [.ref nwf, .ref nws, .ref nwe, .int 0, .int 0, .int 0])), (nwf, .inr (8, [.ref nwfk, .ref nwfv, .ref nwfh, .ref nwft, .int 0])), (nws, .inr (8, [.ref nwsk, .ref nwsv, .ref nwsh, .ref nwst, .int 0])), (nwe, .inr (4, [.ref nwea, .ref nweb, .ref nwec, .int 0]))]) (n := 3) (R := _) ⟨hx, hb, hml, hown, htb⟩ (c_X11_withCodes l D cy pgc  1151) tw_755 tw_753 tw_754 tw_64 rfl rfl (by decide +kernel) ⟨Nat.le_of_ble_eq_true rfl, Nat.le_of_ble_eq_true rfl⟩ hK hP hD hS hA [] [0, 1, 2, 3, 4, 5] rfl rfl rfl rfl (by decide) rfl hl.1 rfl (Nat.le_of_ble_eq_true rfl) dX11_digest_65 ⟨Nat.le_of_ble_eq_true rfl, Nat.le_of_ble_eq_true rfl⟩ (fun r_2 u_3 H locs hw_4 hP hD hS => ?_)
  refine W.widen (k := 0) (n := 0) (by decide) (by decide) ?_
  have hw_4 : r_2 = 1151 := hw_4
  subst hw_4
  have hP : va_P D classes [(x, .inr (11, [.ref pg, .ref wr, .ref nw, .ref kp, .ref wk, .ref tr, .null, .int 0, .int 0, .int 0])), (pg, .inr (6, [.ref pgc, .int 0])), (nw, .inr (2, [.ref nwf, .ref nws, .ref nwe, .int 0, .int 0, .int 0])), (nwf, .inr (8, [.ref nwfk, .ref nwfv, .ref nwfh, .ref nwft, .int 0])), (nws, .inr (8, [.ref nwsk, .ref nwsv, .ref nwsh, .ref nwst, .int 0])), (nwe, .inr (4, [.ref nwea, .ref nweb, .ref nwec, .int 0]))] H := hP
  have hD : va_D A [(x, .inr (11, [.ref pg, .ref wr, .ref nw, .ref kp, .ref wk, .ref tr, .null, .int 0, .int 0, .int 0])), (pg, .inr (6, [.ref pgc, .int 0])), (nw, .inr (2, [.ref nwf, .ref nws, .ref nwe, .int 0, .int 0, .int 0])), (nwf, .inr (8, [.ref nwfk, .ref nwfv, .ref nwfh, .ref nwft, .int 0])), (nws, .inr (8, [.ref nwsk, .ref nwsv, .ref nwsh, .ref nwst, .int 0])), (nwe, .inr (4, [.ref nwea, .ref nweb, .ref nwec, .int 0]))] := hD
  refine lv_lstore_n (lv' := [(1, .long 1151), (3, .int 0), (0, .ref x)]) hx hb dX11_digest_68 rfl hl (by decide) rfl (fun ls hl => ?_)
  refine lv_iconst (v := 0) hx hb dX11_digest_69 (by decide) ?_
  refine lv_istore_n (lv' := [(3, .int 0), (1, .long 1151), (0, .ref x)]) hx hb dX11_digest_70 rfl hl (by decide) rfl (fun ls hl => ?_)
  refine lv_iload_n hx hb dX11_digest_71 rfl (lv_at hl 0 rfl) ?_
  refine lv_bipush (v := 12) hx hb dX11_digest_72 (by decide) ?_
  refine lv_icmp_gt (tgt := 96) hx hb dX11_digest_74 (by decide) (fun c_5 => absurd c_5 (by decide)) (fun _ => ?_)
  refine lv_ldc2 (v := 31) hx hb hown (htb _ tw_740) dX11_digest_77 ?_
  refine lv_lload_n hx hb dX11_digest_80 rfl (lv_at hl 1 rfl) ?_
  refine lv_lmul hx hb dX11_digest_81 ?_
  refine wk_tol (show ((31 * 1151) : Int64) = 35681 by decide) ?_
  refine lv_aload_n hx hb dX11_digest_82 rfl (lv_at hl 2 rfl) ?_
  refine lv_iload_n hx hb dX11_digest_83 rfl (lv_at hl 0 rfl) ?_
  refine wk_iV (As := [.int 0]) (rest := [.long 35681]) (wc := [(x, .inr (11, [.ref pg, .ref wr, .ref nw, .ref kp, .ref wk, .ref tr, .null, .int 0, .int 0, .int 0])), (pg, .inr (6, [.ref pgc, .int 0])), (nw, .inr (2, [.ref nwf, .ref nws, .ref nwe, .int 0, .int 0, .int 0])), (nwf, .inr (8, [.ref nwfk, .ref nwfv, .ref nwfh, .ref nwft, .int 0])), (nws, .inr (8, [.ref nwsk, .ref nwsv, .ref nwsh, .ref nwst, .int 0])), (nwe, .inr (4, [.ref nwea, .ref nweb, .ref nwec, .int 0]))]) (wr := []) (n := 1) (R := _) ⟨hx, hb, hml, hown, htb⟩ (c_X11_count l D cy x pg wr nw kp wk tr pgc nwf nws nwe nwfk nwfv nwfh nwft nwsk nwsv nwsh nwst nwea nweb nwec 0 ) tw_724 tw_756 tw_722 tw_723 tw_64 rfl rfl (by decide +kernel) ⟨Nat.le_of_ble_eq_true rfl, Nat.le_of_ble_eq_true rfl⟩ hK hP hD hS hA [0, 1, 2, 3, 4, 5] [] rfl rfl rfl rfl (by decide) 0 (ci := 11) rfl rfl rfl hl.1 rfl (Nat.le_of_ble_eq_true rfl) dX11_digest_84 ⟨Nat.le_of_ble_eq_true rfl, Nat.le_of_ble_eq_true rfl⟩ (fun r_6 u_7 H locs hw_8 hP hD hS => ?_)
  refine W.widen (k := 0) (n := 0) (by decide) (by decide) ?_
  have hw_8 : r_6 = if (0 ≤ (0 : Int32).toInt ∧ (0 : Int32).toInt ≤ 12) then 0 else (-102) := hw_8
  subst hw_8
  have hP : va_P D classes [(x, .inr (11, [.ref pg, .ref wr, .ref nw, .ref kp, .ref wk, .ref tr, .null, .int 0, .int 0, .int 0])), (pg, .inr (6, [.ref pgc, .int 0])), (nw, .inr (2, [.ref nwf, .ref nws, .ref nwe, .int 0, .int 0, .int 0])), (nwf, .inr (8, [.ref nwfk, .ref nwfv, .ref nwfh, .ref nwft, .int 0])), (nws, .inr (8, [.ref nwsk, .ref nwsv, .ref nwsh, .ref nwst, .int 0])), (nwe, .inr (4, [.ref nwea, .ref nweb, .ref nwec, .int 0]))] H := hP
  have hD : va_D A [(x, .inr (11, [.ref pg, .ref wr, .ref nw, .ref kp, .ref wk, .ref tr, .null, .int 0, .int 0, .int 0])), (pg, .inr (6, [.ref pgc, .int 0])), (nw, .inr (2, [.ref nwf, .ref nws, .ref nwe, .int 0, .int 0, .int 0])), (nwf, .inr (8, [.ref nwfk, .ref nwfv, .ref nwfh, .ref nwft, .int 0])), (nws, .inr (8, [.ref nwsk, .ref nwsv, .ref nwsh, .ref nwst, .int 0])), (nwe, .inr (4, [.ref nwea, .ref nweb, .ref nwec, .int 0]))] := hD
  refine wk_toi (show ((if (0 ≤ (0 : Int32).toInt ∧ (0 : Int32).toInt ≤ 12) then 0 else (-102)) : Int32) = 0 by decide) ?_
  refine lv_i2l (v := 0) hx hb dX11_digest_87 (by decide) ?_
  refine lv_ladd hx hb dX11_digest_88 ?_
  refine wk_tol (show ((35681 + 0) : Int64) = 35681 by decide) ?_
  refine lv_lstore_n (lv' := [(1, .long 35681), (3, .int 0), (0, .ref x)]) hx hb dX11_digest_89 rfl hl (by decide) rfl (fun ls hl => ?_)
  refine lv_iinc (v := 1) (lv' := [(3, .int 1), (1, .long 35681), (0, .ref x)]) hx hb dX11_digest_90 hl (k := 1) rfl (by decide) (by decide) rfl (fun ls hl => ?_)
  refine lv_goto (tgt := 71) hx hb dX11_digest_93 (by decide) ?_
  refine lv_iload_n hx hb dX11_digest_71 rfl (lv_at hl 0 rfl) ?_
  refine lv_bipush (v := 12) hx hb dX11_digest_72 (by decide) ?_
  refine lv_icmp_gt (tgt := 96) hx hb dX11_digest_74 (by decide) (fun c_9 => absurd c_9 (by decide)) (fun _ => ?_)
  refine lv_ldc2 (v := 31) hx hb hown (htb _ tw_740) dX11_digest_77 ?_
  refine lv_lload_n hx hb dX11_digest_80 rfl (lv_at hl 1 rfl) ?_
  refine lv_lmul hx hb dX11_digest_81 ?_
  refine wk_tol (show ((31 * 35681) : Int64) = 1106111 by decide) ?_
  refine lv_aload_n hx hb dX11_digest_82 rfl (lv_at hl 2 rfl) ?_
  refine lv_iload_n hx hb dX11_digest_83 rfl (lv_at hl 0 rfl) ?_
  refine wk_iV (As := [.int 1]) (rest := [.long 1106111]) (wc := [(x, .inr (11, [.ref pg, .ref wr, .ref nw, .ref kp, .ref wk, .ref tr, .null, .int 0, .int 0, .int 0])), (pg, .inr (6, [.ref pgc, .int 0])), (nw, .inr (2, [.ref nwf, .ref nws, .ref nwe, .int 0, .int 0, .int 0])), (nwf, .inr (8, [.ref nwfk, .ref nwfv, .ref nwfh, .ref nwft, .int 0])), (nws, .inr (8, [.ref nwsk, .ref nwsv, .ref nwsh, .ref nwst, .int 0])), (nwe, .inr (4, [.ref nwea, .ref nweb, .ref nwec, .int 0]))]) (wr := []) (n := 1) (R := _) ⟨hx, hb, hml, hown, htb⟩ (c_X11_count l D cy x pg wr nw kp wk tr pgc nwf nws nwe nwfk nwfv nwfh nwft nwsk nwsv nwsh nwst nwea nweb nwec 1 ) tw_724 tw_756 tw_722 tw_723 tw_64 rfl rfl (by decide +kernel) ⟨Nat.le_of_ble_eq_true rfl, Nat.le_of_ble_eq_true rfl⟩ hK hP hD hS hA [0, 1, 2, 3, 4, 5] [] rfl rfl rfl rfl (by decide) 0 (ci := 11) rfl rfl rfl hl.1 rfl (Nat.le_of_ble_eq_true rfl) dX11_digest_84 ⟨Nat.le_of_ble_eq_true rfl, Nat.le_of_ble_eq_true rfl⟩ (fun r_10 u_11 H locs hw_12 hP hD hS => ?_)
  refine W.widen (k := 0) (n := 0) (by decide) (by decide) ?_
  have hw_12 : r_10 = if (0 ≤ (1 : Int32).toInt ∧ (1 : Int32).toInt ≤ 12) then 0 else (-102) := hw_12
  subst hw_12
  have hP : va_P D classes [(x, .inr (11, [.ref pg, .ref wr, .ref nw, .ref kp, .ref wk, .ref tr, .null, .int 0, .int 0, .int 0])), (pg, .inr (6, [.ref pgc, .int 0])), (nw, .inr (2, [.ref nwf, .ref nws, .ref nwe, .int 0, .int 0, .int 0])), (nwf, .inr (8, [.ref nwfk, .ref nwfv, .ref nwfh, .ref nwft, .int 0])), (nws, .inr (8, [.ref nwsk, .ref nwsv, .ref nwsh, .ref nwst, .int 0])), (nwe, .inr (4, [.ref nwea, .ref nweb, .ref nwec, .int 0]))] H := hP
  have hD : va_D A [(x, .inr (11, [.ref pg, .ref wr, .ref nw, .ref kp, .ref wk, .ref tr, .null, .int 0, .int 0, .int 0])), (pg, .inr (6, [.ref pgc, .int 0])), (nw, .inr (2, [.ref nwf, .ref nws, .ref nwe, .int 0, .int 0, .int 0])), (nwf, .inr (8, [.ref nwfk, .ref nwfv, .ref nwfh, .ref nwft, .int 0])), (nws, .inr (8, [.ref nwsk, .ref nwsv, .ref nwsh, .ref nwst, .int 0])), (nwe, .inr (4, [.ref nwea, .ref nweb, .ref nwec, .int 0]))] := hD
  refine wk_toi (show ((if (0 ≤ (1 : Int32).toInt ∧ (1 : Int32).toInt ≤ 12) then 0 else (-102)) : Int32) = 0 by decide) ?_
  refine lv_i2l (v := 0) hx hb dX11_digest_87 (by decide) ?_
  refine lv_ladd hx hb dX11_digest_88 ?_
  refine wk_tol (show ((1106111 + 0) : Int64) = 1106111 by decide) ?_
  refine lv_lstore_n (lv' := [(1, .long 1106111), (3, .int 1), (0, .ref x)]) hx hb dX11_digest_89 rfl hl (by decide) rfl (fun ls hl => ?_)
  refine lv_iinc (v := 2) (lv' := [(3, .int 2), (1, .long 1106111), (0, .ref x)]) hx hb dX11_digest_90 hl (k := 1) rfl (by decide) (by decide) rfl (fun ls hl => ?_)
  refine lv_goto (tgt := 71) hx hb dX11_digest_93 (by decide) ?_
  refine lv_iload_n hx hb dX11_digest_71 rfl (lv_at hl 0 rfl) ?_
  refine lv_bipush (v := 12) hx hb dX11_digest_72 (by decide) ?_
  refine lv_icmp_gt (tgt := 96) hx hb dX11_digest_74 (by decide) (fun c_13 => absurd c_13 (by decide)) (fun _ => ?_)
  refine lv_ldc2 (v := 31) hx hb hown (htb _ tw_740) dX11_digest_77 ?_
  refine lv_lload_n hx hb dX11_digest_80 rfl (lv_at hl 1 rfl) ?_
  refine lv_lmul hx hb dX11_digest_81 ?_
  refine wk_tol (show ((31 * 1106111) : Int64) = 34289441 by decide) ?_
  refine lv_aload_n hx hb dX11_digest_82 rfl (lv_at hl 2 rfl) ?_
  refine lv_iload_n hx hb dX11_digest_83 rfl (lv_at hl 0 rfl) ?_
  refine wk_iV (As := [.int 2]) (rest := [.long 34289441]) (wc := [(x, .inr (11, [.ref pg, .ref wr, .ref nw, .ref kp, .ref wk, .ref tr, .null, .int 0, .int 0, .int 0])), (pg, .inr (6, [.ref pgc, .int 0])), (nw, .inr (2, [.ref nwf, .ref nws, .ref nwe, .int 0, .int 0, .int 0])), (nwf, .inr (8, [.ref nwfk, .ref nwfv, .ref nwfh, .ref nwft, .int 0])), (nws, .inr (8, [.ref nwsk, .ref nwsv, .ref nwsh, .ref nwst, .int 0])), (nwe, .inr (4, [.ref nwea, .ref nweb, .ref nwec, .int 0]))]) (wr := []) (n := 1) (R := _) ⟨hx, hb, hml, hown, htb⟩ (c_X11_count l D cy x pg wr nw kp wk tr pgc nwf nws nwe nwfk nwfv nwfh nwft nwsk nwsv nwsh nwst nwea nweb nwec 2 ) tw_724 tw_756 tw_722 tw_723 tw_64 rfl rfl (by decide +kernel) ⟨Nat.le_of_ble_eq_true rfl, Nat.le_of_ble_eq_true rfl⟩ hK hP hD hS hA [0, 1, 2, 3, 4, 5] [] rfl rfl rfl rfl (by decide) 0 (ci := 11) rfl rfl rfl hl.1 rfl (Nat.le_of_ble_eq_true rfl) dX11_digest_84 ⟨Nat.le_of_ble_eq_true rfl, Nat.le_of_ble_eq_true rfl⟩ (fun r_14 u_15 H locs hw_16 hP hD hS => ?_)
  refine W.widen (k := 0) (n := 0) (by decide) (by decide) ?_
  have hw_16 : r_14 = if (0 ≤ (2 : Int32).toInt ∧ (2 : Int32).toInt ≤ 12) then 0 else (-102) := hw_16
  subst hw_16
  have hP : va_P D classes [(x, .inr (11, [.ref pg, .ref wr, .ref nw, .ref kp, .ref wk, .ref tr, .null, .int 0, .int 0, .int 0])), (pg, .inr (6, [.ref pgc, .int 0])), (nw, .inr (2, [.ref nwf, .ref nws, .ref nwe, .int 0, .int 0, .int 0])), (nwf, .inr (8, [.ref nwfk, .ref nwfv, .ref nwfh, .ref nwft, .int 0])), (nws, .inr (8, [.ref nwsk, .ref nwsv, .ref nwsh, .ref nwst, .int 0])), (nwe, .inr (4, [.ref nwea, .ref nweb, .ref nwec, .int 0]))] H := hP
  have hD : va_D A [(x, .inr (11, [.ref pg, .ref wr, .ref nw, .ref kp, .ref wk, .ref tr, .null, .int 0, .int 0, .int 0])), (pg, .inr (6, [.ref pgc, .int 0])), (nw, .inr (2, [.ref nwf, .ref nws, .ref nwe, .int 0, .int 0, .int 0])), (nwf, .inr (8, [.ref nwfk, .ref nwfv, .ref nwfh, .ref nwft, .int 0])), (nws, .inr (8, [.ref nwsk, .ref nwsv, .ref nwsh, .ref nwst, .int 0])), (nwe, .inr (4, [.ref nwea, .ref nweb, .ref nwec, .int 0]))] := hD
  refine wk_toi (show ((if (0 ≤ (2 : Int32).toInt ∧ (2 : Int32).toInt ≤ 12) then 0 else (-102)) : Int32) = 0 by decide) ?_
  refine lv_i2l (v := 0) hx hb dX11_digest_87 (by decide) ?_
  refine lv_ladd hx hb dX11_digest_88 ?_
  refine wk_tol (show ((34289441 + 0) : Int64) = 34289441 by decide) ?_
  refine lv_lstore_n (lv' := [(1, .long 34289441), (3, .int 2), (0, .ref x)]) hx hb dX11_digest_89 rfl hl (by decide) rfl (fun ls hl => ?_)
  refine lv_iinc (v := 3) (lv' := [(3, .int 3), (1, .long 34289441), (0, .ref x)]) hx hb dX11_digest_90 hl (k := 1) rfl (by decide) (by decide) rfl (fun ls hl => ?_)
  refine lv_goto (tgt := 71) hx hb dX11_digest_93 (by decide) ?_
  refine lv_iload_n hx hb dX11_digest_71 rfl (lv_at hl 0 rfl) ?_
  refine lv_bipush (v := 12) hx hb dX11_digest_72 (by decide) ?_
  refine lv_icmp_gt (tgt := 96) hx hb dX11_digest_74 (by decide) (fun c_17 => absurd c_17 (by decide)) (fun _ => ?_)
  refine lv_ldc2 (v := 31) hx hb hown (htb _ tw_740) dX11_digest_77 ?_
  refine lv_lload_n hx hb dX11_digest_80 rfl (lv_at hl 1 rfl) ?_
  refine lv_lmul hx hb dX11_digest_81 ?_
  refine wk_tol (show ((31 * 34289441) : Int64) = 1062972671 by decide) ?_
  refine lv_aload_n hx hb dX11_digest_82 rfl (lv_at hl 2 rfl) ?_
  refine lv_iload_n hx hb dX11_digest_83 rfl (lv_at hl 0 rfl) ?_
  refine wk_iV (As := [.int 3]) (rest := [.long 1062972671]) (wc := [(x, .inr (11, [.ref pg, .ref wr, .ref nw, .ref kp, .ref wk, .ref tr, .null, .int 0, .int 0, .int 0])), (pg, .inr (6, [.ref pgc, .int 0])), (nw, .inr (2, [.ref nwf, .ref nws, .ref nwe, .int 0, .int 0, .int 0])), (nwf, .inr (8, [.ref nwfk, .ref nwfv, .ref nwfh, .ref nwft, .int 0])), (nws, .inr (8, [.ref nwsk, .ref nwsv, .ref nwsh, .ref nwst, .int 0])), (nwe, .inr (4, [.ref nwea, .ref nweb, .ref nwec, .int 0]))]) (wr := []) (n := 1) (R := _) ⟨hx, hb, hml, hown, htb⟩ (c_X11_count l D cy x pg wr nw kp wk tr pgc nwf nws nwe nwfk nwfv nwfh nwft nwsk nwsv nwsh nwst nwea nweb nwec 3 ) tw_724 tw_756 tw_722 tw_723 tw_64 rfl rfl (by decide +kernel) ⟨Nat.le_of_ble_eq_true rfl, Nat.le_of_ble_eq_true rfl⟩ hK hP hD hS hA [0, 1, 2, 3, 4, 5] [] rfl rfl rfl rfl (by decide) 0 (ci := 11) rfl rfl rfl hl.1 rfl (Nat.le_of_ble_eq_true rfl) dX11_digest_84 ⟨Nat.le_of_ble_eq_true rfl, Nat.le_of_ble_eq_true rfl⟩ (fun r_18 u_19 H locs hw_20 hP hD hS => ?_)
  refine W.widen (k := 0) (n := 0) (by decide) (by decide) ?_
  have hw_20 : r_18 = if (0 ≤ (3 : Int32).toInt ∧ (3 : Int32).toInt ≤ 12) then 0 else (-102) := hw_20
  subst hw_20
  have hP : va_P D classes [(x, .inr (11, [.ref pg, .ref wr, .ref nw, .ref kp, .ref wk, .ref tr, .null, .int 0, .int 0, .int 0])), (pg, .inr (6, [.ref pgc, .int 0])), (nw, .inr (2, [.ref nwf, .ref nws, .ref nwe, .int 0, .int 0, .int 0])), (nwf, .inr (8, [.ref nwfk, .ref nwfv, .ref nwfh, .ref nwft, .int 0])), (nws, .inr (8, [.ref nwsk, .ref nwsv, .ref nwsh, .ref nwst, .int 0])), (nwe, .inr (4, [.ref nwea, .ref nweb, .ref nwec, .int 0]))] H := hP
  have hD : va_D A [(x, .inr (11, [.ref pg, .ref wr, .ref nw, .ref kp, .ref wk, .ref tr, .null, .int 0, .int 0, .int 0])), (pg, .inr (6, [.ref pgc, .int 0])), (nw, .inr (2, [.ref nwf, .ref nws, .ref nwe, .int 0, .int 0, .int 0])), (nwf, .inr (8, [.ref nwfk, .ref nwfv, .ref nwfh, .ref nwft, .int 0])), (nws, .inr (8, [.ref nwsk, .ref nwsv, .ref nwsh, .ref nwst, .int 0])), (nwe, .inr (4, [.ref nwea, .ref nweb, .ref nwec, .int 0]))] := hD
  refine wk_toi (show ((if (0 ≤ (3 : Int32).toInt ∧ (3 : Int32).toInt ≤ 12) then 0 else (-102)) : Int32) = 0 by decide) ?_
  refine lv_i2l (v := 0) hx hb dX11_digest_87 (by decide) ?_
  refine lv_ladd hx hb dX11_digest_88 ?_
  refine wk_tol (show ((1062972671 + 0) : Int64) = 1062972671 by decide) ?_
  refine lv_lstore_n (lv' := [(1, .long 1062972671), (3, .int 3), (0, .ref x)]) hx hb dX11_digest_89 rfl hl (by decide) rfl (fun ls hl => ?_)
  refine lv_iinc (v := 4) (lv' := [(3, .int 4), (1, .long 1062972671), (0, .ref x)]) hx hb dX11_digest_90 hl (k := 1) rfl (by decide) (by decide) rfl (fun ls hl => ?_)
  refine lv_goto (tgt := 71) hx hb dX11_digest_93 (by decide) ?_
  refine lv_iload_n hx hb dX11_digest_71 rfl (lv_at hl 0 rfl) ?_
  refine lv_bipush (v := 12) hx hb dX11_digest_72 (by decide) ?_
  refine lv_icmp_gt (tgt := 96) hx hb dX11_digest_74 (by decide) (fun c_21 => absurd c_21 (by decide)) (fun _ => ?_)
  refine lv_ldc2 (v := 31) hx hb hown (htb _ tw_740) dX11_digest_77 ?_
  refine lv_lload_n hx hb dX11_digest_80 rfl (lv_at hl 1 rfl) ?_
  refine lv_lmul hx hb dX11_digest_81 ?_
  refine wk_tol (show ((31 * 1062972671) : Int64) = 32952152801 by decide) ?_
  refine lv_aload_n hx hb dX11_digest_82 rfl (lv_at hl 2 rfl) ?_
  refine lv_iload_n hx hb dX11_digest_83 rfl (lv_at hl 0 rfl) ?_
  refine wk_iV (As := [.int 4]) (rest := [.long 32952152801]) (wc := [(x, .inr (11, [.ref pg, .ref wr, .ref nw, .ref kp, .ref wk, .ref tr, .null, .int 0, .int 0, .int 0])), (pg, .inr (6, [.ref pgc, .int 0])), (nw, .inr (2, [.ref nwf, .ref nws, .ref nwe, .int 0, .int 0, .int 0])), (nwf, .inr (8, [.ref nwfk, .ref nwfv, .ref nwfh, .ref nwft, .int 0])), (nws, .inr (8, [.ref nwsk, .ref nwsv, .ref nwsh, .ref nwst, .int 0])), (nwe, .inr (4, [.ref nwea, .ref nweb, .ref nwec, .int 0]))]) (wr := []) (n := 1) (R := _) ⟨hx, hb, hml, hown, htb⟩ (c_X11_count l D cy x pg wr nw kp wk tr pgc nwf nws nwe nwfk nwfv nwfh nwft nwsk nwsv nwsh nwst nwea nweb nwec 4 ) tw_724 tw_756 tw_722 tw_723 tw_64 rfl rfl (by decide +kernel) ⟨Nat.le_of_ble_eq_true rfl, Nat.le_of_ble_eq_true rfl⟩ hK hP hD hS hA [0, 1, 2, 3, 4, 5] [] rfl rfl rfl rfl (by decide) 0 (ci := 11) rfl rfl rfl hl.1 rfl (Nat.le_of_ble_eq_true rfl) dX11_digest_84 ⟨Nat.le_of_ble_eq_true rfl, Nat.le_of_ble_eq_true rfl⟩ (fun r_22 u_23 H locs hw_24 hP hD hS => ?_)
  refine W.widen (k := 0) (n := 0) (by decide) (by decide) ?_
  have hw_24 : r_22 = if (0 ≤ (4 : Int32).toInt ∧ (4 : Int32).toInt ≤ 12) then 0 else (-102) := hw_24
  subst hw_24
  have hP : va_P D classes [(x, .inr (11, [.ref pg, .ref wr, .ref nw, .ref kp, .ref wk, .ref tr, .null, .int 0, .int 0, .int 0])), (pg, .inr (6, [.ref pgc, .int 0])), (nw, .inr (2, [.ref nwf, .ref nws, .ref nwe, .int 0, .int 0, .int 0])), (nwf, .inr (8, [.ref nwfk, .ref nwfv, .ref nwfh, .ref nwft, .int 0])), (nws, .inr (8, [.ref nwsk, .ref nwsv, .ref nwsh, .ref nwst, .int 0])), (nwe, .inr (4, [.ref nwea, .ref nweb, .ref nwec, .int 0]))] H := hP
  have hD : va_D A [(x, .inr (11, [.ref pg, .ref wr, .ref nw, .ref kp, .ref wk, .ref tr, .null, .int 0, .int 0, .int 0])), (pg, .inr (6, [.ref pgc, .int 0])), (nw, .inr (2, [.ref nwf, .ref nws, .ref nwe, .int 0, .int 0, .int 0])), (nwf, .inr (8, [.ref nwfk, .ref nwfv, .ref nwfh, .ref nwft, .int 0])), (nws, .inr (8, [.ref nwsk, .ref nwsv, .ref nwsh, .ref nwst, .int 0])), (nwe, .inr (4, [.ref nwea, .ref nweb, .ref nwec, .int 0]))] := hD
  refine wk_toi (show ((if (0 ≤ (4 : Int32).toInt ∧ (4 : Int32).toInt ≤ 12) then 0 else (-102)) : Int32) = 0 by decide) ?_
  refine lv_i2l (v := 0) hx hb dX11_digest_87 (by decide) ?_
  refine lv_ladd hx hb dX11_digest_88 ?_
  refine wk_tol (show ((32952152801 + 0) : Int64) = 32952152801 by decide) ?_
  refine lv_lstore_n (lv' := [(1, .long 32952152801), (3, .int 4), (0, .ref x)]) hx hb dX11_digest_89 rfl hl (by decide) rfl (fun ls hl => ?_)
  refine lv_iinc (v := 5) (lv' := [(3, .int 5), (1, .long 32952152801), (0, .ref x)]) hx hb dX11_digest_90 hl (k := 1) rfl (by decide) (by decide) rfl (fun ls hl => ?_)
  refine lv_goto (tgt := 71) hx hb dX11_digest_93 (by decide) ?_
  refine lv_iload_n hx hb dX11_digest_71 rfl (lv_at hl 0 rfl) ?_
  refine lv_bipush (v := 12) hx hb dX11_digest_72 (by decide) ?_
  refine lv_icmp_gt (tgt := 96) hx hb dX11_digest_74 (by decide) (fun c_25 => absurd c_25 (by decide)) (fun _ => ?_)
  refine lv_ldc2 (v := 31) hx hb hown (htb _ tw_740) dX11_digest_77 ?_
  refine lv_lload_n hx hb dX11_digest_80 rfl (lv_at hl 1 rfl) ?_
  refine lv_lmul hx hb dX11_digest_81 ?_
  refine wk_tol (show ((31 * 32952152801) : Int64) = 1021516736831 by decide) ?_
  refine lv_aload_n hx hb dX11_digest_82 rfl (lv_at hl 2 rfl) ?_
  refine lv_iload_n hx hb dX11_digest_83 rfl (lv_at hl 0 rfl) ?_
  refine wk_iV (As := [.int 5]) (rest := [.long 1021516736831]) (wc := [(x, .inr (11, [.ref pg, .ref wr, .ref nw, .ref kp, .ref wk, .ref tr, .null, .int 0, .int 0, .int 0])), (pg, .inr (6, [.ref pgc, .int 0])), (nw, .inr (2, [.ref nwf, .ref nws, .ref nwe, .int 0, .int 0, .int 0])), (nwf, .inr (8, [.ref nwfk, .ref nwfv, .ref nwfh, .ref nwft, .int 0])), (nws, .inr (8, [.ref nwsk, .ref nwsv, .ref nwsh, .ref nwst, .int 0])), (nwe, .inr (4, [.ref nwea, .ref nweb, .ref nwec, .int 0]))]) (wr := []) (n := 1) (R := _) ⟨hx, hb, hml, hown, htb⟩ (c_X11_count l D cy x pg wr nw kp wk tr pgc nwf nws nwe nwfk nwfv nwfh nwft nwsk nwsv nwsh nwst nwea nweb nwec 5 ) tw_724 tw_756 tw_722 tw_723 tw_64 rfl rfl (by decide +kernel) ⟨Nat.le_of_ble_eq_true rfl, Nat.le_of_ble_eq_true rfl⟩ hK hP hD hS hA [0, 1, 2, 3, 4, 5] [] rfl rfl rfl rfl (by decide) 0 (ci := 11) rfl rfl rfl hl.1 rfl (Nat.le_of_ble_eq_true rfl) dX11_digest_84 ⟨Nat.le_of_ble_eq_true rfl, Nat.le_of_ble_eq_true rfl⟩ (fun r_26 u_27 H locs hw_28 hP hD hS => ?_)
  refine W.widen (k := 0) (n := 0) (by decide) (by decide) ?_
  have hw_28 : r_26 = if (0 ≤ (5 : Int32).toInt ∧ (5 : Int32).toInt ≤ 12) then 0 else (-102) := hw_28
  subst hw_28
  have hP : va_P D classes [(x, .inr (11, [.ref pg, .ref wr, .ref nw, .ref kp, .ref wk, .ref tr, .null, .int 0, .int 0, .int 0])), (pg, .inr (6, [.ref pgc, .int 0])), (nw, .inr (2, [.ref nwf, .ref nws, .ref nwe, .int 0, .int 0, .int 0])), (nwf, .inr (8, [.ref nwfk, .ref nwfv, .ref nwfh, .ref nwft, .int 0])), (nws, .inr (8, [.ref nwsk, .ref nwsv, .ref nwsh, .ref nwst, .int 0])), (nwe, .inr (4, [.ref nwea, .ref nweb, .ref nwec, .int 0]))] H := hP
  have hD : va_D A [(x, .inr (11, [.ref pg, .ref wr, .ref nw, .ref kp, .ref wk, .ref tr, .null, .int 0, .int 0, .int 0])), (pg, .inr (6, [.ref pgc, .int 0])), (nw, .inr (2, [.ref nwf, .ref nws, .ref nwe, .int 0, .int 0, .int 0])), (nwf, .inr (8, [.ref nwfk, .ref nwfv, .ref nwfh, .ref nwft, .int 0])), (nws, .inr (8, [.ref nwsk, .ref nwsv, .ref nwsh, .ref nwst, .int 0])), (nwe, .inr (4, [.ref nwea, .ref nweb, .ref nwec, .int 0]))] := hD
  refine wk_toi (show ((if (0 ≤ (5 : Int32).toInt ∧ (5 : Int32).toInt ≤ 12) then 0 else (-102)) : Int32) = 0 by decide) ?_
  refine lv_i2l (v := 0) hx hb dX11_digest_87 (by decide) ?_
  refine lv_ladd hx hb dX11_digest_88 ?_
  refine wk_tol (show ((1021516736831 + 0) : Int64) = 1021516736831 by decide) ?_
  refine lv_lstore_n (lv' := [(1, .long 1021516736831), (3, .int 5), (0, .ref x)]) hx hb dX11_digest_89 rfl hl (by decide) rfl (fun ls hl => ?_)
  refine lv_iinc (v := 6) (lv' := [(3, .int 6), (1, .long 1021516736831), (0, .ref x)]) hx hb dX11_digest_90 hl (k := 1) rfl (by decide) (by decide) rfl (fun ls hl => ?_)
  refine lv_goto (tgt := 71) hx hb dX11_digest_93 (by decide) ?_
  refine lv_iload_n hx hb dX11_digest_71 rfl (lv_at hl 0 rfl) ?_
  refine lv_bipush (v := 12) hx hb dX11_digest_72 (by decide) ?_
  refine lv_icmp_gt (tgt := 96) hx hb dX11_digest_74 (by decide) (fun c_29 => absurd c_29 (by decide)) (fun _ => ?_)
  refine lv_ldc2 (v := 31) hx hb hown (htb _ tw_740) dX11_digest_77 ?_
  refine lv_lload_n hx hb dX11_digest_80 rfl (lv_at hl 1 rfl) ?_
  refine lv_lmul hx hb dX11_digest_81 ?_
  refine wk_tol (show ((31 * 1021516736831) : Int64) = 31667018841761 by decide) ?_
  refine lv_aload_n hx hb dX11_digest_82 rfl (lv_at hl 2 rfl) ?_
  refine lv_iload_n hx hb dX11_digest_83 rfl (lv_at hl 0 rfl) ?_
  refine wk_iV (As := [.int 6]) (rest := [.long 31667018841761]) (wc := [(x, .inr (11, [.ref pg, .ref wr, .ref nw, .ref kp, .ref wk, .ref tr, .null, .int 0, .int 0, .int 0])), (pg, .inr (6, [.ref pgc, .int 0])), (nw, .inr (2, [.ref nwf, .ref nws, .ref nwe, .int 0, .int 0, .int 0])), (nwf, .inr (8, [.ref nwfk, .ref nwfv, .ref nwfh, .ref nwft, .int 0])), (nws, .inr (8, [.ref nwsk, .ref nwsv, .ref nwsh, .ref nwst, .int 0])), (nwe, .inr (4, [.ref nwea, .ref nweb, .ref nwec, .int 0]))]) (wr := []) (n := 1) (R := _) ⟨hx, hb, hml, hown, htb⟩ (c_X11_count l D cy x pg wr nw kp wk tr pgc nwf nws nwe nwfk nwfv nwfh nwft nwsk nwsv nwsh nwst nwea nweb nwec 6 ) tw_724 tw_756 tw_722 tw_723 tw_64 rfl rfl (by decide +kernel) ⟨Nat.le_of_ble_eq_true rfl, Nat.le_of_ble_eq_true rfl⟩ hK hP hD hS hA [0, 1, 2, 3, 4, 5] [] rfl rfl rfl rfl (by decide) 0 (ci := 11) rfl rfl rfl hl.1 rfl (Nat.le_of_ble_eq_true rfl) dX11_digest_84 ⟨Nat.le_of_ble_eq_true rfl, Nat.le_of_ble_eq_true rfl⟩ (fun r_30 u_31 H locs hw_32 hP hD hS => ?_)
  refine W.widen (k := 0) (n := 0) (by decide) (by decide) ?_
  have hw_32 : r_30 = if (0 ≤ (6 : Int32).toInt ∧ (6 : Int32).toInt ≤ 12) then 0 else (-102) := hw_32
  subst hw_32
  have hP : va_P D classes [(x, .inr (11, [.ref pg, .ref wr, .ref nw, .ref kp, .ref wk, .ref tr, .null, .int 0, .int 0, .int 0])), (pg, .inr (6, [.ref pgc, .int 0])), (nw, .inr (2, [.ref nwf, .ref nws, .ref nwe, .int 0, .int 0, .int 0])), (nwf, .inr (8, [.ref nwfk, .ref nwfv, .ref nwfh, .ref nwft, .int 0])), (nws, .inr (8, [.ref nwsk, .ref nwsv, .ref nwsh, .ref nwst, .int 0])), (nwe, .inr (4, [.ref nwea, .ref nweb, .ref nwec, .int 0]))] H := hP
  have hD : va_D A [(x, .inr (11, [.ref pg, .ref wr, .ref nw, .ref kp, .ref wk, .ref tr, .null, .int 0, .int 0, .int 0])), (pg, .inr (6, [.ref pgc, .int 0])), (nw, .inr (2, [.ref nwf, .ref nws, .ref nwe, .int 0, .int 0, .int 0])), (nwf, .inr (8, [.ref nwfk, .ref nwfv, .ref nwfh, .ref nwft, .int 0])), (nws, .inr (8, [.ref nwsk, .ref nwsv, .ref nwsh, .ref nwst, .int 0])), (nwe, .inr (4, [.ref nwea, .ref nweb, .ref nwec, .int 0]))] := hD
  refine wk_toi (show ((if (0 ≤ (6 : Int32).toInt ∧ (6 : Int32).toInt ≤ 12) then 0 else (-102)) : Int32) = 0 by decide) ?_
  refine lv_i2l (v := 0) hx hb dX11_digest_87 (by decide) ?_
  refine lv_ladd hx hb dX11_digest_88 ?_
  refine wk_tol (show ((31667018841761 + 0) : Int64) = 31667018841761 by decide) ?_
  refine lv_lstore_n (lv' := [(1, .long 31667018841761), (3, .int 6), (0, .ref x)]) hx hb dX11_digest_89 rfl hl (by decide) rfl (fun ls hl => ?_)
  refine lv_iinc (v := 7) (lv' := [(3, .int 7), (1, .long 31667018841761), (0, .ref x)]) hx hb dX11_digest_90 hl (k := 1) rfl (by decide) (by decide) rfl (fun ls hl => ?_)
  refine lv_goto (tgt := 71) hx hb dX11_digest_93 (by decide) ?_
  refine lv_iload_n hx hb dX11_digest_71 rfl (lv_at hl 0 rfl) ?_
  refine lv_bipush (v := 12) hx hb dX11_digest_72 (by decide) ?_
  refine lv_icmp_gt (tgt := 96) hx hb dX11_digest_74 (by decide) (fun c_33 => absurd c_33 (by decide)) (fun _ => ?_)
  refine lv_ldc2 (v := 31) hx hb hown (htb _ tw_740) dX11_digest_77 ?_
  refine lv_lload_n hx hb dX11_digest_80 rfl (lv_at hl 1 rfl) ?_
  refine lv_lmul hx hb dX11_digest_81 ?_
  refine wk_tol (show ((31 * 31667018841761) : Int64) = 981677584094591 by decide) ?_
  refine lv_aload_n hx hb dX11_digest_82 rfl (lv_at hl 2 rfl) ?_
  refine lv_iload_n hx hb dX11_digest_83 rfl (lv_at hl 0 rfl) ?_
  refine wk_iV (As := [.int 7]) (rest := [.long 981677584094591]) (wc := [(x, .inr (11, [.ref pg, .ref wr, .ref nw, .ref kp, .ref wk, .ref tr, .null, .int 0, .int 0, .int 0])), (pg, .inr (6, [.ref pgc, .int 0])), (nw, .inr (2, [.ref nwf, .ref nws, .ref nwe, .int 0, .int 0, .int 0])), (nwf, .inr (8, [.ref nwfk, .ref nwfv, .ref nwfh, .ref nwft, .int 0])), (nws, .inr (8, [.ref nwsk, .ref nwsv, .ref nwsh, .ref nwst, .int 0])), (nwe, .inr (4, [.ref nwea, .ref nweb, .ref nwec, .int 0]))]) (wr := []) (n := 1) (R := _) ⟨hx, hb, hml, hown, htb⟩ (c_X11_count l D cy x pg wr nw kp wk tr pgc nwf nws nwe nwfk nwfv nwfh nwft nwsk nwsv nwsh nwst nwea nweb nwec 7 ) tw_724 tw_756 tw_722 tw_723 tw_64 rfl rfl (by decide +kernel) ⟨Nat.le_of_ble_eq_true rfl, Nat.le_of_ble_eq_true rfl⟩ hK hP hD hS hA [0, 1, 2, 3, 4, 5] [] rfl rfl rfl rfl (by decide) 0 (ci := 11) rfl rfl rfl hl.1 rfl (Nat.le_of_ble_eq_true rfl) dX11_digest_84 ⟨Nat.le_of_ble_eq_true rfl, Nat.le_of_ble_eq_true rfl⟩ (fun r_34 u_35 H locs hw_36 hP hD hS => ?_)
  refine W.widen (k := 0) (n := 0) (by decide) (by decide) ?_
  have hw_36 : r_34 = if (0 ≤ (7 : Int32).toInt ∧ (7 : Int32).toInt ≤ 12) then 0 else (-102) := hw_36
  subst hw_36
  have hP : va_P D classes [(x, .inr (11, [.ref pg, .ref wr, .ref nw, .ref kp, .ref wk, .ref tr, .null, .int 0, .int 0, .int 0])), (pg, .inr (6, [.ref pgc, .int 0])), (nw, .inr (2, [.ref nwf, .ref nws, .ref nwe, .int 0, .int 0, .int 0])), (nwf, .inr (8, [.ref nwfk, .ref nwfv, .ref nwfh, .ref nwft, .int 0])), (nws, .inr (8, [.ref nwsk, .ref nwsv, .ref nwsh, .ref nwst, .int 0])), (nwe, .inr (4, [.ref nwea, .ref nweb, .ref nwec, .int 0]))] H := hP
  have hD : va_D A [(x, .inr (11, [.ref pg, .ref wr, .ref nw, .ref kp, .ref wk, .ref tr, .null, .int 0, .int 0, .int 0])), (pg, .inr (6, [.ref pgc, .int 0])), (nw, .inr (2, [.ref nwf, .ref nws, .ref nwe, .int 0, .int 0, .int 0])), (nwf, .inr (8, [.ref nwfk, .ref nwfv, .ref nwfh, .ref nwft, .int 0])), (nws, .inr (8, [.ref nwsk, .ref nwsv, .ref nwsh, .ref nwst, .int 0])), (nwe, .inr (4, [.ref nwea, .ref nweb, .ref nwec, .int 0]))] := hD
  refine wk_toi (show ((if (0 ≤ (7 : Int32).toInt ∧ (7 : Int32).toInt ≤ 12) then 0 else (-102)) : Int32) = 0 by decide) ?_
  refine lv_i2l (v := 0) hx hb dX11_digest_87 (by decide) ?_
  refine lv_ladd hx hb dX11_digest_88 ?_
  refine wk_tol (show ((981677584094591 + 0) : Int64) = 981677584094591 by decide) ?_
  refine lv_lstore_n (lv' := [(1, .long 981677584094591), (3, .int 7), (0, .ref x)]) hx hb dX11_digest_89 rfl hl (by decide) rfl (fun ls hl => ?_)
  refine lv_iinc (v := 8) (lv' := [(3, .int 8), (1, .long 981677584094591), (0, .ref x)]) hx hb dX11_digest_90 hl (k := 1) rfl (by decide) (by decide) rfl (fun ls hl => ?_)
  refine lv_goto (tgt := 71) hx hb dX11_digest_93 (by decide) ?_
  refine lv_iload_n hx hb dX11_digest_71 rfl (lv_at hl 0 rfl) ?_
  refine lv_bipush (v := 12) hx hb dX11_digest_72 (by decide) ?_
  refine lv_icmp_gt (tgt := 96) hx hb dX11_digest_74 (by decide) (fun c_37 => absurd c_37 (by decide)) (fun _ => ?_)
  refine lv_ldc2 (v := 31) hx hb hown (htb _ tw_740) dX11_digest_77 ?_
  refine lv_lload_n hx hb dX11_digest_80 rfl (lv_at hl 1 rfl) ?_
  refine lv_lmul hx hb dX11_digest_81 ?_
  refine wk_tol (show ((31 * 981677584094591) : Int64) = 30432005106932321 by decide) ?_
  refine lv_aload_n hx hb dX11_digest_82 rfl (lv_at hl 2 rfl) ?_
  refine lv_iload_n hx hb dX11_digest_83 rfl (lv_at hl 0 rfl) ?_
  refine wk_iV (As := [.int 8]) (rest := [.long 30432005106932321]) (wc := [(x, .inr (11, [.ref pg, .ref wr, .ref nw, .ref kp, .ref wk, .ref tr, .null, .int 0, .int 0, .int 0])), (pg, .inr (6, [.ref pgc, .int 0])), (nw, .inr (2, [.ref nwf, .ref nws, .ref nwe, .int 0, .int 0, .int 0])), (nwf, .inr (8, [.ref nwfk, .ref nwfv, .ref nwfh, .ref nwft, .int 0])), (nws, .inr (8, [.ref nwsk, .ref nwsv, .ref nwsh, .ref nwst, .int 0])), (nwe, .inr (4, [.ref nwea, .ref nweb, .ref nwec, .int 0]))]) (wr := []) (n := 1) (R := _) ⟨hx, hb, hml, hown, htb⟩ (c_X11_count l D cy x pg wr nw kp wk tr pgc nwf nws nwe nwfk nwfv nwfh nwft nwsk nwsv nwsh nwst nwea nweb nwec 8 ) tw_724 tw_756 tw_722 tw_723 tw_64 rfl rfl (by decide +kernel) ⟨Nat.le_of_ble_eq_true rfl, Nat.le_of_ble_eq_true rfl⟩ hK hP hD hS hA [0, 1, 2, 3, 4, 5] [] rfl rfl rfl rfl (by decide) 0 (ci := 11) rfl rfl rfl hl.1 rfl (Nat.le_of_ble_eq_true rfl) dX11_digest_84 ⟨Nat.le_of_ble_eq_true rfl, Nat.le_of_ble_eq_true rfl⟩ (fun r_38 u_39 H locs hw_40 hP hD hS => ?_)
  refine W.widen (k := 0) (n := 0) (by decide) (by decide) ?_
  have hw_40 : r_38 = if (0 ≤ (8 : Int32).toInt ∧ (8 : Int32).toInt ≤ 12) then 0 else (-102) := hw_40
  subst hw_40
  have hP : va_P D classes [(x, .inr (11, [.ref pg, .ref wr, .ref nw, .ref kp, .ref wk, .ref tr, .null, .int 0, .int 0, .int 0])), (pg, .inr (6, [.ref pgc, .int 0])), (nw, .inr (2, [.ref nwf, .ref nws, .ref nwe, .int 0, .int 0, .int 0])), (nwf, .inr (8, [.ref nwfk, .ref nwfv, .ref nwfh, .ref nwft, .int 0])), (nws, .inr (8, [.ref nwsk, .ref nwsv, .ref nwsh, .ref nwst, .int 0])), (nwe, .inr (4, [.ref nwea, .ref nweb, .ref nwec, .int 0]))] H := hP
  have hD : va_D A [(x, .inr (11, [.ref pg, .ref wr, .ref nw, .ref kp, .ref wk, .ref tr, .null, .int 0, .int 0, .int 0])), (pg, .inr (6, [.ref pgc, .int 0])), (nw, .inr (2, [.ref nwf, .ref nws, .ref nwe, .int 0, .int 0, .int 0])), (nwf, .inr (8, [.ref nwfk, .ref nwfv, .ref nwfh, .ref nwft, .int 0])), (nws, .inr (8, [.ref nwsk, .ref nwsv, .ref nwsh, .ref nwst, .int 0])), (nwe, .inr (4, [.ref nwea, .ref nweb, .ref nwec, .int 0]))] := hD
  refine wk_toi (show ((if (0 ≤ (8 : Int32).toInt ∧ (8 : Int32).toInt ≤ 12) then 0 else (-102)) : Int32) = 0 by decide) ?_
  refine lv_i2l (v := 0) hx hb dX11_digest_87 (by decide) ?_
  refine lv_ladd hx hb dX11_digest_88 ?_
  refine wk_tol (show ((30432005106932321 + 0) : Int64) = 30432005106932321 by decide) ?_
  refine lv_lstore_n (lv' := [(1, .long 30432005106932321), (3, .int 8), (0, .ref x)]) hx hb dX11_digest_89 rfl hl (by decide) rfl (fun ls hl => ?_)
  refine lv_iinc (v := 9) (lv' := [(3, .int 9), (1, .long 30432005106932321), (0, .ref x)]) hx hb dX11_digest_90 hl (k := 1) rfl (by decide) (by decide) rfl (fun ls hl => ?_)
  refine lv_goto (tgt := 71) hx hb dX11_digest_93 (by decide) ?_
  refine lv_iload_n hx hb dX11_digest_71 rfl (lv_at hl 0 rfl) ?_
  refine lv_bipush (v := 12) hx hb dX11_digest_72 (by decide) ?_
  refine lv_icmp_gt (tgt := 96) hx hb dX11_digest_74 (by decide) (fun c_41 => absurd c_41 (by decide)) (fun _ => ?_)
  refine lv_ldc2 (v := 31) hx hb hown (htb _ tw_740) dX11_digest_77 ?_
  refine lv_lload_n hx hb dX11_digest_80 rfl (lv_at hl 1 rfl) ?_
  refine lv_lmul hx hb dX11_digest_81 ?_
  refine wk_tol (show ((31 * 30432005106932321) : Int64) = 943392158314901951 by decide) ?_
  refine lv_aload_n hx hb dX11_digest_82 rfl (lv_at hl 2 rfl) ?_
  refine lv_iload_n hx hb dX11_digest_83 rfl (lv_at hl 0 rfl) ?_
  refine wk_iV (As := [.int 9]) (rest := [.long 943392158314901951]) (wc := [(x, .inr (11, [.ref pg, .ref wr, .ref nw, .ref kp, .ref wk, .ref tr, .null, .int 0, .int 0, .int 0])), (pg, .inr (6, [.ref pgc, .int 0])), (nw, .inr (2, [.ref nwf, .ref nws, .ref nwe, .int 0, .int 0, .int 0])), (nwf, .inr (8, [.ref nwfk, .ref nwfv, .ref nwfh, .ref nwft, .int 0])), (nws, .inr (8, [.ref nwsk, .ref nwsv, .ref nwsh, .ref nwst, .int 0])), (nwe, .inr (4, [.ref nwea, .ref nweb, .ref nwec, .int 0]))]) (wr := []) (n := 1) (R := _) ⟨hx, hb, hml, hown, htb⟩ (c_X11_count l D cy x pg wr nw kp wk tr pgc nwf nws nwe nwfk nwfv nwfh nwft nwsk nwsv nwsh nwst nwea nweb nwec 9 ) tw_724 tw_756 tw_722 tw_723 tw_64 rfl rfl (by decide +kernel) ⟨Nat.le_of_ble_eq_true rfl, Nat.le_of_ble_eq_true rfl⟩ hK hP hD hS hA [0, 1, 2, 3, 4, 5] [] rfl rfl rfl rfl (by decide) 0 (ci := 11) rfl rfl rfl hl.1 rfl (Nat.le_of_ble_eq_true rfl) dX11_digest_84 ⟨Nat.le_of_ble_eq_true rfl, Nat.le_of_ble_eq_true rfl⟩ (fun r_42 u_43 H locs hw_44 hP hD hS => ?_)
  refine W.widen (k := 0) (n := 0) (by decide) (by decide) ?_
  have hw_44 : r_42 = if (0 ≤ (9 : Int32).toInt ∧ (9 : Int32).toInt ≤ 12) then 0 else (-102) := hw_44
  subst hw_44
  have hP : va_P D classes [(x, .inr (11, [.ref pg, .ref wr, .ref nw, .ref kp, .ref wk, .ref tr, .null, .int 0, .int 0, .int 0])), (pg, .inr (6, [.ref pgc, .int 0])), (nw, .inr (2, [.ref nwf, .ref nws, .ref nwe, .int 0, .int 0, .int 0])), (nwf, .inr (8, [.ref nwfk, .ref nwfv, .ref nwfh, .ref nwft, .int 0])), (nws, .inr (8, [.ref nwsk, .ref nwsv, .ref nwsh, .ref nwst, .int 0])), (nwe, .inr (4, [.ref nwea, .ref nweb, .ref nwec, .int 0]))] H := hP
  have hD : va_D A [(x, .inr (11, [.ref pg, .ref wr, .ref nw, .ref kp, .ref wk, .ref tr, .null, .int 0, .int 0, .int 0])), (pg, .inr (6, [.ref pgc, .int 0])), (nw, .inr (2, [.ref nwf, .ref nws, .ref nwe, .int 0, .int 0, .int 0])), (nwf, .inr (8, [.ref nwfk, .ref nwfv, .ref nwfh, .ref nwft, .int 0])), (nws, .inr (8, [.ref nwsk, .ref nwsv, .ref nwsh, .ref nwst, .int 0])), (nwe, .inr (4, [.ref nwea, .ref nweb, .ref nwec, .int 0]))] := hD
  refine wk_toi (show ((if (0 ≤ (9 : Int32).toInt ∧ (9 : Int32).toInt ≤ 12) then 0 else (-102)) : Int32) = 0 by decide) ?_
  refine lv_i2l (v := 0) hx hb dX11_digest_87 (by decide) ?_
  refine lv_ladd hx hb dX11_digest_88 ?_
  refine wk_tol (show ((943392158314901951 + 0) : Int64) = 943392158314901951 by decide) ?_
  refine lv_lstore_n (lv' := [(1, .long 943392158314901951), (3, .int 9), (0, .ref x)]) hx hb dX11_digest_89 rfl hl (by decide) rfl (fun ls hl => ?_)
  refine lv_iinc (v := 10) (lv' := [(3, .int 10), (1, .long 943392158314901951), (0, .ref x)]) hx hb dX11_digest_90 hl (k := 1) rfl (by decide) (by decide) rfl (fun ls hl => ?_)
  refine lv_goto (tgt := 71) hx hb dX11_digest_93 (by decide) ?_
  refine lv_iload_n hx hb dX11_digest_71 rfl (lv_at hl 0 rfl) ?_
  refine lv_bipush (v := 12) hx hb dX11_digest_72 (by decide) ?_
  refine lv_icmp_gt (tgt := 96) hx hb dX11_digest_74 (by decide) (fun c_45 => absurd c_45 (by decide)) (fun _ => ?_)
  refine lv_ldc2 (v := 31) hx hb hown (htb _ tw_740) dX11_digest_77 ?_
  refine lv_lload_n hx hb dX11_digest_80 rfl (lv_at hl 1 rfl) ?_
  refine lv_lmul hx hb dX11_digest_81 ?_
  refine wk_tol (show ((31 * 943392158314901951) : Int64) = (-7648331239657142751) by decide) ?_
  refine lv_aload_n hx hb dX11_digest_82 rfl (lv_at hl 2 rfl) ?_
  refine lv_iload_n hx hb dX11_digest_83 rfl (lv_at hl 0 rfl) ?_
  refine wk_iV (As := [.int 10]) (rest := [.long (-7648331239657142751)]) (wc := [(x, .inr (11, [.ref pg, .ref wr, .ref nw, .ref kp, .ref wk, .ref tr, .null, .int 0, .int 0, .int 0])), (pg, .inr (6, [.ref pgc, .int 0])), (nw, .inr (2, [.ref nwf, .ref nws, .ref nwe, .int 0, .int 0, .int 0])), (nwf, .inr (8, [.ref nwfk, .ref nwfv, .ref nwfh, .ref nwft, .int 0])), (nws, .inr (8, [.ref nwsk, .ref nwsv, .ref nwsh, .ref nwst, .int 0])), (nwe, .inr (4, [.ref nwea, .ref nweb, .ref nwec, .int 0]))]) (wr := []) (n := 1) (R := _) ⟨hx, hb, hml, hown, htb⟩ (c_X11_count l D cy x pg wr nw kp wk tr pgc nwf nws nwe nwfk nwfv nwfh nwft nwsk nwsv nwsh nwst nwea nweb nwec 10 ) tw_724 tw_756 tw_722 tw_723 tw_64 rfl rfl (by decide +kernel) ⟨Nat.le_of_ble_eq_true rfl, Nat.le_of_ble_eq_true rfl⟩ hK hP hD hS hA [0, 1, 2, 3, 4, 5] [] rfl rfl rfl rfl (by decide) 0 (ci := 11) rfl rfl rfl hl.1 rfl (Nat.le_of_ble_eq_true rfl) dX11_digest_84 ⟨Nat.le_of_ble_eq_true rfl, Nat.le_of_ble_eq_true rfl⟩ (fun r_46 u_47 H locs hw_48 hP hD hS => ?_)
  refine W.widen (k := 0) (n := 0) (by decide) (by decide) ?_
  have hw_48 : r_46 = if (0 ≤ (10 : Int32).toInt ∧ (10 : Int32).toInt ≤ 12) then 0 else (-102) := hw_48
  subst hw_48
  have hP : va_P D classes [(x, .inr (11, [.ref pg, .ref wr, .ref nw, .ref kp, .ref wk, .ref tr, .null, .int 0, .int 0, .int 0])), (pg, .inr (6, [.ref pgc, .int 0])), (nw, .inr (2, [.ref nwf, .ref nws, .ref nwe, .int 0, .int 0, .int 0])), (nwf, .inr (8, [.ref nwfk, .ref nwfv, .ref nwfh, .ref nwft, .int 0])), (nws, .inr (8, [.ref nwsk, .ref nwsv, .ref nwsh, .ref nwst, .int 0])), (nwe, .inr (4, [.ref nwea, .ref nweb, .ref nwec, .int 0]))] H := hP
  have hD : va_D A [(x, .inr (11, [.ref pg, .ref wr, .ref nw, .ref kp, .ref wk, .ref tr, .null, .int 0, .int 0, .int 0])), (pg, .inr (6, [.ref pgc, .int 0])), (nw, .inr (2, [.ref nwf, .ref nws, .ref nwe, .int 0, .int 0, .int 0])), (nwf, .inr (8, [.ref nwfk, .ref nwfv, .ref nwfh, .ref nwft, .int 0])), (nws, .inr (8, [.ref nwsk, .ref nwsv, .ref nwsh, .ref nwst, .int 0])), (nwe, .inr (4, [.ref nwea, .ref nweb, .ref nwec, .int 0]))] := hD
  refine wk_toi (show ((if (0 ≤ (10 : Int32).toInt ∧ (10 : Int32).toInt ≤ 12) then 0 else (-102)) : Int32) = 0 by decide) ?_
  refine lv_i2l (v := 0) hx hb dX11_digest_87 (by decide) ?_
  refine lv_ladd hx hb dX11_digest_88 ?_
  refine wk_tol (show (((-7648331239657142751) + 0) : Int64) = (-7648331239657142751) by decide) ?_
  refine lv_lstore_n (lv' := [(1, .long (-7648331239657142751)), (3, .int 10), (0, .ref x)]) hx hb dX11_digest_89 rfl hl (by decide) rfl (fun ls hl => ?_)
  refine lv_iinc (v := 11) (lv' := [(3, .int 11), (1, .long (-7648331239657142751)), (0, .ref x)]) hx hb dX11_digest_90 hl (k := 1) rfl (by decide) (by decide) rfl (fun ls hl => ?_)
  refine lv_goto (tgt := 71) hx hb dX11_digest_93 (by decide) ?_
  refine lv_iload_n hx hb dX11_digest_71 rfl (lv_at hl 0 rfl) ?_
  refine lv_bipush (v := 12) hx hb dX11_digest_72 (by decide) ?_
  refine lv_icmp_gt (tgt := 96) hx hb dX11_digest_74 (by decide) (fun c_49 => absurd c_49 (by decide)) (fun _ => ?_)
  refine lv_ldc2 (v := 31) hx hb hown (htb _ tw_740) dX11_digest_77 ?_
  refine lv_lload_n hx hb dX11_digest_80 rfl (lv_at hl 1 rfl) ?_
  refine lv_lmul hx hb dX11_digest_81 ?_
  refine wk_tol (show ((31 * (-7648331239657142751)) : Int64) = 2709404528852745727 by decide) ?_
  refine lv_aload_n hx hb dX11_digest_82 rfl (lv_at hl 2 rfl) ?_
  refine lv_iload_n hx hb dX11_digest_83 rfl (lv_at hl 0 rfl) ?_
  refine wk_iV (As := [.int 11]) (rest := [.long 2709404528852745727]) (wc := [(x, .inr (11, [.ref pg, .ref wr, .ref nw, .ref kp, .ref wk, .ref tr, .null, .int 0, .int 0, .int 0])), (pg, .inr (6, [.ref pgc, .int 0])), (nw, .inr (2, [.ref nwf, .ref nws, .ref nwe, .int 0, .int 0, .int 0])), (nwf, .inr (8, [.ref nwfk, .ref nwfv, .ref nwfh, .ref nwft, .int 0])), (nws, .inr (8, [.ref nwsk, .ref nwsv, .ref nwsh, .ref nwst, .int 0])), (nwe, .inr (4, [.ref nwea, .ref nweb, .ref nwec, .int 0]))]) (wr := []) (n := 1) (R := _) ⟨hx, hb, hml, hown, htb⟩ (c_X11_count l D cy x pg wr nw kp wk tr pgc nwf nws nwe nwfk nwfv nwfh nwft nwsk nwsv nwsh nwst nwea nweb nwec 11 ) tw_724 tw_756 tw_722 tw_723 tw_64 rfl rfl (by decide +kernel) ⟨Nat.le_of_ble_eq_true rfl, Nat.le_of_ble_eq_true rfl⟩ hK hP hD hS hA [0, 1, 2, 3, 4, 5] [] rfl rfl rfl rfl (by decide) 0 (ci := 11) rfl rfl rfl hl.1 rfl (Nat.le_of_ble_eq_true rfl) dX11_digest_84 ⟨Nat.le_of_ble_eq_true rfl, Nat.le_of_ble_eq_true rfl⟩ (fun r_50 u_51 H locs hw_52 hP hD hS => ?_)
  refine W.widen (k := 0) (n := 0) (by decide) (by decide) ?_
  have hw_52 : r_50 = if (0 ≤ (11 : Int32).toInt ∧ (11 : Int32).toInt ≤ 12) then 0 else (-102) := hw_52
  subst hw_52
  have hP : va_P D classes [(x, .inr (11, [.ref pg, .ref wr, .ref nw, .ref kp, .ref wk, .ref tr, .null, .int 0, .int 0, .int 0])), (pg, .inr (6, [.ref pgc, .int 0])), (nw, .inr (2, [.ref nwf, .ref nws, .ref nwe, .int 0, .int 0, .int 0])), (nwf, .inr (8, [.ref nwfk, .ref nwfv, .ref nwfh, .ref nwft, .int 0])), (nws, .inr (8, [.ref nwsk, .ref nwsv, .ref nwsh, .ref nwst, .int 0])), (nwe, .inr (4, [.ref nwea, .ref nweb, .ref nwec, .int 0]))] H := hP
  have hD : va_D A [(x, .inr (11, [.ref pg, .ref wr, .ref nw, .ref kp, .ref wk, .ref tr, .null, .int 0, .int 0, .int 0])), (pg, .inr (6, [.ref pgc, .int 0])), (nw, .inr (2, [.ref nwf, .ref nws, .ref nwe, .int 0, .int 0, .int 0])), (nwf, .inr (8, [.ref nwfk, .ref nwfv, .ref nwfh, .ref nwft, .int 0])), (nws, .inr (8, [.ref nwsk, .ref nwsv, .ref nwsh, .ref nwst, .int 0])), (nwe, .inr (4, [.ref nwea, .ref nweb, .ref nwec, .int 0]))] := hD
  refine wk_toi (show ((if (0 ≤ (11 : Int32).toInt ∧ (11 : Int32).toInt ≤ 12) then 0 else (-102)) : Int32) = 0 by decide) ?_
  refine lv_i2l (v := 0) hx hb dX11_digest_87 (by decide) ?_
  refine lv_ladd hx hb dX11_digest_88 ?_
  refine wk_tol (show ((2709404528852745727 + 0) : Int64) = 2709404528852745727 by decide) ?_
  refine lv_lstore_n (lv' := [(1, .long 2709404528852745727), (3, .int 11), (0, .ref x)]) hx hb dX11_digest_89 rfl hl (by decide) rfl (fun ls hl => ?_)
  refine lv_iinc (v := 12) (lv' := [(3, .int 12), (1, .long 2709404528852745727), (0, .ref x)]) hx hb dX11_digest_90 hl (k := 1) rfl (by decide) (by decide) rfl (fun ls hl => ?_)
  refine lv_goto (tgt := 71) hx hb dX11_digest_93 (by decide) ?_
  refine lv_iload_n hx hb dX11_digest_71 rfl (lv_at hl 0 rfl) ?_
  refine lv_bipush (v := 12) hx hb dX11_digest_72 (by decide) ?_
  refine lv_icmp_gt (tgt := 96) hx hb dX11_digest_74 (by decide) (fun c_53 => absurd c_53 (by decide)) (fun _ => ?_)
  refine lv_ldc2 (v := 31) hx hb hown (htb _ tw_740) dX11_digest_77 ?_
  refine lv_lload_n hx hb dX11_digest_80 rfl (lv_at hl 1 rfl) ?_
  refine lv_lmul hx hb dX11_digest_81 ?_
  refine wk_tol (show ((31 * 2709404528852745727) : Int64) = (-8242179974112640543) by decide) ?_
  refine lv_aload_n hx hb dX11_digest_82 rfl (lv_at hl 2 rfl) ?_
  refine lv_iload_n hx hb dX11_digest_83 rfl (lv_at hl 0 rfl) ?_
  refine wk_iV (As := [.int 12]) (rest := [.long (-8242179974112640543)]) (wc := [(x, .inr (11, [.ref pg, .ref wr, .ref nw, .ref kp, .ref wk, .ref tr, .null, .int 0, .int 0, .int 0])), (pg, .inr (6, [.ref pgc, .int 0])), (nw, .inr (2, [.ref nwf, .ref nws, .ref nwe, .int 0, .int 0, .int 0])), (nwf, .inr (8, [.ref nwfk, .ref nwfv, .ref nwfh, .ref nwft, .int 0])), (nws, .inr (8, [.ref nwsk, .ref nwsv, .ref nwsh, .ref nwst, .int 0])), (nwe, .inr (4, [.ref nwea, .ref nweb, .ref nwec, .int 0]))]) (wr := []) (n := 1) (R := _) ⟨hx, hb, hml, hown, htb⟩ (c_X11_count l D cy x pg wr nw kp wk tr pgc nwf nws nwe nwfk nwfv nwfh nwft nwsk nwsv nwsh nwst nwea nweb nwec 12 ) tw_724 tw_756 tw_722 tw_723 tw_64 rfl rfl (by decide +kernel) ⟨Nat.le_of_ble_eq_true rfl, Nat.le_of_ble_eq_true rfl⟩ hK hP hD hS hA [0, 1, 2, 3, 4, 5] [] rfl rfl rfl rfl (by decide) 0 (ci := 11) rfl rfl rfl hl.1 rfl (Nat.le_of_ble_eq_true rfl) dX11_digest_84 ⟨Nat.le_of_ble_eq_true rfl, Nat.le_of_ble_eq_true rfl⟩ (fun r_54 u_55 H locs hw_56 hP hD hS => ?_)
  refine W.widen (k := 0) (n := 0) (by decide) (by decide) ?_
  have hw_56 : r_54 = if (0 ≤ (12 : Int32).toInt ∧ (12 : Int32).toInt ≤ 12) then 0 else (-102) := hw_56
  subst hw_56
  have hP : va_P D classes [(x, .inr (11, [.ref pg, .ref wr, .ref nw, .ref kp, .ref wk, .ref tr, .null, .int 0, .int 0, .int 0])), (pg, .inr (6, [.ref pgc, .int 0])), (nw, .inr (2, [.ref nwf, .ref nws, .ref nwe, .int 0, .int 0, .int 0])), (nwf, .inr (8, [.ref nwfk, .ref nwfv, .ref nwfh, .ref nwft, .int 0])), (nws, .inr (8, [.ref nwsk, .ref nwsv, .ref nwsh, .ref nwst, .int 0])), (nwe, .inr (4, [.ref nwea, .ref nweb, .ref nwec, .int 0]))] H := hP
  have hD : va_D A [(x, .inr (11, [.ref pg, .ref wr, .ref nw, .ref kp, .ref wk, .ref tr, .null, .int 0, .int 0, .int 0])), (pg, .inr (6, [.ref pgc, .int 0])), (nw, .inr (2, [.ref nwf, .ref nws, .ref nwe, .int 0, .int 0, .int 0])), (nwf, .inr (8, [.ref nwfk, .ref nwfv, .ref nwfh, .ref nwft, .int 0])), (nws, .inr (8, [.ref nwsk, .ref nwsv, .ref nwsh, .ref nwst, .int 0])), (nwe, .inr (4, [.ref nwea, .ref nweb, .ref nwec, .int 0]))] := hD
  refine wk_toi (show ((if (0 ≤ (12 : Int32).toInt ∧ (12 : Int32).toInt ≤ 12) then 0 else (-102)) : Int32) = 0 by decide) ?_
  refine lv_i2l (v := 0) hx hb dX11_digest_87 (by decide) ?_
  refine lv_ladd hx hb dX11_digest_88 ?_
  refine wk_tol (show (((-8242179974112640543) + 0) : Int64) = (-8242179974112640543) by decide) ?_
  refine lv_lstore_n (lv' := [(1, .long (-8242179974112640543)), (3, .int 12), (0, .ref x)]) hx hb dX11_digest_89 rfl hl (by decide) rfl (fun ls hl => ?_)
  refine lv_iinc (v := 13) (lv' := [(3, .int 13), (1, .long (-8242179974112640543)), (0, .ref x)]) hx hb dX11_digest_90 hl (k := 1) rfl (by decide) (by decide) rfl (fun ls hl => ?_)
  refine lv_goto (tgt := 71) hx hb dX11_digest_93 (by decide) ?_
  refine lv_iload_n hx hb dX11_digest_71 rfl (lv_at hl 0 rfl) ?_
  refine lv_bipush (v := 12) hx hb dX11_digest_72 (by decide) ?_
  refine lv_icmp_gt (tgt := 96) hx hb dX11_digest_74 (by decide) (fun _ => ?_) (fun c_57 => absurd (by decide) c_57)
  refine lv_lload_n hx hb dX11_digest_96 rfl (lv_at hl 1 rfl) ?_
  refine W.widen (k := 0) (n := 0) (by decide) (by decide) ?_
  exact wk_lret () hx hb hr hlocks rfl hK hP hD hS [0, 1, 2, 3, 4, 5] rfl rfl dX11_digest_97
end
section
theorem dX12_in_0 : decode cX12_in 0 = .ok (.lload_n 0, 1) := by decide +kernel
theorem dX12_in_1 : decode cX12_in 1 = .ok (.lload_n 2, 1) := by decide +kernel
theorem dX12_in_2 : decode cX12_in 2 = .ok (.lcmp, 1) := by decide +kernel
theorem dX12_in_3 : decode cX12_in 3 = .ok (.ifCond .lt 14, 3) := by decide +kernel
theorem dX12_in_6 : decode cX12_in 6 = .ok (.lload_n 0, 1) := by decide +kernel
theorem dX12_in_7 : decode cX12_in 7 = .ok (.lload 4, 2) := by decide +kernel
theorem dX12_in_9 : decode cX12_in 9 = .ok (.lcmp, 1) := by decide +kernel
theorem dX12_in_10 : decode cX12_in 10 = .ok (.ifCond .gt 7, 3) := by decide +kernel
theorem dX12_in_13 : decode cX12_in 13 = .ok (.iconst 1, 1) := by decide +kernel
theorem dX12_in_14 : decode cX12_in 14 = .ok (.goto 4, 3) := by decide +kernel
theorem dX12_in_17 : decode cX12_in 17 = .ok (.iconst 0, 1) := by decide +kernel
theorem dX12_in_18 : decode cX12_in 18 = .ok (.ireturn, 1) := by decide +kernel
set_option maxHeartbeats 4000000 in
set_option maxRecDepth 100000 in
theorem c_X12_in (l : Launch) (D : va_G) (cy : ClassId) (v lo hi : Int64) : wk_Ci l yX12_in cX12_in 6 (some .boolean) { frames := 0, cells := 0, slots := 0, locals := 0 } D cy [.long v, .long lo, .long hi] [] 0 0 (fun (r : Int32) (u : Unit) => r = wk_in v lo hi) (fun u => []) := by
  refine wk_mkCi (by decide) (Nat.le_of_ble_eq_true rfl) ?_
  intro p e s m below meth c A ls B hA hK hP hD hS hl
  obtain ⟨hx, hb, hr, hlocks, hml, hown, htb, hin⟩ := B
  have hl : lv_has ls 6 [(0, .long v), (2, .long lo), (4, .long hi)] := hl
  refine lv_lload_n hx hb dX12_in_0 rfl (lv_at hl 0 rfl) ?_
  refine lv_lload_n hx hb dX12_in_1 rfl (lv_at hl 1 rfl) ?_
  refine W.lcmp hx hb dX12_in_2 ?_
  refine lv_if_lt (tgt := 17) hx hb dX12_in_3 (by decide) (fun c_1 => ?_) (fun c_1 => ?_)
  · have k_1 : v.toInt < lo.toInt := Int64.lt_iff_toInt_lt.mp ((lg_cmp_lt v lo).mp c_1)
    refine lv_iconst (v := 0) hx hb dX12_in_17 (by decide) ?_
    refine W.widen (k := 0) (n := 0) (by decide) (by decide) ?_
    exact wk_zret () hx hb hr hlocks rfl (if_neg (by omega)).symm hK hP hD hS [] rfl rfl dX12_in_18
  · have k_1 : ¬ v.toInt < lo.toInt := fun h9 => c_1 ((lg_cmp_lt v lo).mpr (Int64.lt_iff_toInt_lt.mpr h9))
    refine lv_lload_n hx hb dX12_in_6 rfl (lv_at hl 0 rfl) ?_
    refine lv_lload hx hb dX12_in_7 (lv_at hl 2 rfl) ?_
    refine W.lcmp hx hb dX12_in_9 ?_
    refine lv_if_gt (tgt := 17) hx hb dX12_in_10 (by decide) (fun c_2 => ?_) (fun c_2 => ?_)
    · have k_2 : hi.toInt < v.toInt := Int64.lt_iff_toInt_lt.mp ((lg_cmp_gt v hi).mp c_2)
      refine lv_iconst (v := 0) hx hb dX12_in_17 (by decide) ?_
      refine W.widen (k := 0) (n := 0) (by decide) (by decide) ?_
      exact wk_zret () hx hb hr hlocks rfl (if_neg (by omega)).symm hK hP hD hS [] rfl rfl dX12_in_18
    · have k_2 : ¬ hi.toInt < v.toInt := fun h9 => c_2 ((lg_cmp_gt v hi).mpr (Int64.lt_iff_toInt_lt.mpr h9))
      refine lv_iconst (v := 1) hx hb dX12_in_13 (by decide) ?_
      refine lv_goto (tgt := 18) hx hb dX12_in_14 (by decide) ?_
      refine W.widen (k := 0) (n := 0) (by decide) (by decide) ?_
      exact wk_zret () hx hb hr hlocks rfl (if_pos (by omega)).symm hK hP hD hS [] rfl rfl dX12_in_18
theorem dX12_wide_0 : decode cX12_wide 0 = .ok (.aload_n 0, 1) := by decide +kernel
theorem dX12_wide_1 : decode cX12_wide 1 = .ok (.getfield 7, 3) := by decide +kernel
theorem dX12_wide_4 : decode cX12_wide 4 = .ok (.iconst 0, 1) := by decide +kernel
theorem dX12_wide_5 : decode cX12_wide 5 = .ok (.iaload, 1) := by decide +kernel
theorem dX12_wide_6 : decode cX12_wide 6 = .ok (.bipush 116, 2) := by decide +kernel
theorem dX12_wide_8 : decode cX12_wide 8 = .ok (.if_icmp .ne 7, 3) := by decide +kernel
theorem dX12_wide_15 : decode cX12_wide 15 = .ok (.iconst 4, 1) := by decide +kernel
theorem dX12_wide_16 : decode cX12_wide 16 = .ok (.ireturn, 1) := by decide +kernel
set_option maxHeartbeats 4000000 in
set_option maxRecDepth 100000 in
theorem c_X12_wide (l : Launch) (D : va_G) (cy : ClassId) (mo mpage mkeys mvalues mheights mheats msecondKeys msecondValues msecondHeights msecondHeats msaved mbestHeights msights mby mkeptKeys mkeptValues mkeptHeights mkeptHeats mkeptKeys2 mkeptValues2 mkeptHeights2 mkeptHeats2 mkeptSights : Nat) (hh : Int64) : wk_Ci l yX12_wide cX12_wide 1 (some .int) { frames := 0, cells := 0, slots := 0, locals := 0 } D cy [.ref mo] [(mo, .inr (12, [.ref mpage, .int 0, .int 0, .int 0, .int 0, .int 0, .int 0, .int 0, .ref mkeys, .ref mvalues, .ref mheights, .ref mheats, .int 0, .ref msecondKeys, .ref msecondValues, .ref msecondHeights, .ref msecondHeats, .int 0, .int 0, .int 0, .int 0, .ref msaved, .ref mbestHeights, .int 0, .ref msights, .ref mby, .int 0, .int (-1), .int 0, .int 0, .int 0, .int 0, .int 0, .int 0, .ref mkeptKeys, .ref mkeptValues, .ref mkeptHeights, .ref mkeptHeats, .ref mkeptKeys2, .ref mkeptValues2, .ref mkeptHeights2, .ref mkeptHeats2, .ref mkeptSights, .long hh])), (mpage, .inl (cy, 44, .inl (fun _ => 0)))] 0 0 (fun (r : Int32) (u : Unit) => r = 4) (fun u => [(mo, .inr (12, [.ref mpage, .int 0, .int 0, .int 0, .int 0, .int 0, .int 0, .int 0, .ref mkeys, .ref mvalues, .ref mheights, .ref mheats, .int 0, .ref msecondKeys, .ref msecondValues, .ref msecondHeights, .ref msecondHeats, .int 0, .int 0, .int 0, .int 0, .ref msaved, .ref mbestHeights, .int 0, .ref msights, .ref mby, .int 0, .int (-1), .int 0, .int 0, .int 0, .int 0, .int 0, .int 0, .ref mkeptKeys, .ref mkeptValues, .ref mkeptHeights, .ref mkeptHeats, .ref mkeptKeys2, .ref mkeptValues2, .ref mkeptHeights2, .ref mkeptHeats2, .ref mkeptSights, .long hh])), (mpage, .inl (cy, 44, .inl (fun _ => 0)))]) := by
  refine wk_mkCi (by decide) (Nat.le_of_ble_eq_true rfl) ?_
  intro p e s m below meth c A ls B hA hK hP hD hS hl
  obtain ⟨hx, hb, hr, hlocks, hml, hown, htb, hin⟩ := B
  have hl : lv_has ls 1 [(0, .ref mo)] := hl
  refine lv_aload_n hx hb dX12_wide_0 rfl (lv_at hl 0 rfl) ?_
  refine va_get (D := D) (ci := 12) (v := .ref mpage) (C := RX12) (T := TX12) (N := 44) hx hb htb inX12 hown hK hP 0 rfl rfl 0 (by decide) (htb _ tw_763) (fun _ h9 => h9) rfl dX12_wide_1 ?_
  refine lv_iconst (v := 0) hx hb dX12_wide_4 (by decide) ?_
  refine va_iald hx hb hK hP 1 0 rfl rfl (show vp_in 0 44 by unfold vp_in; decide) dX12_wide_5 ?_
  refine wk_toi (y := 0) rfl ?_
  refine lv_bipush (v := 116) hx hb dX12_wide_6 (by decide) ?_
  refine lv_icmp_ne (tgt := 15) hx hb dX12_wide_8 (by decide) (fun _ => ?_) (fun c_1 => absurd c_1 (by decide))
  refine lv_iconst (v := 4) hx hb dX12_wide_15 (by decide) ?_
  refine W.widen (k := 0) (n := 0) (by decide) (by decide) ?_
  exact wk_iret () hx hb hr hlocks rfl hK hP hD hS [0, 1] rfl rfl dX12_wide_16
theorem dX12_lacks_0 : decode cX12_lacks 0 = .ok (.aload_n 0, 1) := by decide +kernel
theorem dX12_lacks_1 : decode cX12_lacks 1 = .ok (.getfield 121, 3) := by decide +kernel
theorem dX12_lacks_4 : decode cX12_lacks 4 = .ok (.ifCond .ne 7, 3) := by decide +kernel
theorem dX12_lacks_7 : decode cX12_lacks 7 = .ok (.iconst 1, 1) := by decide +kernel
theorem dX12_lacks_8 : decode cX12_lacks 8 = .ok (.goto 4, 3) := by decide +kernel
theorem dX12_lacks_12 : decode cX12_lacks 12 = .ok (.ireturn, 1) := by decide +kernel
set_option maxHeartbeats 4000000 in
set_option maxRecDepth 100000 in
theorem c_X12_lacks (l : Launch) (D : va_G) (cy : ClassId) (mo mpage mkeys mvalues mheights mheats msecondKeys msecondValues msecondHeights msecondHeats msaved mbestHeights msights mby mkeptKeys mkeptValues mkeptHeights mkeptHeats mkeptKeys2 mkeptValues2 mkeptHeights2 mkeptHeats2 mkeptSights : Nat) (hh : Int64) : wk_Ci l yX12_lacks cX12_lacks 1 (some .boolean) { frames := 0, cells := 0, slots := 0, locals := 0 } D cy [.ref mo] [(mo, .inr (12, [.ref mpage, .int 0, .int 0, .int 0, .int 0, .int 0, .int 0, .int 0, .ref mkeys, .ref mvalues, .ref mheights, .ref mheats, .int 0, .ref msecondKeys, .ref msecondValues, .ref msecondHeights, .ref msecondHeats, .int 0, .int 0, .int 0, .int 0, .ref msaved, .ref mbestHeights, .int 0, .ref msights, .ref mby, .int 0, .int (-1), .int 0, .int 0, .int 0, .int 0, .int 0, .int 0, .ref mkeptKeys, .ref mkeptValues, .ref mkeptHeights, .ref mkeptHeats, .ref mkeptKeys2, .ref mkeptValues2, .ref mkeptHeights2, .ref mkeptHeats2, .ref mkeptSights, .long hh]))] 0 0 (fun (r : Int32) (u : Unit) => r = 1) (fun u => [(mo, .inr (12, [.ref mpage, .int 0, .int 0, .int 0, .int 0, .int 0, .int 0, .int 0, .ref mkeys, .ref mvalues, .ref mheights, .ref mheats, .int 0, .ref msecondKeys, .ref msecondValues, .ref msecondHeights, .ref msecondHeats, .int 0, .int 0, .int 0, .int 0, .ref msaved, .ref mbestHeights, .int 0, .ref msights, .ref mby, .int 0, .int (-1), .int 0, .int 0, .int 0, .int 0, .int 0, .int 0, .ref mkeptKeys, .ref mkeptValues, .ref mkeptHeights, .ref mkeptHeats, .ref mkeptKeys2, .ref mkeptValues2, .ref mkeptHeights2, .ref mkeptHeats2, .ref mkeptSights, .long hh]))]) := by
  refine wk_mkCi (by decide) (Nat.le_of_ble_eq_true rfl) ?_
  intro p e s m below meth c A ls B hA hK hP hD hS hl
  obtain ⟨hx, hb, hr, hlocks, hml, hown, htb, hin⟩ := B
  have hl : lv_has ls 1 [(0, .ref mo)] := hl
  refine lv_aload_n hx hb dX12_lacks_0 rfl (lv_at hl 0 rfl) ?_
  refine va_get (D := D) (ci := 12) (v := .int 0) (C := RX12) (T := TX12) (N := 44) hx hb htb inX12 hown hK hP 0 rfl rfl 3 (by decide) (htb _ tw_766) (fun _ h9 => h9) rfl dX12_lacks_1 ?_
  refine lv_if_ne (tgt := 11) hx hb dX12_lacks_4 (by decide) (fun c_1 => absurd (by decide) c_1) (fun _ => ?_)
  refine lv_iconst (v := 1) hx hb dX12_lacks_7 (by decide) ?_
  refine lv_goto (tgt := 12) hx hb dX12_lacks_8 (by decide) ?_
  refine W.widen (k := 0) (n := 0) (by decide) (by decide) ?_
  exact wk_zret () hx hb hr hlocks rfl rfl hK hP hD hS [0] rfl rfl dX12_lacks_12
theorem dX12_lanes_0 : decode cX12_lanes 0 = .ok (.iconst 0, 1) := by decide +kernel
theorem dX12_lanes_1 : decode cX12_lanes 1 = .ok (.istore_n 1, 1) := by decide +kernel
theorem dX12_lanes_2 : decode cX12_lanes 2 = .ok (.iconst 0, 1) := by decide +kernel
theorem dX12_lanes_3 : decode cX12_lanes 3 = .ok (.istore_n 2, 1) := by decide +kernel
theorem dX12_lanes_4 : decode cX12_lanes 4 = .ok (.iload_n 2, 1) := by decide +kernel
theorem dX12_lanes_5 : decode cX12_lanes 5 = .ok (.aload_n 0, 1) := by decide +kernel
theorem dX12_lanes_6 : decode cX12_lanes 6 = .ok (.getfield 121, 3) := by decide +kernel
theorem dX12_lanes_9 : decode cX12_lanes 9 = .ok (.if_icmp .ge 30, 3) := by decide +kernel
theorem dX12_lanes_39 : decode cX12_lanes 39 = .ok (.iload_n 1, 1) := by decide +kernel
theorem dX12_lanes_40 : decode cX12_lanes 40 = .ok (.ireturn, 1) := by decide +kernel
set_option maxHeartbeats 4000000 in
set_option maxRecDepth 100000 in
theorem c_X12_lanes (l : Launch) (D : va_G) (cy : ClassId) (mo mpage mkeys mvalues mheights mheats msecondKeys msecondValues msecondHeights msecondHeats msaved mbestHeights msights mby mkeptKeys mkeptValues mkeptHeights mkeptHeats mkeptKeys2 mkeptValues2 mkeptHeights2 mkeptHeats2 mkeptSights : Nat) (hh : Int64) : wk_Ci l yX12_lanes cX12_lanes 3 (some .int) { frames := 0, cells := 0, slots := 0, locals := 0 } D cy [.ref mo] [(mo, .inr (12, [.ref mpage, .int 0, .int 0, .int 0, .int 0, .int 0, .int 0, .int 0, .ref mkeys, .ref mvalues, .ref mheights, .ref mheats, .int 0, .ref msecondKeys, .ref msecondValues, .ref msecondHeights, .ref msecondHeats, .int 0, .int 0, .int 0, .int 0, .ref msaved, .ref mbestHeights, .int 0, .ref msights, .ref mby, .int 0, .int (-1), .int 0, .int 0, .int 0, .int 0, .int 0, .int 0, .ref mkeptKeys, .ref mkeptValues, .ref mkeptHeights, .ref mkeptHeats, .ref mkeptKeys2, .ref mkeptValues2, .ref mkeptHeights2, .ref mkeptHeats2, .ref mkeptSights, .long hh]))] 0 0 (fun (r : Int32) (u : Unit) => r = 0) (fun u => [(mo, .inr (12, [.ref mpage, .int 0, .int 0, .int 0, .int 0, .int 0, .int 0, .int 0, .ref mkeys, .ref mvalues, .ref mheights, .ref mheats, .int 0, .ref msecondKeys, .ref msecondValues, .ref msecondHeights, .ref msecondHeats, .int 0, .int 0, .int 0, .int 0, .ref msaved, .ref mbestHeights, .int 0, .ref msights, .ref mby, .int 0, .int (-1), .int 0, .int 0, .int 0, .int 0, .int 0, .int 0, .ref mkeptKeys, .ref mkeptValues, .ref mkeptHeights, .ref mkeptHeats, .ref mkeptKeys2, .ref mkeptValues2, .ref mkeptHeights2, .ref mkeptHeats2, .ref mkeptSights, .long hh]))]) := by
  refine wk_mkCi (by decide) (Nat.le_of_ble_eq_true rfl) ?_
  intro p e s m below meth c A ls B hA hK hP hD hS hl
  obtain ⟨hx, hb, hr, hlocks, hml, hown, htb, hin⟩ := B
  have hl : lv_has ls 3 [(0, .ref mo)] := hl
  refine lv_iconst (v := 0) hx hb dX12_lanes_0 (by decide) ?_
  refine lv_istore_n (lv' := [(1, .int 0), (0, .ref mo)]) hx hb dX12_lanes_1 rfl hl (by decide) rfl (fun ls hl => ?_)
  refine lv_iconst (v := 0) hx hb dX12_lanes_2 (by decide) ?_
  refine lv_istore_n (lv' := [(2, .int 0), (1, .int 0), (0, .ref mo)]) hx hb dX12_lanes_3 rfl hl (by decide) rfl (fun ls hl => ?_)
  refine lv_iload_n hx hb dX12_lanes_4 rfl (lv_at hl 0 rfl) ?_
  refine lv_aload_n hx hb dX12_lanes_5 rfl (lv_at hl 2 rfl) ?_
  refine va_get (D := D) (ci := 12) (v := .int 0) (C := RX12) (T := TX12) (N := 44) hx hb htb inX12 hown hK hP 0 rfl rfl 3 (by decide) (htb _ tw_766) (fun _ h9 => h9) rfl dX12_lanes_6 ?_
  refine lv_icmp_ge (tgt := 39) hx hb dX12_lanes_9 (by decide) (fun _ => ?_) (fun c_1 => absurd (by decide) c_1)
  refine lv_iload_n hx hb dX12_lanes_39 rfl (lv_at hl 1 rfl) ?_
  refine W.widen (k := 0) (n := 0) (by decide) (by decide) ?_
  exact wk_iret () hx hb hr hlocks rfl hK hP hD hS [0] rfl rfl dX12_lanes_40
theorem dX12_linksOf_0 : decode cX12_linksOf 0 = .ok (.iconst 0, 1) := by decide +kernel
theorem dX12_linksOf_1 : decode cX12_linksOf 1 = .ok (.istore_n 1, 1) := by decide +kernel
theorem dX12_linksOf_2 : decode cX12_linksOf 2 = .ok (.iconst 0, 1) := by decide +kernel
theorem dX12_linksOf_3 : decode cX12_linksOf 3 = .ok (.istore_n 2, 1) := by decide +kernel
theorem dX12_linksOf_4 : decode cX12_linksOf 4 = .ok (.iload_n 2, 1) := by decide +kernel
theorem dX12_linksOf_5 : decode cX12_linksOf 5 = .ok (.aload_n 0, 1) := by decide +kernel
theorem dX12_linksOf_6 : decode cX12_linksOf 6 = .ok (.getfield 121, 3) := by decide +kernel
theorem dX12_linksOf_9 : decode cX12_linksOf 9 = .ok (.if_icmp .ge 18, 3) := by decide +kernel
theorem dX12_linksOf_27 : decode cX12_linksOf 27 = .ok (.iload_n 1, 1) := by decide +kernel
theorem dX12_linksOf_28 : decode cX12_linksOf 28 = .ok (.ireturn, 1) := by decide +kernel
set_option maxHeartbeats 4000000 in
set_option maxRecDepth 100000 in
theorem c_X12_linksOf (l : Launch) (D : va_G) (cy : ClassId) (mo mpage mkeys mvalues mheights mheats msecondKeys msecondValues msecondHeights msecondHeats msaved mbestHeights msights mby mkeptKeys mkeptValues mkeptHeights mkeptHeats mkeptKeys2 mkeptValues2 mkeptHeights2 mkeptHeats2 mkeptSights : Nat) (hh : Int64) : wk_Ci l yX12_linksOf cX12_linksOf 3 (some .int) { frames := 0, cells := 0, slots := 0, locals := 0 } D cy [.ref mo] [(mo, .inr (12, [.ref mpage, .int 0, .int 0, .int 0, .int 0, .int 0, .int 0, .int 0, .ref mkeys, .ref mvalues, .ref mheights, .ref mheats, .int 0, .ref msecondKeys, .ref msecondValues, .ref msecondHeights, .ref msecondHeats, .int 0, .int 0, .int 0, .int 0, .ref msaved, .ref mbestHeights, .int 0, .ref msights, .ref mby, .int 0, .int (-1), .int 0, .int 0, .int 0, .int 0, .int 0, .int 0, .ref mkeptKeys, .ref mkeptValues, .ref mkeptHeights, .ref mkeptHeats, .ref mkeptKeys2, .ref mkeptValues2, .ref mkeptHeights2, .ref mkeptHeats2, .ref mkeptSights, .long hh]))] 0 0 (fun (r : Int32) (u : Unit) => r = 0) (fun u => [(mo, .inr (12, [.ref mpage, .int 0, .int 0, .int 0, .int 0, .int 0, .int 0, .int 0, .ref mkeys, .ref mvalues, .ref mheights, .ref mheats, .int 0, .ref msecondKeys, .ref msecondValues, .ref msecondHeights, .ref msecondHeats, .int 0, .int 0, .int 0, .int 0, .ref msaved, .ref mbestHeights, .int 0, .ref msights, .ref mby, .int 0, .int (-1), .int 0, .int 0, .int 0, .int 0, .int 0, .int 0, .ref mkeptKeys, .ref mkeptValues, .ref mkeptHeights, .ref mkeptHeats, .ref mkeptKeys2, .ref mkeptValues2, .ref mkeptHeights2, .ref mkeptHeats2, .ref mkeptSights, .long hh]))]) := by
  refine wk_mkCi (by decide) (Nat.le_of_ble_eq_true rfl) ?_
  intro p e s m below meth c A ls B hA hK hP hD hS hl
  obtain ⟨hx, hb, hr, hlocks, hml, hown, htb, hin⟩ := B
  have hl : lv_has ls 3 [(0, .ref mo)] := hl
  refine lv_iconst (v := 0) hx hb dX12_linksOf_0 (by decide) ?_
  refine lv_istore_n (lv' := [(1, .int 0), (0, .ref mo)]) hx hb dX12_linksOf_1 rfl hl (by decide) rfl (fun ls hl => ?_)
  refine lv_iconst (v := 0) hx hb dX12_linksOf_2 (by decide) ?_
  refine lv_istore_n (lv' := [(2, .int 0), (1, .int 0), (0, .ref mo)]) hx hb dX12_linksOf_3 rfl hl (by decide) rfl (fun ls hl => ?_)
  refine lv_iload_n hx hb dX12_linksOf_4 rfl (lv_at hl 0 rfl) ?_
  refine lv_aload_n hx hb dX12_linksOf_5 rfl (lv_at hl 2 rfl) ?_
  refine va_get (D := D) (ci := 12) (v := .int 0) (C := RX12) (T := TX12) (N := 44) hx hb htb inX12 hown hK hP 0 rfl rfl 3 (by decide) (htb _ tw_766) (fun _ h9 => h9) rfl dX12_linksOf_6 ?_
  refine lv_icmp_ge (tgt := 27) hx hb dX12_linksOf_9 (by decide) (fun _ => ?_) (fun c_1 => absurd (by decide) c_1)
  refine lv_iload_n hx hb dX12_linksOf_27 rfl (lv_at hl 1 rfl) ?_
  refine W.widen (k := 0) (n := 0) (by decide) (by decide) ?_
  exact wk_iret () hx hb hr hlocks rfl hK hP hD hS [0] rfl rfl dX12_linksOf_28
theorem dX12_sumOf_0 : decode cX12_sumOf 0 = .ok (.iconst 0, 1) := by decide +kernel
theorem dX12_sumOf_1 : decode cX12_sumOf 1 = .ok (.istore_n 2, 1) := by decide +kernel
theorem dX12_sumOf_2 : decode cX12_sumOf 2 = .ok (.iconst 0, 1) := by decide +kernel
theorem dX12_sumOf_3 : decode cX12_sumOf 3 = .ok (.istore_n 3, 1) := by decide +kernel
theorem dX12_sumOf_4 : decode cX12_sumOf 4 = .ok (.iload_n 3, 1) := by decide +kernel
theorem dX12_sumOf_5 : decode cX12_sumOf 5 = .ok (.aload_n 0, 1) := by decide +kernel
theorem dX12_sumOf_6 : decode cX12_sumOf 6 = .ok (.getfield 121, 3) := by decide +kernel
theorem dX12_sumOf_9 : decode cX12_sumOf 9 = .ok (.if_icmp .ge 15, 3) := by decide +kernel
theorem dX12_sumOf_24 : decode cX12_sumOf 24 = .ok (.iload_n 2, 1) := by decide +kernel
theorem dX12_sumOf_25 : decode cX12_sumOf 25 = .ok (.ireturn, 1) := by decide +kernel
set_option maxHeartbeats 4000000 in
set_option maxRecDepth 100000 in
theorem c_X12_sumOf (l : Launch) (D : va_G) (cy : ClassId) (mo mpage mkeys mvalues mheights mheats msecondKeys msecondValues msecondHeights msecondHeats msaved mbestHeights msights mby mkeptKeys mkeptValues mkeptHeights mkeptHeats mkeptKeys2 mkeptValues2 mkeptHeights2 mkeptHeats2 mkeptSights zz : Nat) (hh : Int64) : wk_Ci l yX12_sumOf cX12_sumOf 4 (some .int) { frames := 0, cells := 0, slots := 0, locals := 0 } D cy [.ref mo, .ref zz] [(mo, .inr (12, [.ref mpage, .int 0, .int 0, .int 0, .int 0, .int 0, .int 0, .int 0, .ref mkeys, .ref mvalues, .ref mheights, .ref mheats, .int 0, .ref msecondKeys, .ref msecondValues, .ref msecondHeights, .ref msecondHeats, .int 0, .int 0, .int 0, .int 0, .ref msaved, .ref mbestHeights, .int 0, .ref msights, .ref mby, .int 0, .int (-1), .int 0, .int 0, .int 0, .int 0, .int 0, .int 0, .ref mkeptKeys, .ref mkeptValues, .ref mkeptHeights, .ref mkeptHeats, .ref mkeptKeys2, .ref mkeptValues2, .ref mkeptHeights2, .ref mkeptHeats2, .ref mkeptSights, .long hh]))] 0 0 (fun (r : Int32) (u : Unit) => r = 0) (fun u => [(mo, .inr (12, [.ref mpage, .int 0, .int 0, .int 0, .int 0, .int 0, .int 0, .int 0, .ref mkeys, .ref mvalues, .ref mheights, .ref mheats, .int 0, .ref msecondKeys, .ref msecondValues, .ref msecondHeights, .ref msecondHeats, .int 0, .int 0, .int 0, .int 0, .ref msaved, .ref mbestHeights, .int 0, .ref msights, .ref mby, .int 0, .int (-1), .int 0, .int 0, .int 0, .int 0, .int 0, .int 0, .ref mkeptKeys, .ref mkeptValues, .ref mkeptHeights, .ref mkeptHeats, .ref mkeptKeys2, .ref mkeptValues2, .ref mkeptHeights2, .ref mkeptHeats2, .ref mkeptSights, .long hh]))]) := by
  refine wk_mkCi (by decide) (Nat.le_of_ble_eq_true rfl) ?_
  intro p e s m below meth c A ls B hA hK hP hD hS hl
  obtain ⟨hx, hb, hr, hlocks, hml, hown, htb, hin⟩ := B
  have hl : lv_has ls 4 [(0, .ref mo), (1, .ref zz)] := hl
  refine lv_iconst (v := 0) hx hb dX12_sumOf_0 (by decide) ?_
  refine lv_istore_n (lv' := [(2, .int 0), (0, .ref mo), (1, .ref zz)]) hx hb dX12_sumOf_1 rfl hl (by decide) rfl (fun ls hl => ?_)
  refine lv_iconst (v := 0) hx hb dX12_sumOf_2 (by decide) ?_
  refine lv_istore_n (lv' := [(3, .int 0), (2, .int 0), (0, .ref mo), (1, .ref zz)]) hx hb dX12_sumOf_3 rfl hl (by decide) rfl (fun ls hl => ?_)
  refine lv_iload_n hx hb dX12_sumOf_4 rfl (lv_at hl 0 rfl) ?_
  refine lv_aload_n hx hb dX12_sumOf_5 rfl (lv_at hl 2 rfl) ?_
  refine va_get (D := D) (ci := 12) (v := .int 0) (C := RX12) (T := TX12) (N := 44) hx hb htb inX12 hown hK hP 0 rfl rfl 3 (by decide) (htb _ tw_766) (fun _ h9 => h9) rfl dX12_sumOf_6 ?_
  refine lv_icmp_ge (tgt := 24) hx hb dX12_sumOf_9 (by decide) (fun _ => ?_) (fun c_1 => absurd (by decide) c_1)
  refine lv_iload_n hx hb dX12_sumOf_24 rfl (lv_at hl 1 rfl) ?_
  refine W.widen (k := 0) (n := 0) (by decide) (by decide) ?_
  exact wk_iret () hx hb hr hlocks rfl hK hP hD hS [0] rfl rfl dX12_sumOf_25
theorem dX12_placeOf_0 : decode cX12_placeOf 0 = .ok (.iconst 0, 1) := by decide +kernel
theorem dX12_placeOf_1 : decode cX12_placeOf 1 = .ok (.istore_n 2, 1) := by decide +kernel
theorem dX12_placeOf_2 : decode cX12_placeOf 2 = .ok (.iload_n 2, 1) := by decide +kernel
theorem dX12_placeOf_3 : decode cX12_placeOf 3 = .ok (.aload_n 0, 1) := by decide +kernel
theorem dX12_placeOf_4 : decode cX12_placeOf 4 = .ok (.getfield 121, 3) := by decide +kernel
theorem dX12_placeOf_7 : decode cX12_placeOf 7 = .ok (.if_icmp .ge 19, 3) := by decide +kernel
theorem dX12_placeOf_26 : decode cX12_placeOf 26 = .ok (.iload_n 2, 1) := by decide +kernel
theorem dX12_placeOf_27 : decode cX12_placeOf 27 = .ok (.ireturn, 1) := by decide +kernel
set_option maxHeartbeats 4000000 in
set_option maxRecDepth 100000 in
theorem c_X12_placeOf (l : Launch) (D : va_G) (cy : ClassId) (mo mpage mkeys mvalues mheights mheats msecondKeys msecondValues msecondHeights msecondHeats msaved mbestHeights msights mby mkeptKeys mkeptValues mkeptHeights mkeptHeats mkeptKeys2 mkeptValues2 mkeptHeights2 mkeptHeats2 mkeptSights : Nat) (a : Int32) (hh : Int64) : wk_Ci l yX12_placeOf cX12_placeOf 3 (some .int) { frames := 0, cells := 0, slots := 0, locals := 0 } D cy [.ref mo, .int a] [(mo, .inr (12, [.ref mpage, .int 0, .int 0, .int 0, .int 0, .int 0, .int 0, .int 0, .ref mkeys, .ref mvalues, .ref mheights, .ref mheats, .int 0, .ref msecondKeys, .ref msecondValues, .ref msecondHeights, .ref msecondHeats, .int 0, .int 0, .int 0, .int 0, .ref msaved, .ref mbestHeights, .int 0, .ref msights, .ref mby, .int 0, .int (-1), .int 0, .int 0, .int 0, .int 0, .int 0, .int 0, .ref mkeptKeys, .ref mkeptValues, .ref mkeptHeights, .ref mkeptHeats, .ref mkeptKeys2, .ref mkeptValues2, .ref mkeptHeights2, .ref mkeptHeats2, .ref mkeptSights, .long hh]))] 0 0 (fun (r : Int32) (u : Unit) => r = 0) (fun u => [(mo, .inr (12, [.ref mpage, .int 0, .int 0, .int 0, .int 0, .int 0, .int 0, .int 0, .ref mkeys, .ref mvalues, .ref mheights, .ref mheats, .int 0, .ref msecondKeys, .ref msecondValues, .ref msecondHeights, .ref msecondHeats, .int 0, .int 0, .int 0, .int 0, .ref msaved, .ref mbestHeights, .int 0, .ref msights, .ref mby, .int 0, .int (-1), .int 0, .int 0, .int 0, .int 0, .int 0, .int 0, .ref mkeptKeys, .ref mkeptValues, .ref mkeptHeights, .ref mkeptHeats, .ref mkeptKeys2, .ref mkeptValues2, .ref mkeptHeights2, .ref mkeptHeats2, .ref mkeptSights, .long hh]))]) := by
  refine wk_mkCi (by decide) (Nat.le_of_ble_eq_true rfl) ?_
  intro p e s m below meth c A ls B hA hK hP hD hS hl
  obtain ⟨hx, hb, hr, hlocks, hml, hown, htb, hin⟩ := B
  have hl : lv_has ls 3 [(0, .ref mo), (1, .int a)] := hl
  refine lv_iconst (v := 0) hx hb dX12_placeOf_0 (by decide) ?_
  refine lv_istore_n (lv' := [(2, .int 0), (0, .ref mo), (1, .int a)]) hx hb dX12_placeOf_1 rfl hl (by decide) rfl (fun ls hl => ?_)
  refine lv_iload_n hx hb dX12_placeOf_2 rfl (lv_at hl 0 rfl) ?_
  refine lv_aload_n hx hb dX12_placeOf_3 rfl (lv_at hl 1 rfl) ?_
  refine va_get (D := D) (ci := 12) (v := .int 0) (C := RX12) (T := TX12) (N := 44) hx hb htb inX12 hown hK hP 0 rfl rfl 3 (by decide) (htb _ tw_766) (fun _ h9 => h9) rfl dX12_placeOf_4 ?_
  refine lv_icmp_ge (tgt := 26) hx hb dX12_placeOf_7 (by decide) (fun _ => ?_) (fun c_1 => absurd (by decide) c_1)
  refine lv_iload_n hx hb dX12_placeOf_26 rfl (lv_at hl 0 rfl) ?_
  refine W.widen (k := 0) (n := 0) (by decide) (by decide) ?_
  exact wk_iret () hx hb hr hlocks rfl hK hP hD hS [0] rfl rfl dX12_placeOf_27
theorem dX12_faultOf_0 : decode cX12_faultOf 0 = .ok (.iconst 0, 1) := by decide +kernel
theorem dX12_faultOf_1 : decode cX12_faultOf 1 = .ok (.istore_n 1, 1) := by decide +kernel
theorem dX12_faultOf_2 : decode cX12_faultOf 2 = .ok (.iload_n 1, 1) := by decide +kernel
theorem dX12_faultOf_3 : decode cX12_faultOf 3 = .ok (.aload_n 0, 1) := by decide +kernel
theorem dX12_faultOf_4 : decode cX12_faultOf 4 = .ok (.getfield 86, 3) := by decide +kernel
theorem dX12_faultOf_7 : decode cX12_faultOf 7 = .ok (.if_icmp .ge 17, 3) := by decide +kernel
theorem dX12_faultOf_24 : decode cX12_faultOf 24 = .ok (.iload_n 1, 1) := by decide +kernel
theorem dX12_faultOf_25 : decode cX12_faultOf 25 = .ok (.ireturn, 1) := by decide +kernel
set_option maxHeartbeats 4000000 in
set_option maxRecDepth 100000 in
theorem c_X12_faultOf (l : Launch) (D : va_G) (cy : ClassId) (mo mpage mkeys mvalues mheights mheats msecondKeys msecondValues msecondHeights msecondHeats msaved mbestHeights msights mby mkeptKeys mkeptValues mkeptHeights mkeptHeats mkeptKeys2 mkeptValues2 mkeptHeights2 mkeptHeats2 mkeptSights : Nat) (hh : Int64) : wk_Ci l yX12_faultOf cX12_faultOf 2 (some .int) { frames := 0, cells := 0, slots := 0, locals := 0 } D cy [.ref mo] [(mo, .inr (12, [.ref mpage, .int 0, .int 0, .int 0, .int 0, .int 0, .int 0, .int 0, .ref mkeys, .ref mvalues, .ref mheights, .ref mheats, .int 0, .ref msecondKeys, .ref msecondValues, .ref msecondHeights, .ref msecondHeats, .int 0, .int 0, .int 0, .int 0, .ref msaved, .ref mbestHeights, .int 0, .ref msights, .ref mby, .int 0, .int (-1), .int 0, .int 0, .int 0, .int 0, .int 0, .int 0, .ref mkeptKeys, .ref mkeptValues, .ref mkeptHeights, .ref mkeptHeats, .ref mkeptKeys2, .ref mkeptValues2, .ref mkeptHeights2, .ref mkeptHeats2, .ref mkeptSights, .long hh]))] 0 0 (fun (r : Int32) (u : Unit) => r = 0) (fun u => [(mo, .inr (12, [.ref mpage, .int 0, .int 0, .int 0, .int 0, .int 0, .int 0, .int 0, .ref mkeys, .ref mvalues, .ref mheights, .ref mheats, .int 0, .ref msecondKeys, .ref msecondValues, .ref msecondHeights, .ref msecondHeats, .int 0, .int 0, .int 0, .int 0, .ref msaved, .ref mbestHeights, .int 0, .ref msights, .ref mby, .int 0, .int (-1), .int 0, .int 0, .int 0, .int 0, .int 0, .int 0, .ref mkeptKeys, .ref mkeptValues, .ref mkeptHeights, .ref mkeptHeats, .ref mkeptKeys2, .ref mkeptValues2, .ref mkeptHeights2, .ref mkeptHeats2, .ref mkeptSights, .long hh]))]) := by
  refine wk_mkCi (by decide) (Nat.le_of_ble_eq_true rfl) ?_
  intro p e s m below meth c A ls B hA hK hP hD hS hl
  obtain ⟨hx, hb, hr, hlocks, hml, hown, htb, hin⟩ := B
  have hl : lv_has ls 2 [(0, .ref mo)] := hl
  refine lv_iconst (v := 0) hx hb dX12_faultOf_0 (by decide) ?_
  refine lv_istore_n (lv' := [(1, .int 0), (0, .ref mo)]) hx hb dX12_faultOf_1 rfl hl (by decide) rfl (fun ls hl => ?_)
  refine lv_iload_n hx hb dX12_faultOf_2 rfl (lv_at hl 0 rfl) ?_
  refine lv_aload_n hx hb dX12_faultOf_3 rfl (lv_at hl 1 rfl) ?_
  refine va_get (D := D) (ci := 12) (v := .int 0) (C := RX12) (T := TX12) (N := 44) hx hb htb inX12 hown hK hP 0 rfl rfl 1 (by decide) (htb _ tw_764) (fun _ h9 => h9) rfl dX12_faultOf_4 ?_
  refine lv_icmp_ge (tgt := 24) hx hb dX12_faultOf_7 (by decide) (fun _ => ?_) (fun c_1 => absurd (by decide) c_1)
  refine lv_iload_n hx hb dX12_faultOf_24 rfl (lv_at hl 0 rfl) ?_
  refine W.widen (k := 0) (n := 0) (by decide) (by decide) ?_
  exact wk_iret () hx hb hr hlocks rfl hK hP hD hS [0] rfl rfl dX12_faultOf_25
theorem dX12_isKey_0 : decode cX12_isKey 0 = .ok (.iload_n 0, 1) := by decide +kernel
theorem dX12_isKey_1 : decode cX12_isKey 1 = .ok (.i2l, 1) := by decide +kernel
theorem dX12_isKey_2 : decode cX12_isKey 2 = .ok (.lconst 0, 1) := by decide +kernel
theorem dX12_isKey_3 : decode cX12_isKey 3 = .ok (.ldc2_w 178, 3) := by decide +kernel
theorem dX12_isKey_6 : decode cX12_isKey 6 = .ok (.invokestatic 82, 3) := by decide +kernel
theorem dX12_isKey_9 : decode cX12_isKey 9 = .ok (.ireturn, 1) := by decide +kernel
set_option maxHeartbeats 4000000 in
set_option maxRecDepth 100000 in
theorem c_X12_isKey (l : Launch) (D : va_G) (cy : ClassId) (a : Int32) : wk_Ci l yX12_isKey cX12_isKey 1 (some .boolean) { frames := 1, cells := 0, slots := 0, locals := 25 } D cy [.int a] [] 0 0 (fun (r : Int32) (u : Unit) => r = if (0 ≤ a.toInt ∧ a.toInt ≤ 99) then 1 else 0) (fun u => []) := by
  refine wk_mkCi (by decide) (Nat.le_of_ble_eq_true rfl) ?_
  intro p e s m below meth c A ls B hA hK hP hD hS hl
  obtain ⟨hx, hb, hr, hlocks, hml, hown, htb, hin⟩ := B
  have hl : lv_has ls 1 [(0, .int a)] := hl
  refine lv_iload_n hx hb dX12_isKey_0 rfl (lv_at hl 0 rfl) ?_
  refine lv_i2l (v := a.toInt64) hx hb dX12_isKey_1 rfl ?_
  refine lv_lconst (v := 0) hx hb dX12_isKey_2 (by decide) ?_
  refine lv_ldc2 (v := 99) hx hb hown (htb _ tw_964) dX12_isKey_3 ?_
  refine wk_iS (As := [.long a.toInt64, .long 0, .long 99]) (rest := []) (wc := []) (wr := []) (n := 3) (R := _) ⟨hx, hb, hml, hown, htb⟩ (c_X12_in l D cy   a.toInt64 0 99) tw_903 tw_901 tw_902 tw_71 rfl rfl (by decide +kernel) ⟨Nat.le_of_ble_eq_true rfl, Nat.le_of_ble_eq_true rfl⟩ hK hP hD hS hA [] [] rfl rfl rfl rfl (by decide) rfl hl.1 rfl (Nat.le_of_ble_eq_true rfl) dX12_isKey_6 ⟨Nat.le_of_ble_eq_true rfl, Nat.le_of_ble_eq_true rfl⟩ (fun r_1 u_2 H locs hw_3 hP hD hS => ?_)
  refine W.widen (k := 0) (n := 0) (by decide) (by decide) ?_
  have hw_3 : r_1 = wk_in a.toInt64 0 99 := hw_3
  subst hw_3
  have hP : va_P D classes [] H := hP
  have hD : va_D A [] := hD
  refine W.widen (k := 0) (n := 0) (by decide) (by decide) ?_
  exact wk_zret () hx hb hr hlocks (wk_in_n _ _ _) (by simp only [wk_in, wk_64]; rfl) hK hP hD hS [] rfl rfl dX12_isKey_9
theorem dX12_isNumber_0 : decode cX12_isNumber 0 = .ok (.iload_n 1, 1) := by decide +kernel
theorem dX12_isNumber_1 : decode cX12_isNumber 1 = .ok (.i2l, 1) := by decide +kernel
theorem dX12_isNumber_2 : decode cX12_isNumber 2 = .ok (.lconst 0, 1) := by decide +kernel
theorem dX12_isNumber_3 : decode cX12_isNumber 3 = .ok (.aload_n 0, 1) := by decide +kernel
theorem dX12_isNumber_4 : decode cX12_isNumber 4 = .ok (.getfield 121, 3) := by decide +kernel
theorem dX12_isNumber_7 : decode cX12_isNumber 7 = .ok (.iconst 1, 1) := by decide +kernel
theorem dX12_isNumber_8 : decode cX12_isNumber 8 = .ok (.isub, 1) := by decide +kernel
theorem dX12_isNumber_9 : decode cX12_isNumber 9 = .ok (.i2l, 1) := by decide +kernel
theorem dX12_isNumber_10 : decode cX12_isNumber 10 = .ok (.invokestatic 82, 3) := by decide +kernel
theorem dX12_isNumber_13 : decode cX12_isNumber 13 = .ok (.ireturn, 1) := by decide +kernel
set_option maxHeartbeats 4000000 in
set_option maxRecDepth 100000 in
theorem c_X12_isNumber (l : Launch) (D : va_G) (cy : ClassId) (mo mpage mkeys mvalues mheights mheats msecondKeys msecondValues msecondHeights msecondHeats msaved mbestHeights msights mby mkeptKeys mkeptValues mkeptHeights mkeptHeats mkeptKeys2 mkeptValues2 mkeptHeights2 mkeptHeats2 mkeptSights : Nat) (a : Int32) (hh : Int64) : wk_Ci l yX12_isNumber cX12_isNumber 2 (some .boolean) { frames := 1, cells := 0, slots := 0, locals := 25 } D cy [.ref mo, .int a] [(mo, .inr (12, [.ref mpage, .int 0, .int 0, .int 0, .int 0, .int 0, .int 0, .int 0, .ref mkeys, .ref mvalues, .ref mheights, .ref mheats, .int 0, .ref msecondKeys, .ref msecondValues, .ref msecondHeights, .ref msecondHeats, .int 0, .int 0, .int 0, .int 0, .ref msaved, .ref mbestHeights, .int 0, .ref msights, .ref mby, .int 0, .int (-1), .int 0, .int 0, .int 0, .int 0, .int 0, .int 0, .ref mkeptKeys, .ref mkeptValues, .ref mkeptHeights, .ref mkeptHeats, .ref mkeptKeys2, .ref mkeptValues2, .ref mkeptHeights2, .ref mkeptHeats2, .ref mkeptSights, .long hh]))] 0 0 (fun (r : Int32) (u : Unit) => r = 0) (fun u => [(mo, .inr (12, [.ref mpage, .int 0, .int 0, .int 0, .int 0, .int 0, .int 0, .int 0, .ref mkeys, .ref mvalues, .ref mheights, .ref mheats, .int 0, .ref msecondKeys, .ref msecondValues, .ref msecondHeights, .ref msecondHeats, .int 0, .int 0, .int 0, .int 0, .ref msaved, .ref mbestHeights, .int 0, .ref msights, .ref mby, .int 0, .int (-1), .int 0, .int 0, .int 0, .int 0, .int 0, .int 0, .ref mkeptKeys, .ref mkeptValues, .ref mkeptHeights, .ref mkeptHeats, .ref mkeptKeys2, .ref mkeptValues2, .ref mkeptHeights2, .ref mkeptHeats2, .ref mkeptSights, .long hh]))]) := by
  refine wk_mkCi (by decide) (Nat.le_of_ble_eq_true rfl) ?_
  intro p e s m below meth c A ls B hA hK hP hD hS hl
  obtain ⟨hx, hb, hr, hlocks, hml, hown, htb, hin⟩ := B
  have hl : lv_has ls 2 [(0, .ref mo), (1, .int a)] := hl
  refine lv_iload_n hx hb dX12_isNumber_0 rfl (lv_at hl 1 rfl) ?_
  refine lv_i2l (v := a.toInt64) hx hb dX12_isNumber_1 rfl ?_
  refine lv_lconst (v := 0) hx hb dX12_isNumber_2 (by decide) ?_
  refine lv_aload_n hx hb dX12_isNumber_3 rfl (lv_at hl 0 rfl) ?_
  refine va_get (D := D) (ci := 12) (v := .int 0) (C := RX12) (T := TX12) (N := 44) hx hb htb inX12 hown hK hP 0 rfl rfl 3 (by decide) (htb _ tw_766) (fun _ h9 => h9) rfl dX12_isNumber_4 ?_
  refine lv_iconst (v := 1) hx hb dX12_isNumber_7 (by decide) ?_
  refine lv_isub hx hb dX12_isNumber_8 ?_
  refine wk_toi (show ((0 - 1) : Int32) = (-1) by decide) ?_
  refine lv_i2l (v := (-1)) hx hb dX12_isNumber_9 (by decide) ?_
  refine wk_iS (As := [.long a.toInt64, .long 0, .long (-1)]) (rest := []) (wc := []) (wr := [(mo, .inr (12, [.ref mpage, .int 0, .int 0, .int 0, .int 0, .int 0, .int 0, .int 0, .ref mkeys, .ref mvalues, .ref mheights, .ref mheats, .int 0, .ref msecondKeys, .ref msecondValues, .ref msecondHeights, .ref msecondHeats, .int 0, .int 0, .int 0, .int 0, .ref msaved, .ref mbestHeights, .int 0, .ref msights, .ref mby, .int 0, .int (-1), .int 0, .int 0, .int 0, .int 0, .int 0, .int 0, .ref mkeptKeys, .ref mkeptValues, .ref mkeptHeights, .ref mkeptHeats, .ref mkeptKeys2, .ref mkeptValues2, .ref mkeptHeights2, .ref mkeptHeats2, .ref mkeptSights, .long hh]))]) (n := 3) (R := _) ⟨hx, hb, hml, hown, htb⟩ (c_X12_in l D cy   a.toInt64 0 (-1)) tw_903 tw_901 tw_902 tw_71 rfl rfl (by decide +kernel) ⟨Nat.le_of_ble_eq_true rfl, Nat.le_of_ble_eq_true rfl⟩ hK hP hD hS hA [] [0] rfl rfl rfl rfl (by decide) rfl hl.1 rfl (Nat.le_of_ble_eq_true rfl) dX12_isNumber_10 ⟨Nat.le_of_ble_eq_true rfl, Nat.le_of_ble_eq_true rfl⟩ (fun r_1 u_2 H locs hw_3 hP hD hS => ?_)
  refine W.widen (k := 0) (n := 0) (by decide) (by decide) ?_
  have hw_3 : r_1 = wk_in a.toInt64 0 (-1) := hw_3
  subst hw_3
  have hP : va_P D classes [(mo, .inr (12, [.ref mpage, .int 0, .int 0, .int 0, .int 0, .int 0, .int 0, .int 0, .ref mkeys, .ref mvalues, .ref mheights, .ref mheats, .int 0, .ref msecondKeys, .ref msecondValues, .ref msecondHeights, .ref msecondHeats, .int 0, .int 0, .int 0, .int 0, .ref msaved, .ref mbestHeights, .int 0, .ref msights, .ref mby, .int 0, .int (-1), .int 0, .int 0, .int 0, .int 0, .int 0, .int 0, .ref mkeptKeys, .ref mkeptValues, .ref mkeptHeights, .ref mkeptHeats, .ref mkeptKeys2, .ref mkeptValues2, .ref mkeptHeights2, .ref mkeptHeats2, .ref mkeptSights, .long hh]))] H := hP
  have hD : va_D A [(mo, .inr (12, [.ref mpage, .int 0, .int 0, .int 0, .int 0, .int 0, .int 0, .int 0, .ref mkeys, .ref mvalues, .ref mheights, .ref mheats, .int 0, .ref msecondKeys, .ref msecondValues, .ref msecondHeights, .ref msecondHeats, .int 0, .int 0, .int 0, .int 0, .ref msaved, .ref mbestHeights, .int 0, .ref msights, .ref mby, .int 0, .int (-1), .int 0, .int 0, .int 0, .int 0, .int 0, .int 0, .ref mkeptKeys, .ref mkeptValues, .ref mkeptHeights, .ref mkeptHeats, .ref mkeptKeys2, .ref mkeptValues2, .ref mkeptHeights2, .ref mkeptHeats2, .ref mkeptSights, .long hh]))] := hD
  refine W.widen (k := 0) (n := 0) (by decide) (by decide) ?_
  exact wk_zret () hx hb hr hlocks (wk_in_n _ _ _) (if_neg (by simp only [wk_64]; show ¬ ((0:Int) ≤ a.toInt ∧ a.toInt ≤ -1); omega)) hK hP hD hS [0] rfl rfl dX12_isNumber_13
theorem dX12_countOf_0 : decode cX12_countOf 0 = .ok (.iload_n 1, 1) := by decide +kernel
theorem dX12_countOf_1 : decode cX12_countOf 1 = .ok (.tableswitch 140 0 12 #[67, 72, 77, 82, 91, 100, 105, 110, 115, 120, 125, 130, 135], 67) := by decide +kernel
theorem dX12_countOf_68 : decode cX12_countOf 68 = .ok (.aload_n 0, 1) := by decide +kernel
theorem dX12_countOf_69 : decode cX12_countOf 69 = .ok (.getfield 121, 3) := by decide +kernel
theorem dX12_countOf_72 : decode cX12_countOf 72 = .ok (.ireturn, 1) := by decide +kernel
theorem dX12_countOf_73 : decode cX12_countOf 73 = .ok (.aload_n 0, 1) := by decide +kernel
theorem dX12_countOf_74 : decode cX12_countOf 74 = .ok (.invokevirtual 167, 3) := by decide +kernel
theorem dX12_countOf_77 : decode cX12_countOf 77 = .ok (.ireturn, 1) := by decide +kernel
theorem dX12_countOf_78 : decode cX12_countOf 78 = .ok (.aload_n 0, 1) := by decide +kernel
theorem dX12_countOf_79 : decode cX12_countOf 79 = .ok (.invokevirtual 266, 3) := by decide +kernel
theorem dX12_countOf_82 : decode cX12_countOf 82 = .ok (.ireturn, 1) := by decide +kernel
theorem dX12_countOf_83 : decode cX12_countOf 83 = .ok (.aload_n 0, 1) := by decide +kernel
theorem dX12_countOf_84 : decode cX12_countOf 84 = .ok (.aload_n 0, 1) := by decide +kernel
theorem dX12_countOf_85 : decode cX12_countOf 85 = .ok (.getfield 16, 3) := by decide +kernel
theorem dX12_countOf_88 : decode cX12_countOf 88 = .ok (.invokevirtual 322, 3) := by decide +kernel
theorem dX12_countOf_91 : decode cX12_countOf 91 = .ok (.ireturn, 1) := by decide +kernel
theorem dX12_countOf_92 : decode cX12_countOf 92 = .ok (.aload_n 0, 1) := by decide +kernel
theorem dX12_countOf_93 : decode cX12_countOf 93 = .ok (.aload_n 0, 1) := by decide +kernel
theorem dX12_countOf_94 : decode cX12_countOf 94 = .ok (.getfield 22, 3) := by decide +kernel
theorem dX12_countOf_97 : decode cX12_countOf 97 = .ok (.invokevirtual 322, 3) := by decide +kernel
theorem dX12_countOf_100 : decode cX12_countOf 100 = .ok (.ireturn, 1) := by decide +kernel
theorem dX12_countOf_101 : decode cX12_countOf 101 = .ok (.aload_n 0, 1) := by decide +kernel
theorem dX12_countOf_102 : decode cX12_countOf 102 = .ok (.getfield 127, 3) := by decide +kernel
theorem dX12_countOf_105 : decode cX12_countOf 105 = .ok (.ireturn, 1) := by decide +kernel
theorem dX12_countOf_106 : decode cX12_countOf 106 = .ok (.aload_n 0, 1) := by decide +kernel
theorem dX12_countOf_107 : decode cX12_countOf 107 = .ok (.getfield 130, 3) := by decide +kernel
theorem dX12_countOf_110 : decode cX12_countOf 110 = .ok (.ireturn, 1) := by decide +kernel
theorem dX12_countOf_111 : decode cX12_countOf 111 = .ok (.aload_n 0, 1) := by decide +kernel
theorem dX12_countOf_112 : decode cX12_countOf 112 = .ok (.getfield 133, 3) := by decide +kernel
theorem dX12_countOf_115 : decode cX12_countOf 115 = .ok (.ireturn, 1) := by decide +kernel
theorem dX12_countOf_116 : decode cX12_countOf 116 = .ok (.aload_n 0, 1) := by decide +kernel
theorem dX12_countOf_117 : decode cX12_countOf 117 = .ok (.getfield 136, 3) := by decide +kernel
theorem dX12_countOf_120 : decode cX12_countOf 120 = .ok (.ireturn, 1) := by decide +kernel
theorem dX12_countOf_121 : decode cX12_countOf 121 = .ok (.aload_n 0, 1) := by decide +kernel
theorem dX12_countOf_122 : decode cX12_countOf 122 = .ok (.getfield 139, 3) := by decide +kernel
theorem dX12_countOf_125 : decode cX12_countOf 125 = .ok (.ireturn, 1) := by decide +kernel
theorem dX12_countOf_126 : decode cX12_countOf 126 = .ok (.aload_n 0, 1) := by decide +kernel
theorem dX12_countOf_127 : decode cX12_countOf 127 = .ok (.getfield 86, 3) := by decide +kernel
theorem dX12_countOf_130 : decode cX12_countOf 130 = .ok (.ireturn, 1) := by decide +kernel
theorem dX12_countOf_131 : decode cX12_countOf 131 = .ok (.aload_n 0, 1) := by decide +kernel
theorem dX12_countOf_132 : decode cX12_countOf 132 = .ok (.getfield 142, 3) := by decide +kernel
theorem dX12_countOf_135 : decode cX12_countOf 135 = .ok (.ireturn, 1) := by decide +kernel
theorem dX12_countOf_136 : decode cX12_countOf 136 = .ok (.aload_n 0, 1) := by decide +kernel
theorem dX12_countOf_137 : decode cX12_countOf 137 = .ok (.getfield 273, 3) := by decide +kernel
theorem dX12_countOf_140 : decode cX12_countOf 140 = .ok (.ireturn, 1) := by decide +kernel
theorem dX12_countOf_141 : decode cX12_countOf 141 = .ok (.bipush (-102), 2) := by decide +kernel
theorem dX12_countOf_143 : decode cX12_countOf 143 = .ok (.ireturn, 1) := by decide +kernel
set_option maxHeartbeats 4000000 in
set_option maxRecDepth 100000 in
theorem c_X12_countOf (l : Launch) (D : va_G) (cy : ClassId) (mo mpage mkeys mvalues mheights mheats msecondKeys msecondValues msecondHeights msecondHeats msaved mbestHeights msights mby mkeptKeys mkeptValues mkeptHeights mkeptHeats mkeptKeys2 mkeptValues2 mkeptHeights2 mkeptHeats2 mkeptSights : Nat) (a : Int32) (hh : Int64) : wk_Ci l yX12_countOf cX12_countOf 2 (some .int) { frames := 1, cells := 0, slots := 0, locals := 23 } D cy [.ref mo, .int a] [(mo, .inr (12, [.ref mpage, .int 0, .int 0, .int 0, .int 0, .int 0, .int 0, .int 0, .ref mkeys, .ref mvalues, .ref mheights, .ref mheats, .int 0, .ref msecondKeys, .ref msecondValues, .ref msecondHeights, .ref msecondHeats, .int 0, .int 0, .int 0, .int 0, .ref msaved, .ref mbestHeights, .int 0, .ref msights, .ref mby, .int 0, .int (-1), .int 0, .int 0, .int 0, .int 0, .int 0, .int 0, .ref mkeptKeys, .ref mkeptValues, .ref mkeptHeights, .ref mkeptHeats, .ref mkeptKeys2, .ref mkeptValues2, .ref mkeptHeights2, .ref mkeptHeats2, .ref mkeptSights, .long hh]))] 0 0 (fun (r : Int32) (u : Unit) => r = if (0 ≤ (a : Int32).toInt ∧ (a : Int32).toInt ≤ 12) then 0 else (-102)) (fun u => [(mo, .inr (12, [.ref mpage, .int 0, .int 0, .int 0, .int 0, .int 0, .int 0, .int 0, .ref mkeys, .ref mvalues, .ref mheights, .ref mheats, .int 0, .ref msecondKeys, .ref msecondValues, .ref msecondHeights, .ref msecondHeats, .int 0, .int 0, .int 0, .int 0, .ref msaved, .ref mbestHeights, .int 0, .ref msights, .ref mby, .int 0, .int (-1), .int 0, .int 0, .int 0, .int 0, .int 0, .int 0, .ref mkeptKeys, .ref mkeptValues, .ref mkeptHeights, .ref mkeptHeats, .ref mkeptKeys2, .ref mkeptValues2, .ref mkeptHeights2, .ref mkeptHeats2, .ref mkeptSights, .long hh]))]) := by
  refine wk_mkCi (by decide) (Nat.le_of_ble_eq_true rfl) ?_
  intro p e s m below meth c A ls B hA hK hP hD hS hl
  obtain ⟨hx, hb, hr, hlocks, hml, hown, htb, hin⟩ := B
  have hl : lv_has ls 2 [(0, .ref mo), (1, .int a)] := hl
  refine lv_iload_n hx hb dX12_countOf_0 rfl (lv_at hl 1 rfl) ?_
  rcases wk_sw12 a with c_1 | rfl | rfl | rfl | rfl | rfl | rfl | rfl | rfl | rfl | rfl | rfl | rfl | rfl
  · have k_1 := c_1
    refine lv_tableOut (tgt := 141) hx hb dX12_countOf_1 c_1 (by decide) ?_
    refine lv_bipush (v := (-102)) hx hb dX12_countOf_141 (by decide) ?_
    refine W.widen (k := 0) (n := 0) (by decide) (by decide) ?_
    exact wk_iret () hx hb hr hlocks (if_neg (by omega)).symm hK hP hD hS [0] rfl rfl dX12_countOf_143
  · refine lv_tableIn (off := 67) (tgt := 68) hx hb dX12_countOf_1 (by decide) (by decide) (by decide) (by decide) ?_
    have hl : lv_has ls 2 [(0, .ref mo), (1, .int 0)] := hl
    refine lv_aload_n hx hb dX12_countOf_68 rfl (lv_at hl 0 rfl) ?_
    refine va_get (D := D) (ci := 12) (v := .int 0) (C := RX12) (T := TX12) (N := 44) hx hb htb inX12 hown hK hP 0 rfl rfl 3 (by decide) (htb _ tw_766) (fun _ h9 => h9) rfl dX12_countOf_69 ?_
    refine W.widen (k := 0) (n := 0) (by decide) (by decide) ?_
    exact wk_iret () hx hb hr hlocks (by decide) hK hP hD hS [0] rfl rfl dX12_countOf_72
  · refine lv_tableIn (off := 72) (tgt := 73) hx hb dX12_countOf_1 (by decide) (by decide) (by decide) (by decide) ?_
    have hl : lv_has ls 2 [(0, .ref mo), (1, .int 1)] := hl
    refine lv_aload_n hx hb dX12_countOf_73 rfl (lv_at hl 0 rfl) ?_
    refine wk_iV (As := []) (rest := []) (wc := [(mo, .inr (12, [.ref mpage, .int 0, .int 0, .int 0, .int 0, .int 0, .int 0, .int 0, .ref mkeys, .ref mvalues, .ref mheights, .ref mheats, .int 0, .ref msecondKeys, .ref msecondValues, .ref msecondHeights, .ref msecondHeats, .int 0, .int 0, .int 0, .int 0, .ref msaved, .ref mbestHeights, .int 0, .ref msights, .ref mby, .int 0, .int (-1), .int 0, .int 0, .int 0, .int 0, .int 0, .int 0, .ref mkeptKeys, .ref mkeptValues, .ref mkeptHeights, .ref mkeptHeats, .ref mkeptKeys2, .ref mkeptValues2, .ref mkeptHeights2, .ref mkeptHeats2, .ref mkeptSights, .long hh]))]) (wr := []) (n := 0) (R := _) ⟨hx, hb, hml, hown, htb⟩ (c_X12_lanes l D cy mo mpage mkeys mvalues mheights mheats msecondKeys msecondValues msecondHeights msecondHeats msaved mbestHeights msights mby mkeptKeys mkeptValues mkeptHeights mkeptHeats mkeptKeys2 mkeptValues2 mkeptHeights2 mkeptHeats2 mkeptSights  hh) tw_977 tw_974 tw_976 tw_31 tw_71 rfl rfl (by decide +kernel) ⟨Nat.le_of_ble_eq_true rfl, Nat.le_of_ble_eq_true rfl⟩ hK hP hD hS hA [0] [] rfl rfl rfl rfl (by decide) 0 (ci := 12) rfl rfl rfl hl.1 rfl (Nat.le_of_ble_eq_true rfl) dX12_countOf_74 ⟨Nat.le_of_ble_eq_true rfl, Nat.le_of_ble_eq_true rfl⟩ (fun r_2 u_3 H locs hw_4 hP hD hS => ?_)
    refine W.widen (k := 0) (n := 0) (by decide) (by decide) ?_
    have hw_4 : r_2 = 0 := hw_4
    subst hw_4
    have hP : va_P D classes [(mo, .inr (12, [.ref mpage, .int 0, .int 0, .int 0, .int 0, .int 0, .int 0, .int 0, .ref mkeys, .ref mvalues, .ref mheights, .ref mheats, .int 0, .ref msecondKeys, .ref msecondValues, .ref msecondHeights, .ref msecondHeats, .int 0, .int 0, .int 0, .int 0, .ref msaved, .ref mbestHeights, .int 0, .ref msights, .ref mby, .int 0, .int (-1), .int 0, .int 0, .int 0, .int 0, .int 0, .int 0, .ref mkeptKeys, .ref mkeptValues, .ref mkeptHeights, .ref mkeptHeats, .ref mkeptKeys2, .ref mkeptValues2, .ref mkeptHeights2, .ref mkeptHeats2, .ref mkeptSights, .long hh]))] H := hP
    have hD : va_D A [(mo, .inr (12, [.ref mpage, .int 0, .int 0, .int 0, .int 0, .int 0, .int 0, .int 0, .ref mkeys, .ref mvalues, .ref mheights, .ref mheats, .int 0, .ref msecondKeys, .ref msecondValues, .ref msecondHeights, .ref msecondHeats, .int 0, .int 0, .int 0, .int 0, .ref msaved, .ref mbestHeights, .int 0, .ref msights, .ref mby, .int 0, .int (-1), .int 0, .int 0, .int 0, .int 0, .int 0, .int 0, .ref mkeptKeys, .ref mkeptValues, .ref mkeptHeights, .ref mkeptHeats, .ref mkeptKeys2, .ref mkeptValues2, .ref mkeptHeights2, .ref mkeptHeats2, .ref mkeptSights, .long hh]))] := hD
    refine W.widen (k := 0) (n := 0) (by decide) (by decide) ?_
    exact wk_iret () hx hb hr hlocks (by decide) hK hP hD hS [0] rfl rfl dX12_countOf_77
  · refine lv_tableIn (off := 77) (tgt := 78) hx hb dX12_countOf_1 (by decide) (by decide) (by decide) (by decide) ?_
    have hl : lv_has ls 2 [(0, .ref mo), (1, .int 2)] := hl
    refine lv_aload_n hx hb dX12_countOf_78 rfl (lv_at hl 0 rfl) ?_
    refine wk_iV (As := []) (rest := []) (wc := [(mo, .inr (12, [.ref mpage, .int 0, .int 0, .int 0, .int 0, .int 0, .int 0, .int 0, .ref mkeys, .ref mvalues, .ref mheights, .ref mheats, .int 0, .ref msecondKeys, .ref msecondValues, .ref msecondHeights, .ref msecondHeats, .int 0, .int 0, .int 0, .int 0, .ref msaved, .ref mbestHeights, .int 0, .ref msights, .ref mby, .int 0, .int (-1), .int 0, .int 0, .int 0, .int 0, .int 0, .int 0, .ref mkeptKeys, .ref mkeptValues, .ref mkeptHeights, .ref mkeptHeats, .ref mkeptKeys2, .ref mkeptValues2, .ref mkeptHeights2, .ref mkeptHeats2, .ref mkeptSights, .long hh]))]) (wr := []) (n := 0) (R := _) ⟨hx, hb, hml, hown, htb⟩ (c_X12_linksOf l D cy mo mpage mkeys mvalues mheights mheats msecondKeys msecondValues msecondHeights msecondHeats msaved mbestHeights msights mby mkeptKeys mkeptValues mkeptHeights mkeptHeats mkeptKeys2 mkeptValues2 mkeptHeights2 mkeptHeats2 mkeptSights  hh) tw_1145 tw_1142 tw_1144 tw_55 tw_71 rfl rfl (by decide +kernel) ⟨Nat.le_of_ble_eq_true rfl, Nat.le_of_ble_eq_true rfl⟩ hK hP hD hS hA [0] [] rfl rfl rfl rfl (by decide) 0 (ci := 12) rfl rfl rfl hl.1 rfl (Nat.le_of_ble_eq_true rfl) dX12_countOf_79 ⟨Nat.le_of_ble_eq_true rfl, Nat.le_of_ble_eq_true rfl⟩ (fun r_5 u_6 H locs hw_7 hP hD hS => ?_)
    refine W.widen (k := 0) (n := 0) (by decide) (by decide) ?_
    have hw_7 : r_5 = 0 := hw_7
    subst hw_7
    have hP : va_P D classes [(mo, .inr (12, [.ref mpage, .int 0, .int 0, .int 0, .int 0, .int 0, .int 0, .int 0, .ref mkeys, .ref mvalues, .ref mheights, .ref mheats, .int 0, .ref msecondKeys, .ref msecondValues, .ref msecondHeights, .ref msecondHeats, .int 0, .int 0, .int 0, .int 0, .ref msaved, .ref mbestHeights, .int 0, .ref msights, .ref mby, .int 0, .int (-1), .int 0, .int 0, .int 0, .int 0, .int 0, .int 0, .ref mkeptKeys, .ref mkeptValues, .ref mkeptHeights, .ref mkeptHeats, .ref mkeptKeys2, .ref mkeptValues2, .ref mkeptHeights2, .ref mkeptHeats2, .ref mkeptSights, .long hh]))] H := hP
    have hD : va_D A [(mo, .inr (12, [.ref mpage, .int 0, .int 0, .int 0, .int 0, .int 0, .int 0, .int 0, .ref mkeys, .ref mvalues, .ref mheights, .ref mheats, .int 0, .ref msecondKeys, .ref msecondValues, .ref msecondHeights, .ref msecondHeats, .int 0, .int 0, .int 0, .int 0, .ref msaved, .ref mbestHeights, .int 0, .ref msights, .ref mby, .int 0, .int (-1), .int 0, .int 0, .int 0, .int 0, .int 0, .int 0, .ref mkeptKeys, .ref mkeptValues, .ref mkeptHeights, .ref mkeptHeats, .ref mkeptKeys2, .ref mkeptValues2, .ref mkeptHeights2, .ref mkeptHeats2, .ref mkeptSights, .long hh]))] := hD
    refine W.widen (k := 0) (n := 0) (by decide) (by decide) ?_
    exact wk_iret () hx hb hr hlocks (by decide) hK hP hD hS [0] rfl rfl dX12_countOf_82
  · refine lv_tableIn (off := 82) (tgt := 83) hx hb dX12_countOf_1 (by decide) (by decide) (by decide) (by decide) ?_
    have hl : lv_has ls 2 [(0, .ref mo), (1, .int 3)] := hl
    refine lv_aload_n hx hb dX12_countOf_83 rfl (lv_at hl 0 rfl) ?_
    refine lv_aload_n hx hb dX12_countOf_84 rfl (lv_at hl 0 rfl) ?_
    refine va_get (D := D) (ci := 12) (v := .ref mvalues) (C := RX12) (T := TX12) (N := 44) hx hb htb inX12 hown hK hP 0 rfl rfl 9 (by decide) (htb _ tw_772) (fun _ h9 => h9) rfl dX12_countOf_85 ?_
    refine wk_iV (As := [.ref mvalues]) (rest := []) (wc := [(mo, .inr (12, [.ref mpage, .int 0, .int 0, .int 0, .int 0, .int 0, .int 0, .int 0, .ref mkeys, .ref mvalues, .ref mheights, .ref mheats, .int 0, .ref msecondKeys, .ref msecondValues, .ref msecondHeights, .ref msecondHeats, .int 0, .int 0, .int 0, .int 0, .ref msaved, .ref mbestHeights, .int 0, .ref msights, .ref mby, .int 0, .int (-1), .int 0, .int 0, .int 0, .int 0, .int 0, .int 0, .ref mkeptKeys, .ref mkeptValues, .ref mkeptHeights, .ref mkeptHeats, .ref mkeptKeys2, .ref mkeptValues2, .ref mkeptHeights2, .ref mkeptHeats2, .ref mkeptSights, .long hh]))]) (wr := []) (n := 1) (R := _) ⟨hx, hb, hml, hown, htb⟩ (c_X12_sumOf l D cy mo mpage mkeys mvalues mheights mheats msecondKeys msecondValues msecondHeights msecondHeats msaved mbestHeights msights mby mkeptKeys mkeptValues mkeptHeights mkeptHeats mkeptKeys2 mkeptValues2 mkeptHeights2 mkeptHeats2 mkeptSights mvalues  hh) tw_1194 tw_1191 tw_1193 tw_59 tw_71 rfl rfl (by decide +kernel) ⟨Nat.le_of_ble_eq_true rfl, Nat.le_of_ble_eq_true rfl⟩ hK hP hD hS hA [0] [] rfl rfl rfl rfl (by decide) 0 (ci := 12) rfl rfl rfl hl.1 rfl (Nat.le_of_ble_eq_true rfl) dX12_countOf_88 ⟨Nat.le_of_ble_eq_true rfl, Nat.le_of_ble_eq_true rfl⟩ (fun r_8 u_9 H locs hw_10 hP hD hS => ?_)
    refine W.widen (k := 0) (n := 0) (by decide) (by decide) ?_
    have hw_10 : r_8 = 0 := hw_10
    subst hw_10
    have hP : va_P D classes [(mo, .inr (12, [.ref mpage, .int 0, .int 0, .int 0, .int 0, .int 0, .int 0, .int 0, .ref mkeys, .ref mvalues, .ref mheights, .ref mheats, .int 0, .ref msecondKeys, .ref msecondValues, .ref msecondHeights, .ref msecondHeats, .int 0, .int 0, .int 0, .int 0, .ref msaved, .ref mbestHeights, .int 0, .ref msights, .ref mby, .int 0, .int (-1), .int 0, .int 0, .int 0, .int 0, .int 0, .int 0, .ref mkeptKeys, .ref mkeptValues, .ref mkeptHeights, .ref mkeptHeats, .ref mkeptKeys2, .ref mkeptValues2, .ref mkeptHeights2, .ref mkeptHeats2, .ref mkeptSights, .long hh]))] H := hP
    have hD : va_D A [(mo, .inr (12, [.ref mpage, .int 0, .int 0, .int 0, .int 0, .int 0, .int 0, .int 0, .ref mkeys, .ref mvalues, .ref mheights, .ref mheats, .int 0, .ref msecondKeys, .ref msecondValues, .ref msecondHeights, .ref msecondHeats, .int 0, .int 0, .int 0, .int 0, .ref msaved, .ref mbestHeights, .int 0, .ref msights, .ref mby, .int 0, .int (-1), .int 0, .int 0, .int 0, .int 0, .int 0, .int 0, .ref mkeptKeys, .ref mkeptValues, .ref mkeptHeights, .ref mkeptHeats, .ref mkeptKeys2, .ref mkeptValues2, .ref mkeptHeights2, .ref mkeptHeats2, .ref mkeptSights, .long hh]))] := hD
    refine W.widen (k := 0) (n := 0) (by decide) (by decide) ?_
    exact wk_iret () hx hb hr hlocks (by decide) hK hP hD hS [0] rfl rfl dX12_countOf_91
  · refine lv_tableIn (off := 91) (tgt := 92) hx hb dX12_countOf_1 (by decide) (by decide) (by decide) (by decide) ?_
    have hl : lv_has ls 2 [(0, .ref mo), (1, .int 4)] := hl
    refine lv_aload_n hx hb dX12_countOf_92 rfl (lv_at hl 0 rfl) ?_
    refine lv_aload_n hx hb dX12_countOf_93 rfl (lv_at hl 0 rfl) ?_
    refine va_get (D := D) (ci := 12) (v := .ref mheats) (C := RX12) (T := TX12) (N := 44) hx hb htb inX12 hown hK hP 0 rfl rfl 11 (by decide) (htb _ tw_774) (fun _ h9 => h9) rfl dX12_countOf_94 ?_
    refine wk_iV (As := [.ref mheats]) (rest := []) (wc := [(mo, .inr (12, [.ref mpage, .int 0, .int 0, .int 0, .int 0, .int 0, .int 0, .int 0, .ref mkeys, .ref mvalues, .ref mheights, .ref mheats, .int 0, .ref msecondKeys, .ref msecondValues, .ref msecondHeights, .ref msecondHeats, .int 0, .int 0, .int 0, .int 0, .ref msaved, .ref mbestHeights, .int 0, .ref msights, .ref mby, .int 0, .int (-1), .int 0, .int 0, .int 0, .int 0, .int 0, .int 0, .ref mkeptKeys, .ref mkeptValues, .ref mkeptHeights, .ref mkeptHeats, .ref mkeptKeys2, .ref mkeptValues2, .ref mkeptHeights2, .ref mkeptHeats2, .ref mkeptSights, .long hh]))]) (wr := []) (n := 1) (R := _) ⟨hx, hb, hml, hown, htb⟩ (c_X12_sumOf l D cy mo mpage mkeys mvalues mheights mheats msecondKeys msecondValues msecondHeights msecondHeats msaved mbestHeights msights mby mkeptKeys mkeptValues mkeptHeights mkeptHeats mkeptKeys2 mkeptValues2 mkeptHeights2 mkeptHeats2 mkeptSights mheats  hh) tw_1194 tw_1191 tw_1193 tw_59 tw_71 rfl rfl (by decide +kernel) ⟨Nat.le_of_ble_eq_true rfl, Nat.le_of_ble_eq_true rfl⟩ hK hP hD hS hA [0] [] rfl rfl rfl rfl (by decide) 0 (ci := 12) rfl rfl rfl hl.1 rfl (Nat.le_of_ble_eq_true rfl) dX12_countOf_97 ⟨Nat.le_of_ble_eq_true rfl, Nat.le_of_ble_eq_true rfl⟩ (fun r_11 u_12 H locs hw_13 hP hD hS => ?_)
    refine W.widen (k := 0) (n := 0) (by decide) (by decide) ?_
    have hw_13 : r_11 = 0 := hw_13
    subst hw_13
    have hP : va_P D classes [(mo, .inr (12, [.ref mpage, .int 0, .int 0, .int 0, .int 0, .int 0, .int 0, .int 0, .ref mkeys, .ref mvalues, .ref mheights, .ref mheats, .int 0, .ref msecondKeys, .ref msecondValues, .ref msecondHeights, .ref msecondHeats, .int 0, .int 0, .int 0, .int 0, .ref msaved, .ref mbestHeights, .int 0, .ref msights, .ref mby, .int 0, .int (-1), .int 0, .int 0, .int 0, .int 0, .int 0, .int 0, .ref mkeptKeys, .ref mkeptValues, .ref mkeptHeights, .ref mkeptHeats, .ref mkeptKeys2, .ref mkeptValues2, .ref mkeptHeights2, .ref mkeptHeats2, .ref mkeptSights, .long hh]))] H := hP
    have hD : va_D A [(mo, .inr (12, [.ref mpage, .int 0, .int 0, .int 0, .int 0, .int 0, .int 0, .int 0, .ref mkeys, .ref mvalues, .ref mheights, .ref mheats, .int 0, .ref msecondKeys, .ref msecondValues, .ref msecondHeights, .ref msecondHeats, .int 0, .int 0, .int 0, .int 0, .ref msaved, .ref mbestHeights, .int 0, .ref msights, .ref mby, .int 0, .int (-1), .int 0, .int 0, .int 0, .int 0, .int 0, .int 0, .ref mkeptKeys, .ref mkeptValues, .ref mkeptHeights, .ref mkeptHeats, .ref mkeptKeys2, .ref mkeptValues2, .ref mkeptHeights2, .ref mkeptHeats2, .ref mkeptSights, .long hh]))] := hD
    refine W.widen (k := 0) (n := 0) (by decide) (by decide) ?_
    exact wk_iret () hx hb hr hlocks (by decide) hK hP hD hS [0] rfl rfl dX12_countOf_100
  · refine lv_tableIn (off := 100) (tgt := 101) hx hb dX12_countOf_1 (by decide) (by decide) (by decide) (by decide) ?_
    have hl : lv_has ls 2 [(0, .ref mo), (1, .int 5)] := hl
    refine lv_aload_n hx hb dX12_countOf_101 rfl (lv_at hl 0 rfl) ?_
    refine va_get (D := D) (ci := 12) (v := .int 0) (C := RX12) (T := TX12) (N := 44) hx hb htb inX12 hown hK hP 0 rfl rfl 12 (by decide) (htb _ tw_775) (fun _ h9 => h9) rfl dX12_countOf_102 ?_
    refine W.widen (k := 0) (n := 0) (by decide) (by decide) ?_
    exact wk_iret () hx hb hr hlocks (by decide) hK hP hD hS [0] rfl rfl dX12_countOf_105
  · refine lv_tableIn (off := 105) (tgt := 106) hx hb dX12_countOf_1 (by decide) (by decide) (by decide) (by decide) ?_
    have hl : lv_has ls 2 [(0, .ref mo), (1, .int 6)] := hl
    refine lv_aload_n hx hb dX12_countOf_106 rfl (lv_at hl 0 rfl) ?_
    refine va_get (D := D) (ci := 12) (v := .int 0) (C := RX12) (T := TX12) (N := 44) hx hb htb inX12 hown hK hP 0 rfl rfl 4 (by decide) (htb _ tw_767) (fun _ h9 => h9) rfl dX12_countOf_107 ?_
    refine W.widen (k := 0) (n := 0) (by decide) (by decide) ?_
    exact wk_iret () hx hb hr hlocks (by decide) hK hP hD hS [0] rfl rfl dX12_countOf_110
  · refine lv_tableIn (off := 110) (tgt := 111) hx hb dX12_countOf_1 (by decide) (by decide) (by decide) (by decide) ?_
    have hl : lv_has ls 2 [(0, .ref mo), (1, .int 7)] := hl
    refine lv_aload_n hx hb dX12_countOf_111 rfl (lv_at hl 0 rfl) ?_
    refine va_get (D := D) (ci := 12) (v := .int 0) (C := RX12) (T := TX12) (N := 44) hx hb htb inX12 hown hK hP 0 rfl rfl 5 (by decide) (htb _ tw_768) (fun _ h9 => h9) rfl dX12_countOf_112 ?_
    refine W.widen (k := 0) (n := 0) (by decide) (by decide) ?_
    exact wk_iret () hx hb hr hlocks (by decide) hK hP hD hS [0] rfl rfl dX12_countOf_115
  · refine lv_tableIn (off := 115) (tgt := 116) hx hb dX12_countOf_1 (by decide) (by decide) (by decide) (by decide) ?_
    have hl : lv_has ls 2 [(0, .ref mo), (1, .int 8)] := hl
    refine lv_aload_n hx hb dX12_countOf_116 rfl (lv_at hl 0 rfl) ?_
    refine va_get (D := D) (ci := 12) (v := .int 0) (C := RX12) (T := TX12) (N := 44) hx hb htb inX12 hown hK hP 0 rfl rfl 6 (by decide) (htb _ tw_769) (fun _ h9 => h9) rfl dX12_countOf_117 ?_
    refine W.widen (k := 0) (n := 0) (by decide) (by decide) ?_
    exact wk_iret () hx hb hr hlocks (by decide) hK hP hD hS [0] rfl rfl dX12_countOf_120
  · refine lv_tableIn (off := 120) (tgt := 121) hx hb dX12_countOf_1 (by decide) (by decide) (by decide) (by decide) ?_
    have hl : lv_has ls 2 [(0, .ref mo), (1, .int 9)] := hl
    refine lv_aload_n hx hb dX12_countOf_121 rfl (lv_at hl 0 rfl) ?_
    refine va_get (D := D) (ci := 12) (v := .int 0) (C := RX12) (T := TX12) (N := 44) hx hb htb inX12 hown hK hP 0 rfl rfl 23 (by decide) (htb _ tw_786) (fun _ h9 => h9) rfl dX12_countOf_122 ?_
    refine W.widen (k := 0) (n := 0) (by decide) (by decide) ?_
    exact wk_iret () hx hb hr hlocks (by decide) hK hP hD hS [0] rfl rfl dX12_countOf_125
  · refine lv_tableIn (off := 125) (tgt := 126) hx hb dX12_countOf_1 (by decide) (by decide) (by decide) (by decide) ?_
    have hl : lv_has ls 2 [(0, .ref mo), (1, .int 10)] := hl
    refine lv_aload_n hx hb dX12_countOf_126 rfl (lv_at hl 0 rfl) ?_
    refine va_get (D := D) (ci := 12) (v := .int 0) (C := RX12) (T := TX12) (N := 44) hx hb htb inX12 hown hK hP 0 rfl rfl 1 (by decide) (htb _ tw_764) (fun _ h9 => h9) rfl dX12_countOf_127 ?_
    refine W.widen (k := 0) (n := 0) (by decide) (by decide) ?_
    exact wk_iret () hx hb hr hlocks (by decide) hK hP hD hS [0] rfl rfl dX12_countOf_130
  · refine lv_tableIn (off := 130) (tgt := 131) hx hb dX12_countOf_1 (by decide) (by decide) (by decide) (by decide) ?_
    have hl : lv_has ls 2 [(0, .ref mo), (1, .int 11)] := hl
    refine lv_aload_n hx hb dX12_countOf_131 rfl (lv_at hl 0 rfl) ?_
    refine va_get (D := D) (ci := 12) (v := .int 0) (C := RX12) (T := TX12) (N := 44) hx hb htb inX12 hown hK hP 0 rfl rfl 7 (by decide) (htb _ tw_770) (fun _ h9 => h9) rfl dX12_countOf_132 ?_
    refine W.widen (k := 0) (n := 0) (by decide) (by decide) ?_
    exact wk_iret () hx hb hr hlocks (by decide) hK hP hD hS [0] rfl rfl dX12_countOf_135
  · refine lv_tableIn (off := 135) (tgt := 136) hx hb dX12_countOf_1 (by decide) (by decide) (by decide) (by decide) ?_
    have hl : lv_has ls 2 [(0, .ref mo), (1, .int 12)] := hl
    refine lv_aload_n hx hb dX12_countOf_136 rfl (lv_at hl 0 rfl) ?_
    refine va_get (D := D) (ci := 12) (v := .int 0) (C := RX12) (T := TX12) (N := 44) hx hb htb inX12 hown hK hP 0 rfl rfl 20 (by decide) (htb _ tw_783) (fun _ h9 => h9) rfl dX12_countOf_137 ?_
    refine W.widen (k := 0) (n := 0) (by decide) (by decide) ?_
    exact wk_iret () hx hb hr hlocks (by decide) hK hP hD hS [0] rfl rfl dX12_countOf_140
end
section
theorem dX12_letter_0 : decode cX12_letter 0 = .ok (.iload_n 1, 1) := by decide +kernel
theorem dX12_letter_1 : decode cX12_letter 1 = .ok (.i2l, 1) := by decide +kernel
theorem dX12_letter_2 : decode cX12_letter 2 = .ok (.lconst 1, 1) := by decide +kernel
theorem dX12_letter_3 : decode cX12_letter 3 = .ok (.ldc2_w 80, 3) := by decide +kernel
theorem dX12_letter_6 : decode cX12_letter 6 = .ok (.invokestatic 82, 3) := by decide +kernel
theorem dX12_letter_9 : decode cX12_letter 9 = .ok (.ifCond .ne 6, 3) := by decide +kernel
theorem dX12_letter_12 : decode cX12_letter 12 = .ok (.bipush (-102), 2) := by decide +kernel
theorem dX12_letter_14 : decode cX12_letter 14 = .ok (.ireturn, 1) := by decide +kernel
theorem dX12_letter_15 : decode cX12_letter 15 = .ok (.aload_n 0, 1) := by decide +kernel
theorem dX12_letter_16 : decode cX12_letter 16 = .ok (.getfield 86, 3) := by decide +kernel
theorem dX12_letter_19 : decode cX12_letter 19 = .ok (.bipush 44, 2) := by decide +kernel
theorem dX12_letter_21 : decode cX12_letter 21 = .ok (.if_icmp .ne 6, 3) := by decide +kernel
theorem dX12_letter_27 : decode cX12_letter 27 = .ok (.aload_n 0, 1) := by decide +kernel
theorem dX12_letter_28 : decode cX12_letter 28 = .ok (.getfield 7, 3) := by decide +kernel
theorem dX12_letter_31 : decode cX12_letter 31 = .ok (.aload_n 0, 1) := by decide +kernel
theorem dX12_letter_32 : decode cX12_letter 32 = .ok (.getfield 86, 3) := by decide +kernel
theorem dX12_letter_35 : decode cX12_letter 35 = .ok (.iload_n 1, 1) := by decide +kernel
theorem dX12_letter_36 : decode cX12_letter 36 = .ok (.iastore, 1) := by decide +kernel
theorem dX12_letter_37 : decode cX12_letter 37 = .ok (.aload_n 0, 1) := by decide +kernel
theorem dX12_letter_38 : decode cX12_letter 38 = .ok (.dup, 1) := by decide +kernel
theorem dX12_letter_39 : decode cX12_letter 39 = .ok (.getfield 86, 3) := by decide +kernel
theorem dX12_letter_42 : decode cX12_letter 42 = .ok (.iconst 1, 1) := by decide +kernel
theorem dX12_letter_43 : decode cX12_letter 43 = .ok (.iadd, 1) := by decide +kernel
theorem dX12_letter_44 : decode cX12_letter 44 = .ok (.putfield 86, 3) := by decide +kernel
theorem dX12_letter_47 : decode cX12_letter 47 = .ok (.aload_n 0, 1) := by decide +kernel
theorem dX12_letter_48 : decode cX12_letter 48 = .ok (.getfield 86, 3) := by decide +kernel
theorem dX12_letter_51 : decode cX12_letter 51 = .ok (.ireturn, 1) := by decide +kernel
set_option maxHeartbeats 4000000 in
set_option maxRecDepth 100000 in
theorem c_X12_letter (l : Launch) (D : va_G) (cy : ClassId) (mo mpage mkeys mvalues mheights mheats msecondKeys msecondValues msecondHeights msecondHeats msaved mbestHeights msights mby mkeptKeys mkeptValues mkeptHeights mkeptHeats mkeptKeys2 mkeptValues2 mkeptHeights2 mkeptHeats2 mkeptSights : Nat) (a : Int32) (hh : Int64) : wk_Ci l yX12_letter cX12_letter 2 (some .int) { frames := 1, cells := 0, slots := 0, locals := 25 } D cy [.ref mo, .int a] [(mo, .inr (12, [.ref mpage, .int 0, .int 0, .int 0, .int 0, .int 0, .int 0, .int 0, .ref mkeys, .ref mvalues, .ref mheights, .ref mheats, .int 0, .ref msecondKeys, .ref msecondValues, .ref msecondHeights, .ref msecondHeats, .int 0, .int 0, .int 0, .int 0, .ref msaved, .ref mbestHeights, .int 0, .ref msights, .ref mby, .int 0, .int (-1), .int 0, .int 0, .int 0, .int 0, .int 0, .int 0, .ref mkeptKeys, .ref mkeptValues, .ref mkeptHeights, .ref mkeptHeats, .ref mkeptKeys2, .ref mkeptValues2, .ref mkeptHeights2, .ref mkeptHeats2, .ref mkeptSights, .long hh])), (mpage, .inl (cy, 44, .inl (fun _ => 0)))] 0 0 (fun (r : Int32) (u : Unit) => r = if (1 ≤ a.toInt ∧ a.toInt ≤ 126) then 1 else (-102)) (fun u => []) := by
  refine wk_mkCi (by decide) (Nat.le_of_ble_eq_true rfl) ?_
  intro p e s m below meth c A ls B hA hK hP hD hS hl
  obtain ⟨hx, hb, hr, hlocks, hml, hown, htb, hin⟩ := B
  have hl : lv_has ls 2 [(0, .ref mo), (1, .int a)] := hl
  refine lv_iload_n hx hb dX12_letter_0 rfl (lv_at hl 1 rfl) ?_
  refine lv_i2l (v := a.toInt64) hx hb dX12_letter_1 rfl ?_
  refine lv_lconst (v := 1) hx hb dX12_letter_2 (by decide) ?_
  refine lv_ldc2 (v := 126) hx hb hown (htb _ tw_900) dX12_letter_3 ?_
  refine wk_iS (As := [.long a.toInt64, .long 1, .long 126]) (rest := []) (wc := []) (wr := [(mo, .inr (12, [.ref mpage, .int 0, .int 0, .int 0, .int 0, .int 0, .int 0, .int 0, .ref mkeys, .ref mvalues, .ref mheights, .ref mheats, .int 0, .ref msecondKeys, .ref msecondValues, .ref msecondHeights, .ref msecondHeats, .int 0, .int 0, .int 0, .int 0, .ref msaved, .ref mbestHeights, .int 0, .ref msights, .ref mby, .int 0, .int (-1), .int 0, .int 0, .int 0, .int 0, .int 0, .int 0, .ref mkeptKeys, .ref mkeptValues, .ref mkeptHeights, .ref mkeptHeats, .ref mkeptKeys2, .ref mkeptValues2, .ref mkeptHeights2, .ref mkeptHeats2, .ref mkeptSights, .long hh])), (mpage, .inl (cy, 44, .inl (fun _ => 0)))]) (n := 3) (R := _) ⟨hx, hb, hml, hown, htb⟩ (c_X12_in l D cy   a.toInt64 1 126) tw_903 tw_901 tw_902 tw_71 rfl rfl (by decide +kernel) ⟨Nat.le_of_ble_eq_true rfl, Nat.le_of_ble_eq_true rfl⟩ hK hP hD hS hA [] [0, 1] rfl rfl rfl rfl (by decide) rfl hl.1 rfl (Nat.le_of_ble_eq_true rfl) dX12_letter_6 ⟨Nat.le_of_ble_eq_true rfl, Nat.le_of_ble_eq_true rfl⟩ (fun r_1 u_2 H locs hw_3 hP hD hS => ?_)
  refine W.widen (k := 0) (n := 0) (by decide) (by decide) ?_
  have hw_3 : r_1 = wk_in a.toInt64 1 126 := hw_3
  subst hw_3
  have hP : va_P D classes [(mo, .inr (12, [.ref mpage, .int 0, .int 0, .int 0, .int 0, .int 0, .int 0, .int 0, .ref mkeys, .ref mvalues, .ref mheights, .ref mheats, .int 0, .ref msecondKeys, .ref msecondValues, .ref msecondHeights, .ref msecondHeats, .int 0, .int 0, .int 0, .int 0, .ref msaved, .ref mbestHeights, .int 0, .ref msights, .ref mby, .int 0, .int (-1), .int 0, .int 0, .int 0, .int 0, .int 0, .int 0, .ref mkeptKeys, .ref mkeptValues, .ref mkeptHeights, .ref mkeptHeats, .ref mkeptKeys2, .ref mkeptValues2, .ref mkeptHeights2, .ref mkeptHeats2, .ref mkeptSights, .long hh])), (mpage, .inl (cy, 44, .inl (fun _ => 0)))] H := hP
  have hD : va_D A [(mo, .inr (12, [.ref mpage, .int 0, .int 0, .int 0, .int 0, .int 0, .int 0, .int 0, .ref mkeys, .ref mvalues, .ref mheights, .ref mheats, .int 0, .ref msecondKeys, .ref msecondValues, .ref msecondHeights, .ref msecondHeats, .int 0, .int 0, .int 0, .int 0, .ref msaved, .ref mbestHeights, .int 0, .ref msights, .ref mby, .int 0, .int (-1), .int 0, .int 0, .int 0, .int 0, .int 0, .int 0, .ref mkeptKeys, .ref mkeptValues, .ref mkeptHeights, .ref mkeptHeats, .ref mkeptKeys2, .ref mkeptValues2, .ref mkeptHeights2, .ref mkeptHeats2, .ref mkeptSights, .long hh])), (mpage, .inl (cy, 44, .inl (fun _ => 0)))] := hD
  refine lv_if_ne (tgt := 15) hx hb dX12_letter_9 (by decide) (fun c_4 => ?_) (fun c_4 => ?_)
  · have k_4 : 1 ≤ a.toInt ∧ a.toInt ≤ 126 := by have h9 := wk_in1 c_4; simp only [wk_64] at h9; exact h9
    refine lv_aload_n hx hb dX12_letter_15 rfl (lv_at hl 0 rfl) ?_
    refine va_get (D := D) (ci := 12) (v := .int 0) (C := RX12) (T := TX12) (N := 44) hx hb htb inX12 hown hK hP 0 rfl rfl 1 (by decide) (htb _ tw_764) (fun _ h9 => h9) rfl dX12_letter_16 ?_
    refine lv_bipush (v := 44) hx hb dX12_letter_19 (by decide) ?_
    refine lv_icmp_ne (tgt := 27) hx hb dX12_letter_21 (by decide) (fun _ => ?_) (fun c_5 => absurd c_5 (by decide))
    refine lv_aload_n hx hb dX12_letter_27 rfl (lv_at hl 0 rfl) ?_
    refine va_get (D := D) (ci := 12) (v := .ref mpage) (C := RX12) (T := TX12) (N := 44) hx hb htb inX12 hown hK hP 0 rfl rfl 0 (by decide) (htb _ tw_763) (fun _ h9 => h9) rfl dX12_letter_28 ?_
    refine lv_aload_n hx hb dX12_letter_31 rfl (lv_at hl 0 rfl) ?_
    refine va_get (D := D) (ci := 12) (v := .int 0) (C := RX12) (T := TX12) (N := 44) hx hb htb inX12 hown hK hP 0 rfl rfl 1 (by decide) (htb _ tw_764) (fun _ h9 => h9) rfl dX12_letter_32 ?_
    refine lv_iload_n hx hb dX12_letter_35 rfl (lv_at hl 1 rfl) ?_
    refine va_iast hx hb hK hP hD hS 1 0 rfl rfl (show vp_in 0 44 by unfold vp_in; decide) dX12_letter_36 (fun H locs hP hD hS => ?_)
    have hP : va_P D classes [(mo, .inr (12, [.ref mpage, .int 0, .int 0, .int 0, .int 0, .int 0, .int 0, .int 0, .ref mkeys, .ref mvalues, .ref mheights, .ref mheats, .int 0, .ref msecondKeys, .ref msecondValues, .ref msecondHeights, .ref msecondHeats, .int 0, .int 0, .int 0, .int 0, .ref msaved, .ref mbestHeights, .int 0, .ref msights, .ref mby, .int 0, .int (-1), .int 0, .int 0, .int 0, .int 0, .int 0, .int 0, .ref mkeptKeys, .ref mkeptValues, .ref mkeptHeights, .ref mkeptHeats, .ref mkeptKeys2, .ref mkeptValues2, .ref mkeptHeights2, .ref mkeptHeats2, .ref mkeptSights, .long hh])), (mpage, .inl (cy, 44, .inl (upd (fun _ => 0) (0 : Int32).toNatClampNeg a)))] H := hP
    have hD : va_D A [(mo, .inr (12, [.ref mpage, .int 0, .int 0, .int 0, .int 0, .int 0, .int 0, .int 0, .ref mkeys, .ref mvalues, .ref mheights, .ref mheats, .int 0, .ref msecondKeys, .ref msecondValues, .ref msecondHeights, .ref msecondHeats, .int 0, .int 0, .int 0, .int 0, .ref msaved, .ref mbestHeights, .int 0, .ref msights, .ref mby, .int 0, .int (-1), .int 0, .int 0, .int 0, .int 0, .int 0, .int 0, .ref mkeptKeys, .ref mkeptValues, .ref mkeptHeights, .ref mkeptHeats, .ref mkeptKeys2, .ref mkeptValues2, .ref mkeptHeights2, .ref mkeptHeats2, .ref mkeptSights, .long hh])), (mpage, .inl (cy, 44, .inl (upd (fun _ => 0) (0 : Int32).toNatClampNeg a)))] := hD
    refine lv_aload_n hx hb dX12_letter_37 rfl (lv_at hl 0 rfl) ?_
    refine lv_dup hx hb dX12_letter_38 rfl ?_
    refine va_get (D := D) (ci := 12) (v := .int 0) (C := RX12) (T := TX12) (N := 44) hx hb htb inX12 hown hK hP 0 rfl rfl 1 (by decide) (htb _ tw_764) (fun _ h9 => h9) rfl dX12_letter_39 ?_
    refine lv_iconst (v := 1) hx hb dX12_letter_42 (by decide) ?_
    refine lv_iadd hx hb dX12_letter_43 ?_
    refine wk_toi (show ((0 + 1) : Int32) = 1 by decide) ?_
    refine va_put (D := D) (ci := 12) (v := .int 1) (ty := .int) (C := RX12) (T := TX12) (N := 44) hx hb htb inX12 tyX12 tyX12_ok nmX12 hown hK hP hD hS 0 rfl rfl 1 (by decide) (htb _ tw_764) (fun _ h9 => h9) rfl (by decide +kernel) rfl rfl (Nat.le_of_ble_eq_true rfl) dX12_letter_44 (fun H locs hP hD hS => ?_)
    have hP : va_P D classes [(mo, .inr (12, [.ref mpage, .int 1, .int 0, .int 0, .int 0, .int 0, .int 0, .int 0, .ref mkeys, .ref mvalues, .ref mheights, .ref mheats, .int 0, .ref msecondKeys, .ref msecondValues, .ref msecondHeights, .ref msecondHeats, .int 0, .int 0, .int 0, .int 0, .ref msaved, .ref mbestHeights, .int 0, .ref msights, .ref mby, .int 0, .int (-1), .int 0, .int 0, .int 0, .int 0, .int 0, .int 0, .ref mkeptKeys, .ref mkeptValues, .ref mkeptHeights, .ref mkeptHeats, .ref mkeptKeys2, .ref mkeptValues2, .ref mkeptHeights2, .ref mkeptHeats2, .ref mkeptSights, .long hh])), (mpage, .inl (cy, 44, .inl (upd (fun _ => 0) (0 : Int32).toNatClampNeg a)))] H := hP
    have hD : va_D A [(mo, .inr (12, [.ref mpage, .int 1, .int 0, .int 0, .int 0, .int 0, .int 0, .int 0, .ref mkeys, .ref mvalues, .ref mheights, .ref mheats, .int 0, .ref msecondKeys, .ref msecondValues, .ref msecondHeights, .ref msecondHeats, .int 0, .int 0, .int 0, .int 0, .ref msaved, .ref mbestHeights, .int 0, .ref msights, .ref mby, .int 0, .int (-1), .int 0, .int 0, .int 0, .int 0, .int 0, .int 0, .ref mkeptKeys, .ref mkeptValues, .ref mkeptHeights, .ref mkeptHeats, .ref mkeptKeys2, .ref mkeptValues2, .ref mkeptHeights2, .ref mkeptHeats2, .ref mkeptSights, .long hh])), (mpage, .inl (cy, 44, .inl (upd (fun _ => 0) (0 : Int32).toNatClampNeg a)))] := hD
    refine lv_aload_n hx hb dX12_letter_47 rfl (lv_at hl 0 rfl) ?_
    refine va_get (D := D) (ci := 12) (v := .int 1) (C := RX12) (T := TX12) (N := 44) hx hb htb inX12 hown hK hP 0 rfl rfl 1 (by decide) (htb _ tw_764) (fun _ h9 => h9) rfl dX12_letter_48 ?_
    refine W.widen (k := 0) (n := 0) (by decide) (by decide) ?_
    exact wk_iret () hx hb hr hlocks (if_pos (by omega)).symm hK hP hD hS [] rfl rfl dX12_letter_51
  · have k_4 : ¬ (1 ≤ a.toInt ∧ a.toInt ≤ 126) := by have h9 := wk_in0 c_4; simp only [wk_64] at h9; exact h9
    refine lv_bipush (v := (-102)) hx hb dX12_letter_12 (by decide) ?_
    refine W.widen (k := 0) (n := 0) (by decide) (by decide) ?_
    exact wk_iret () hx hb hr hlocks (if_neg (by omega)).symm hK hP hD hS [] rfl rfl dX12_letter_14
theorem dX12_blank_0 : decode cX12_blank 0 = .ok (.aload_n 0, 1) := by decide +kernel
theorem dX12_blank_1 : decode cX12_blank 1 = .ok (.getfield 86, 3) := by decide +kernel
theorem dX12_blank_4 : decode cX12_blank 4 = .ok (.istore_n 1, 1) := by decide +kernel
theorem dX12_blank_5 : decode cX12_blank 5 = .ok (.aload_n 0, 1) := by decide +kernel
theorem dX12_blank_6 : decode cX12_blank 6 = .ok (.iconst 0, 1) := by decide +kernel
theorem dX12_blank_7 : decode cX12_blank 7 = .ok (.putfield 86, 3) := by decide +kernel
theorem dX12_blank_10 : decode cX12_blank 10 = .ok (.iload_n 1, 1) := by decide +kernel
theorem dX12_blank_11 : decode cX12_blank 11 = .ok (.ireturn, 1) := by decide +kernel
set_option maxHeartbeats 4000000 in
set_option maxRecDepth 100000 in
theorem c_X12_blank (l : Launch) (D : va_G) (cy : ClassId) (mo mpage mkeys mvalues mheights mheats msecondKeys msecondValues msecondHeights msecondHeats msaved mbestHeights msights mby mkeptKeys mkeptValues mkeptHeights mkeptHeats mkeptKeys2 mkeptValues2 mkeptHeights2 mkeptHeats2 mkeptSights : Nat) (hh : Int64) : wk_Ci l yX12_blank cX12_blank 2 (some .int) { frames := 0, cells := 0, slots := 0, locals := 0 } D cy [.ref mo] [(mo, .inr (12, [.ref mpage, .int 0, .int 0, .int 0, .int 0, .int 0, .int 0, .int 0, .ref mkeys, .ref mvalues, .ref mheights, .ref mheats, .int 0, .ref msecondKeys, .ref msecondValues, .ref msecondHeights, .ref msecondHeats, .int 0, .int 0, .int 0, .int 0, .ref msaved, .ref mbestHeights, .int 0, .ref msights, .ref mby, .int 0, .int (-1), .int 0, .int 0, .int 0, .int 0, .int 0, .int 0, .ref mkeptKeys, .ref mkeptValues, .ref mkeptHeights, .ref mkeptHeats, .ref mkeptKeys2, .ref mkeptValues2, .ref mkeptHeights2, .ref mkeptHeats2, .ref mkeptSights, .long hh]))] 0 0 (fun (r : Int32) (u : Unit) => r = 0) (fun u => []) := by
  refine wk_mkCi (by decide) (Nat.le_of_ble_eq_true rfl) ?_
  intro p e s m below meth c A ls B hA hK hP hD hS hl
  obtain ⟨hx, hb, hr, hlocks, hml, hown, htb, hin⟩ := B
  have hl : lv_has ls 2 [(0, .ref mo)] := hl
  refine lv_aload_n hx hb dX12_blank_0 rfl (lv_at hl 0 rfl) ?_
  refine va_get (D := D) (ci := 12) (v := .int 0) (C := RX12) (T := TX12) (N := 44) hx hb htb inX12 hown hK hP 0 rfl rfl 1 (by decide) (htb _ tw_764) (fun _ h9 => h9) rfl dX12_blank_1 ?_
  refine lv_istore_n (lv' := [(1, .int 0), (0, .ref mo)]) hx hb dX12_blank_4 rfl hl (by decide) rfl (fun ls hl => ?_)
  refine lv_aload_n hx hb dX12_blank_5 rfl (lv_at hl 1 rfl) ?_
  refine lv_iconst (v := 0) hx hb dX12_blank_6 (by decide) ?_
  refine va_put (D := D) (ci := 12) (v := .int 0) (ty := .int) (C := RX12) (T := TX12) (N := 44) hx hb htb inX12 tyX12 tyX12_ok nmX12 hown hK hP hD hS 0 rfl rfl 1 (by decide) (htb _ tw_764) (fun _ h9 => h9) rfl (by decide +kernel) rfl rfl (Nat.le_of_ble_eq_true rfl) dX12_blank_7 (fun H locs hP hD hS => ?_)
  have hP : va_P D classes [(mo, .inr (12, [.ref mpage, .int 0, .int 0, .int 0, .int 0, .int 0, .int 0, .int 0, .ref mkeys, .ref mvalues, .ref mheights, .ref mheats, .int 0, .ref msecondKeys, .ref msecondValues, .ref msecondHeights, .ref msecondHeats, .int 0, .int 0, .int 0, .int 0, .ref msaved, .ref mbestHeights, .int 0, .ref msights, .ref mby, .int 0, .int (-1), .int 0, .int 0, .int 0, .int 0, .int 0, .int 0, .ref mkeptKeys, .ref mkeptValues, .ref mkeptHeights, .ref mkeptHeats, .ref mkeptKeys2, .ref mkeptValues2, .ref mkeptHeights2, .ref mkeptHeats2, .ref mkeptSights, .long hh]))] H := hP
  have hD : va_D A [(mo, .inr (12, [.ref mpage, .int 0, .int 0, .int 0, .int 0, .int 0, .int 0, .int 0, .ref mkeys, .ref mvalues, .ref mheights, .ref mheats, .int 0, .ref msecondKeys, .ref msecondValues, .ref msecondHeights, .ref msecondHeats, .int 0, .int 0, .int 0, .int 0, .ref msaved, .ref mbestHeights, .int 0, .ref msights, .ref mby, .int 0, .int (-1), .int 0, .int 0, .int 0, .int 0, .int 0, .int 0, .ref mkeptKeys, .ref mkeptValues, .ref mkeptHeights, .ref mkeptHeats, .ref mkeptKeys2, .ref mkeptValues2, .ref mkeptHeights2, .ref mkeptHeats2, .ref mkeptSights, .long hh]))] := hD
  refine lv_iload_n hx hb dX12_blank_10 rfl (lv_at hl 0 rfl) ?_
  refine W.widen (k := 0) (n := 0) (by decide) (by decide) ?_
  exact wk_iret () hx hb hr hlocks rfl hK hP hD hS [] rfl rfl dX12_blank_11
theorem dX12_fault_0 : decode cX12_fault 0 = .ok (.aload_n 0, 1) := by decide +kernel
theorem dX12_fault_1 : decode cX12_fault 1 = .ok (.invokevirtual 115, 3) := by decide +kernel
theorem dX12_fault_4 : decode cX12_fault 4 = .ok (.ireturn, 1) := by decide +kernel
set_option maxHeartbeats 4000000 in
set_option maxRecDepth 100000 in
theorem c_X12_fault (l : Launch) (D : va_G) (cy : ClassId) (mo mpage mkeys mvalues mheights mheats msecondKeys msecondValues msecondHeights msecondHeats msaved mbestHeights msights mby mkeptKeys mkeptValues mkeptHeights mkeptHeats mkeptKeys2 mkeptValues2 mkeptHeights2 mkeptHeats2 mkeptSights : Nat) (hh : Int64) : wk_Ci l yX12_fault cX12_fault 1 (some .int) { frames := 1, cells := 0, slots := 0, locals := 21 } D cy [.ref mo] [(mo, .inr (12, [.ref mpage, .int 0, .int 0, .int 0, .int 0, .int 0, .int 0, .int 0, .ref mkeys, .ref mvalues, .ref mheights, .ref mheats, .int 0, .ref msecondKeys, .ref msecondValues, .ref msecondHeights, .ref msecondHeats, .int 0, .int 0, .int 0, .int 0, .ref msaved, .ref mbestHeights, .int 0, .ref msights, .ref mby, .int 0, .int (-1), .int 0, .int 0, .int 0, .int 0, .int 0, .int 0, .ref mkeptKeys, .ref mkeptValues, .ref mkeptHeights, .ref mkeptHeats, .ref mkeptKeys2, .ref mkeptValues2, .ref mkeptHeights2, .ref mkeptHeats2, .ref mkeptSights, .long hh]))] 0 0 (fun (r : Int32) (u : Unit) => r = 0) (fun u => [(mo, .inr (12, [.ref mpage, .int 0, .int 0, .int 0, .int 0, .int 0, .int 0, .int 0, .ref mkeys, .ref mvalues, .ref mheights, .ref mheats, .int 0, .ref msecondKeys, .ref msecondValues, .ref msecondHeights, .ref msecondHeats, .int 0, .int 0, .int 0, .int 0, .ref msaved, .ref mbestHeights, .int 0, .ref msights, .ref mby, .int 0, .int (-1), .int 0, .int 0, .int 0, .int 0, .int 0, .int 0, .ref mkeptKeys, .ref mkeptValues, .ref mkeptHeights, .ref mkeptHeats, .ref mkeptKeys2, .ref mkeptValues2, .ref mkeptHeights2, .ref mkeptHeats2, .ref mkeptSights, .long hh]))]) := by
  refine wk_mkCi (by decide) (Nat.le_of_ble_eq_true rfl) ?_
  intro p e s m below meth c A ls B hA hK hP hD hS hl
  obtain ⟨hx, hb, hr, hlocks, hml, hown, htb, hin⟩ := B
  have hl : lv_has ls 1 [(0, .ref mo)] := hl
  refine lv_aload_n hx hb dX12_fault_0 rfl (lv_at hl 0 rfl) ?_
  refine wk_iV (As := []) (rest := []) (wc := [(mo, .inr (12, [.ref mpage, .int 0, .int 0, .int 0, .int 0, .int 0, .int 0, .int 0, .ref mkeys, .ref mvalues, .ref mheights, .ref mheats, .int 0, .ref msecondKeys, .ref msecondValues, .ref msecondHeights, .ref msecondHeats, .int 0, .int 0, .int 0, .int 0, .ref msaved, .ref mbestHeights, .int 0, .ref msights, .ref mby, .int 0, .int (-1), .int 0, .int 0, .int 0, .int 0, .int 0, .int 0, .ref mkeptKeys, .ref mkeptValues, .ref mkeptHeights, .ref mkeptHeats, .ref mkeptKeys2, .ref mkeptValues2, .ref mkeptHeights2, .ref mkeptHeats2, .ref mkeptSights, .long hh]))]) (wr := []) (n := 0) (R := _) ⟨hx, hb, hml, hown, htb⟩ (c_X12_faultOf l D cy mo mpage mkeys mvalues mheights mheats msecondKeys msecondValues msecondHeights msecondHeats msaved mbestHeights msights mby mkeptKeys mkeptValues mkeptHeights mkeptHeats mkeptKeys2 mkeptValues2 mkeptHeights2 mkeptHeats2 mkeptSights  hh) tw_915 tw_912 tw_914 tw_22 tw_71 rfl rfl (by decide +kernel) ⟨Nat.le_of_ble_eq_true rfl, Nat.le_of_ble_eq_true rfl⟩ hK hP hD hS hA [0] [] rfl rfl rfl rfl (by decide) 0 (ci := 12) rfl rfl rfl hl.1 rfl (Nat.le_of_ble_eq_true rfl) dX12_fault_1 ⟨Nat.le_of_ble_eq_true rfl, Nat.le_of_ble_eq_true rfl⟩ (fun r_1 u_2 H locs hw_3 hP hD hS => ?_)
  refine W.widen (k := 0) (n := 0) (by decide) (by decide) ?_
  have hw_3 : r_1 = 0 := hw_3
  subst hw_3
  have hP : va_P D classes [(mo, .inr (12, [.ref mpage, .int 0, .int 0, .int 0, .int 0, .int 0, .int 0, .int 0, .ref mkeys, .ref mvalues, .ref mheights, .ref mheats, .int 0, .ref msecondKeys, .ref msecondValues, .ref msecondHeights, .ref msecondHeats, .int 0, .int 0, .int 0, .int 0, .ref msaved, .ref mbestHeights, .int 0, .ref msights, .ref mby, .int 0, .int (-1), .int 0, .int 0, .int 0, .int 0, .int 0, .int 0, .ref mkeptKeys, .ref mkeptValues, .ref mkeptHeights, .ref mkeptHeats, .ref mkeptKeys2, .ref mkeptValues2, .ref mkeptHeights2, .ref mkeptHeats2, .ref mkeptSights, .long hh]))] H := hP
  have hD : va_D A [(mo, .inr (12, [.ref mpage, .int 0, .int 0, .int 0, .int 0, .int 0, .int 0, .int 0, .ref mkeys, .ref mvalues, .ref mheights, .ref mheats, .int 0, .ref msecondKeys, .ref msecondValues, .ref msecondHeights, .ref msecondHeats, .int 0, .int 0, .int 0, .int 0, .ref msaved, .ref mbestHeights, .int 0, .ref msights, .ref mby, .int 0, .int (-1), .int 0, .int 0, .int 0, .int 0, .int 0, .int 0, .ref mkeptKeys, .ref mkeptValues, .ref mkeptHeights, .ref mkeptHeats, .ref mkeptKeys2, .ref mkeptValues2, .ref mkeptHeights2, .ref mkeptHeats2, .ref mkeptSights, .long hh]))] := hD
  refine W.widen (k := 0) (n := 0) (by decide) (by decide) ?_
  exact wk_iret () hx hb hr hlocks rfl hK hP hD hS [0] rfl rfl dX12_fault_4
theorem dX12_row_0 : decode cX12_row 0 = .ok (.aload_n 0, 1) := by decide +kernel
theorem dX12_row_1 : decode cX12_row 1 = .ok (.getfield 86, 3) := by decide +kernel
theorem dX12_row_4 : decode cX12_row 4 = .ok (.iconst 2, 1) := by decide +kernel
theorem dX12_row_5 : decode cX12_row 5 = .ok (.aload_n 0, 1) := by decide +kernel
theorem dX12_row_6 : decode cX12_row 6 = .ok (.invokevirtual 89, 3) := by decide +kernel
theorem dX12_row_9 : decode cX12_row 9 = .ok (.imul, 1) := by decide +kernel
theorem dX12_row_10 : decode cX12_row 10 = .ok (.if_icmp .le 32, 3) := by decide +kernel
theorem dX12_row_42 : decode cX12_row 42 = .ok (.iconst 0, 1) := by decide +kernel
theorem dX12_row_43 : decode cX12_row 43 = .ok (.istore_n 1, 1) := by decide +kernel
theorem dX12_row_44 : decode cX12_row 44 = .ok (.iload_n 1, 1) := by decide +kernel
theorem dX12_row_45 : decode cX12_row 45 = .ok (.ifCond .ne 6, 3) := by decide +kernel
theorem dX12_row_48 : decode cX12_row 48 = .ok (.bipush (-103), 2) := by decide +kernel
theorem dX12_row_50 : decode cX12_row 50 = .ok (.ireturn, 1) := by decide +kernel
set_option maxHeartbeats 4000000 in
set_option maxRecDepth 100000 in
theorem c_X12_row (l : Launch) (D : va_G) (cy : ClassId) (mo mpage mkeys mvalues mheights mheats msecondKeys msecondValues msecondHeights msecondHeats msaved mbestHeights msights mby mkeptKeys mkeptValues mkeptHeights mkeptHeats mkeptKeys2 mkeptValues2 mkeptHeights2 mkeptHeats2 mkeptSights : Nat) (hh : Int64) : wk_Ci l yX12_row cX12_row 4 (some .int) { frames := 1, cells := 0, slots := 0, locals := 20 } D cy [.ref mo] [(mo, .inr (12, [.ref mpage, .int 0, .int 0, .int 0, .int 0, .int 0, .int 0, .int 0, .ref mkeys, .ref mvalues, .ref mheights, .ref mheats, .int 0, .ref msecondKeys, .ref msecondValues, .ref msecondHeights, .ref msecondHeats, .int 0, .int 0, .int 0, .int 0, .ref msaved, .ref mbestHeights, .int 0, .ref msights, .ref mby, .int 0, .int (-1), .int 0, .int 0, .int 0, .int 0, .int 0, .int 0, .ref mkeptKeys, .ref mkeptValues, .ref mkeptHeights, .ref mkeptHeats, .ref mkeptKeys2, .ref mkeptValues2, .ref mkeptHeights2, .ref mkeptHeats2, .ref mkeptSights, .long hh])), (mpage, .inl (cy, 44, .inl (fun _ => 0)))] 0 0 (fun (r : Int32) (u : Unit) => r = (-103)) (fun u => [(mo, .inr (12, [.ref mpage, .int 0, .int 0, .int 0, .int 0, .int 0, .int 0, .int 0, .ref mkeys, .ref mvalues, .ref mheights, .ref mheats, .int 0, .ref msecondKeys, .ref msecondValues, .ref msecondHeights, .ref msecondHeats, .int 0, .int 0, .int 0, .int 0, .ref msaved, .ref mbestHeights, .int 0, .ref msights, .ref mby, .int 0, .int (-1), .int 0, .int 0, .int 0, .int 0, .int 0, .int 0, .ref mkeptKeys, .ref mkeptValues, .ref mkeptHeights, .ref mkeptHeats, .ref mkeptKeys2, .ref mkeptValues2, .ref mkeptHeights2, .ref mkeptHeats2, .ref mkeptSights, .long hh])), (mpage, .inl (cy, 44, .inl (fun _ => 0)))]) := by
  refine wk_mkCi (by decide) (Nat.le_of_ble_eq_true rfl) ?_
  intro p e s m below meth c A ls B hA hK hP hD hS hl
  obtain ⟨hx, hb, hr, hlocks, hml, hown, htb, hin⟩ := B
  have hl : lv_has ls 4 [(0, .ref mo)] := hl
  refine lv_aload_n hx hb dX12_row_0 rfl (lv_at hl 0 rfl) ?_
  refine va_get (D := D) (ci := 12) (v := .int 0) (C := RX12) (T := TX12) (N := 44) hx hb htb inX12 hown hK hP 0 rfl rfl 1 (by decide) (htb _ tw_764) (fun _ h9 => h9) rfl dX12_row_1 ?_
  refine lv_iconst (v := 2) hx hb dX12_row_4 (by decide) ?_
  refine lv_aload_n hx hb dX12_row_5 rfl (lv_at hl 0 rfl) ?_
  refine wk_iV (As := []) (rest := [.int 2, .int 0]) (wc := [(mo, .inr (12, [.ref mpage, .int 0, .int 0, .int 0, .int 0, .int 0, .int 0, .int 0, .ref mkeys, .ref mvalues, .ref mheights, .ref mheats, .int 0, .ref msecondKeys, .ref msecondValues, .ref msecondHeights, .ref msecondHeats, .int 0, .int 0, .int 0, .int 0, .ref msaved, .ref mbestHeights, .int 0, .ref msights, .ref mby, .int 0, .int (-1), .int 0, .int 0, .int 0, .int 0, .int 0, .int 0, .ref mkeptKeys, .ref mkeptValues, .ref mkeptHeights, .ref mkeptHeats, .ref mkeptKeys2, .ref mkeptValues2, .ref mkeptHeights2, .ref mkeptHeats2, .ref mkeptSights, .long hh])), (mpage, .inl (cy, 44, .inl (fun _ => 0)))]) (wr := []) (n := 0) (R := _) ⟨hx, hb, hml, hown, htb⟩ (c_X12_wide l D cy mo mpage mkeys mvalues mheights mheats msecondKeys msecondValues msecondHeights msecondHeats msaved mbestHeights msights mby mkeptKeys mkeptValues mkeptHeights mkeptHeats mkeptKeys2 mkeptValues2 mkeptHeights2 mkeptHeats2 mkeptSights  hh) tw_930 tw_927 tw_929 tw_25 tw_71 rfl rfl (by decide +kernel) ⟨Nat.le_of_ble_eq_true rfl, Nat.le_of_ble_eq_true rfl⟩ hK hP hD hS hA [0, 1] [] rfl rfl rfl rfl (by decide) 0 (ci := 12) rfl rfl rfl hl.1 rfl (Nat.le_of_ble_eq_true rfl) dX12_row_6 ⟨Nat.le_of_ble_eq_true rfl, Nat.le_of_ble_eq_true rfl⟩ (fun r_1 u_2 H locs hw_3 hP hD hS => ?_)
  refine W.widen (k := 0) (n := 0) (by decide) (by decide) ?_
  have hw_3 : r_1 = 4 := hw_3
  subst hw_3
  have hP : va_P D classes [(mo, .inr (12, [.ref mpage, .int 0, .int 0, .int 0, .int 0, .int 0, .int 0, .int 0, .ref mkeys, .ref mvalues, .ref mheights, .ref mheats, .int 0, .ref msecondKeys, .ref msecondValues, .ref msecondHeights, .ref msecondHeats, .int 0, .int 0, .int 0, .int 0, .ref msaved, .ref mbestHeights, .int 0, .ref msights, .ref mby, .int 0, .int (-1), .int 0, .int 0, .int 0, .int 0, .int 0, .int 0, .ref mkeptKeys, .ref mkeptValues, .ref mkeptHeights, .ref mkeptHeats, .ref mkeptKeys2, .ref mkeptValues2, .ref mkeptHeights2, .ref mkeptHeats2, .ref mkeptSights, .long hh])), (mpage, .inl (cy, 44, .inl (fun _ => 0)))] H := hP
  have hD : va_D A [(mo, .inr (12, [.ref mpage, .int 0, .int 0, .int 0, .int 0, .int 0, .int 0, .int 0, .ref mkeys, .ref mvalues, .ref mheights, .ref mheats, .int 0, .ref msecondKeys, .ref msecondValues, .ref msecondHeights, .ref msecondHeats, .int 0, .int 0, .int 0, .int 0, .ref msaved, .ref mbestHeights, .int 0, .ref msights, .ref mby, .int 0, .int (-1), .int 0, .int 0, .int 0, .int 0, .int 0, .int 0, .ref mkeptKeys, .ref mkeptValues, .ref mkeptHeights, .ref mkeptHeats, .ref mkeptKeys2, .ref mkeptValues2, .ref mkeptHeights2, .ref mkeptHeats2, .ref mkeptSights, .long hh])), (mpage, .inl (cy, 44, .inl (fun _ => 0)))] := hD
  refine lv_imul hx hb dX12_row_9 ?_
  refine wk_toi (show ((2 * 4) : Int32) = 8 by decide) ?_
  refine lv_icmp_le (tgt := 42) hx hb dX12_row_10 (by decide) (fun _ => ?_) (fun c_4 => absurd (by decide) c_4)
  refine lv_iconst (v := 0) hx hb dX12_row_42 (by decide) ?_
  refine lv_istore_n (lv' := [(1, .int 0), (0, .ref mo)]) hx hb dX12_row_43 rfl hl (by decide) rfl (fun ls hl => ?_)
  refine lv_iload_n hx hb dX12_row_44 rfl (lv_at hl 0 rfl) ?_
  refine lv_if_ne (tgt := 51) hx hb dX12_row_45 (by decide) (fun c_5 => absurd (by decide) c_5) (fun _ => ?_)
  refine lv_bipush (v := (-103)) hx hb dX12_row_48 (by decide) ?_
  refine W.widen (k := 0) (n := 0) (by decide) (by decide) ?_
  exact wk_iret () hx hb hr hlocks rfl hK hP hD hS [0, 1] rfl rfl dX12_row_50
theorem dX12_tape_0 : decode cX12_tape 0 = .ok (.iload_n 1, 1) := by decide +kernel
theorem dX12_tape_1 : decode cX12_tape 1 = .ok (.i2l, 1) := by decide +kernel
theorem dX12_tape_2 : decode cX12_tape 2 = .ok (.lconst 0, 1) := by decide +kernel
theorem dX12_tape_3 : decode cX12_tape 3 = .ok (.ldc2_w 240, 3) := by decide +kernel
theorem dX12_tape_6 : decode cX12_tape 6 = .ok (.invokestatic 82, 3) := by decide +kernel
theorem dX12_tape_9 : decode cX12_tape 9 = .ok (.ifCond .ne 6, 3) := by decide +kernel
theorem dX12_tape_12 : decode cX12_tape 12 = .ok (.bipush (-102), 2) := by decide +kernel
theorem dX12_tape_14 : decode cX12_tape 14 = .ok (.ireturn, 1) := by decide +kernel
theorem dX12_tape_15 : decode cX12_tape 15 = .ok (.aload_n 0, 1) := by decide +kernel
theorem dX12_tape_16 : decode cX12_tape 16 = .ok (.invokevirtual 185, 3) := by decide +kernel
theorem dX12_tape_19 : decode cX12_tape 19 = .ok (.ifCond .eq 8, 3) := by decide +kernel
theorem dX12_tape_22 : decode cX12_tape 22 = .ok (.bipush (-103), 2) := by decide +kernel
theorem dX12_tape_24 : decode cX12_tape 24 = .ok (.goto 8, 3) := by decide +kernel
theorem dX12_tape_32 : decode cX12_tape 32 = .ok (.ireturn, 1) := by decide +kernel
set_option maxHeartbeats 4000000 in
set_option maxRecDepth 100000 in
theorem c_X12_tape (l : Launch) (D : va_G) (cy : ClassId) (mo mpage mkeys mvalues mheights mheats msecondKeys msecondValues msecondHeights msecondHeats msaved mbestHeights msights mby mkeptKeys mkeptValues mkeptHeights mkeptHeats mkeptKeys2 mkeptValues2 mkeptHeights2 mkeptHeats2 mkeptSights : Nat) (a : Int32) (hh : Int64) : wk_Ci l yX12_tape cX12_tape 2 (some .int) { frames := 1, cells := 0, slots := 0, locals := 25 } D cy [.ref mo, .int a] [(mo, .inr (12, [.ref mpage, .int 0, .int 0, .int 0, .int 0, .int 0, .int 0, .int 0, .ref mkeys, .ref mvalues, .ref mheights, .ref mheats, .int 0, .ref msecondKeys, .ref msecondValues, .ref msecondHeights, .ref msecondHeats, .int 0, .int 0, .int 0, .int 0, .ref msaved, .ref mbestHeights, .int 0, .ref msights, .ref mby, .int 0, .int (-1), .int 0, .int 0, .int 0, .int 0, .int 0, .int 0, .ref mkeptKeys, .ref mkeptValues, .ref mkeptHeights, .ref mkeptHeats, .ref mkeptKeys2, .ref mkeptValues2, .ref mkeptHeights2, .ref mkeptHeats2, .ref mkeptSights, .long hh]))] 0 0 (fun (r : Int32) (u : Unit) => r = if (0 ≤ a.toInt ∧ a.toInt ≤ 50) then (-103) else (-102)) (fun u => [(mo, .inr (12, [.ref mpage, .int 0, .int 0, .int 0, .int 0, .int 0, .int 0, .int 0, .ref mkeys, .ref mvalues, .ref mheights, .ref mheats, .int 0, .ref msecondKeys, .ref msecondValues, .ref msecondHeights, .ref msecondHeats, .int 0, .int 0, .int 0, .int 0, .ref msaved, .ref mbestHeights, .int 0, .ref msights, .ref mby, .int 0, .int (-1), .int 0, .int 0, .int 0, .int 0, .int 0, .int 0, .ref mkeptKeys, .ref mkeptValues, .ref mkeptHeights, .ref mkeptHeats, .ref mkeptKeys2, .ref mkeptValues2, .ref mkeptHeights2, .ref mkeptHeats2, .ref mkeptSights, .long hh]))]) := by
  refine wk_mkCi (by decide) (Nat.le_of_ble_eq_true rfl) ?_
  intro p e s m below meth c A ls B hA hK hP hD hS hl
  obtain ⟨hx, hb, hr, hlocks, hml, hown, htb, hin⟩ := B
  have hl : lv_has ls 2 [(0, .ref mo), (1, .int a)] := hl
  refine lv_iload_n hx hb dX12_tape_0 rfl (lv_at hl 1 rfl) ?_
  refine lv_i2l (v := a.toInt64) hx hb dX12_tape_1 rfl ?_
  refine lv_lconst (v := 0) hx hb dX12_tape_2 (by decide) ?_
  refine lv_ldc2 (v := 50) hx hb hown (htb _ tw_1080) dX12_tape_3 ?_
  refine wk_iS (As := [.long a.toInt64, .long 0, .long 50]) (rest := []) (wc := []) (wr := [(mo, .inr (12, [.ref mpage, .int 0, .int 0, .int 0, .int 0, .int 0, .int 0, .int 0, .ref mkeys, .ref mvalues, .ref mheights, .ref mheats, .int 0, .ref msecondKeys, .ref msecondValues, .ref msecondHeights, .ref msecondHeats, .int 0, .int 0, .int 0, .int 0, .ref msaved, .ref mbestHeights, .int 0, .ref msights, .ref mby, .int 0, .int (-1), .int 0, .int 0, .int 0, .int 0, .int 0, .int 0, .ref mkeptKeys, .ref mkeptValues, .ref mkeptHeights, .ref mkeptHeats, .ref mkeptKeys2, .ref mkeptValues2, .ref mkeptHeights2, .ref mkeptHeats2, .ref mkeptSights, .long hh]))]) (n := 3) (R := _) ⟨hx, hb, hml, hown, htb⟩ (c_X12_in l D cy   a.toInt64 0 50) tw_903 tw_901 tw_902 tw_71 rfl rfl (by decide +kernel) ⟨Nat.le_of_ble_eq_true rfl, Nat.le_of_ble_eq_true rfl⟩ hK hP hD hS hA [] [0] rfl rfl rfl rfl (by decide) rfl hl.1 rfl (Nat.le_of_ble_eq_true rfl) dX12_tape_6 ⟨Nat.le_of_ble_eq_true rfl, Nat.le_of_ble_eq_true rfl⟩ (fun r_1 u_2 H locs hw_3 hP hD hS => ?_)
  refine W.widen (k := 0) (n := 0) (by decide) (by decide) ?_
  have hw_3 : r_1 = wk_in a.toInt64 0 50 := hw_3
  subst hw_3
  have hP : va_P D classes [(mo, .inr (12, [.ref mpage, .int 0, .int 0, .int 0, .int 0, .int 0, .int 0, .int 0, .ref mkeys, .ref mvalues, .ref mheights, .ref mheats, .int 0, .ref msecondKeys, .ref msecondValues, .ref msecondHeights, .ref msecondHeats, .int 0, .int 0, .int 0, .int 0, .ref msaved, .ref mbestHeights, .int 0, .ref msights, .ref mby, .int 0, .int (-1), .int 0, .int 0, .int 0, .int 0, .int 0, .int 0, .ref mkeptKeys, .ref mkeptValues, .ref mkeptHeights, .ref mkeptHeats, .ref mkeptKeys2, .ref mkeptValues2, .ref mkeptHeights2, .ref mkeptHeats2, .ref mkeptSights, .long hh]))] H := hP
  have hD : va_D A [(mo, .inr (12, [.ref mpage, .int 0, .int 0, .int 0, .int 0, .int 0, .int 0, .int 0, .ref mkeys, .ref mvalues, .ref mheights, .ref mheats, .int 0, .ref msecondKeys, .ref msecondValues, .ref msecondHeights, .ref msecondHeats, .int 0, .int 0, .int 0, .int 0, .ref msaved, .ref mbestHeights, .int 0, .ref msights, .ref mby, .int 0, .int (-1), .int 0, .int 0, .int 0, .int 0, .int 0, .int 0, .ref mkeptKeys, .ref mkeptValues, .ref mkeptHeights, .ref mkeptHeats, .ref mkeptKeys2, .ref mkeptValues2, .ref mkeptHeights2, .ref mkeptHeats2, .ref mkeptSights, .long hh]))] := hD
  refine lv_if_ne (tgt := 15) hx hb dX12_tape_9 (by decide) (fun c_4 => ?_) (fun c_4 => ?_)
  · have k_4 : 0 ≤ a.toInt ∧ a.toInt ≤ 50 := by have h9 := wk_in1 c_4; simp only [wk_64] at h9; exact h9
    refine lv_aload_n hx hb dX12_tape_15 rfl (lv_at hl 0 rfl) ?_
    refine wk_iV (As := []) (rest := []) (wc := [(mo, .inr (12, [.ref mpage, .int 0, .int 0, .int 0, .int 0, .int 0, .int 0, .int 0, .ref mkeys, .ref mvalues, .ref mheights, .ref mheats, .int 0, .ref msecondKeys, .ref msecondValues, .ref msecondHeights, .ref msecondHeats, .int 0, .int 0, .int 0, .int 0, .ref msaved, .ref mbestHeights, .int 0, .ref msights, .ref mby, .int 0, .int (-1), .int 0, .int 0, .int 0, .int 0, .int 0, .int 0, .ref mkeptKeys, .ref mkeptValues, .ref mkeptHeights, .ref mkeptHeats, .ref mkeptKeys2, .ref mkeptValues2, .ref mkeptHeights2, .ref mkeptHeats2, .ref mkeptSights, .long hh]))]) (wr := []) (n := 0) (R := _) ⟨hx, hb, hml, hown, htb⟩ (c_X12_lacks l D cy mo mpage mkeys mvalues mheights mheats msecondKeys msecondValues msecondHeights msecondHeats msaved mbestHeights msights mby mkeptKeys mkeptValues mkeptHeights mkeptHeats mkeptKeys2 mkeptValues2 mkeptHeights2 mkeptHeats2 mkeptSights  hh) tw_969 tw_966 tw_968 tw_29 tw_71 rfl rfl (by decide +kernel) ⟨Nat.le_of_ble_eq_true rfl, Nat.le_of_ble_eq_true rfl⟩ hK hP hD hS hA [0] [] rfl rfl rfl rfl (by decide) 0 (ci := 12) rfl rfl rfl hl.1 rfl (Nat.le_of_ble_eq_true rfl) dX12_tape_16 ⟨Nat.le_of_ble_eq_true rfl, Nat.le_of_ble_eq_true rfl⟩ (fun r_5 u_6 H locs hw_7 hP hD hS => ?_)
    refine W.widen (k := 0) (n := 0) (by decide) (by decide) ?_
    have hw_7 : r_5 = 1 := hw_7
    subst hw_7
    have hP : va_P D classes [(mo, .inr (12, [.ref mpage, .int 0, .int 0, .int 0, .int 0, .int 0, .int 0, .int 0, .ref mkeys, .ref mvalues, .ref mheights, .ref mheats, .int 0, .ref msecondKeys, .ref msecondValues, .ref msecondHeights, .ref msecondHeats, .int 0, .int 0, .int 0, .int 0, .ref msaved, .ref mbestHeights, .int 0, .ref msights, .ref mby, .int 0, .int (-1), .int 0, .int 0, .int 0, .int 0, .int 0, .int 0, .ref mkeptKeys, .ref mkeptValues, .ref mkeptHeights, .ref mkeptHeats, .ref mkeptKeys2, .ref mkeptValues2, .ref mkeptHeights2, .ref mkeptHeats2, .ref mkeptSights, .long hh]))] H := hP
    have hD : va_D A [(mo, .inr (12, [.ref mpage, .int 0, .int 0, .int 0, .int 0, .int 0, .int 0, .int 0, .ref mkeys, .ref mvalues, .ref mheights, .ref mheats, .int 0, .ref msecondKeys, .ref msecondValues, .ref msecondHeights, .ref msecondHeats, .int 0, .int 0, .int 0, .int 0, .ref msaved, .ref mbestHeights, .int 0, .ref msights, .ref mby, .int 0, .int (-1), .int 0, .int 0, .int 0, .int 0, .int 0, .int 0, .ref mkeptKeys, .ref mkeptValues, .ref mkeptHeights, .ref mkeptHeats, .ref mkeptKeys2, .ref mkeptValues2, .ref mkeptHeights2, .ref mkeptHeats2, .ref mkeptSights, .long hh]))] := hD
    refine lv_if_eq (tgt := 27) hx hb dX12_tape_19 (by decide) (fun c_8 => absurd c_8 (by decide)) (fun _ => ?_)
    refine lv_bipush (v := (-103)) hx hb dX12_tape_22 (by decide) ?_
    refine lv_goto (tgt := 32) hx hb dX12_tape_24 (by decide) ?_
    refine W.widen (k := 0) (n := 0) (by decide) (by decide) ?_
    exact wk_iret () hx hb hr hlocks (if_pos (by omega)).symm hK hP hD hS [0] rfl rfl dX12_tape_32
  · have k_4 : ¬ (0 ≤ a.toInt ∧ a.toInt ≤ 50) := by have h9 := wk_in0 c_4; simp only [wk_64] at h9; exact h9
    refine lv_bipush (v := (-102)) hx hb dX12_tape_12 (by decide) ?_
    refine W.widen (k := 0) (n := 0) (by decide) (by decide) ?_
    exact wk_iret () hx hb hr hlocks (if_neg (by omega)).symm hK hP hD hS [0] rfl rfl dX12_tape_14
theorem dX12_as_0 : decode cX12_as 0 = .ok (.iload_n 1, 1) := by decide +kernel
theorem dX12_as_1 : decode cX12_as 1 = .ok (.i2l, 1) := by decide +kernel
theorem dX12_as_2 : decode cX12_as 2 = .ok (.lconst 0, 1) := by decide +kernel
theorem dX12_as_3 : decode cX12_as 3 = .ok (.ldc2_w 235, 3) := by decide +kernel
theorem dX12_as_6 : decode cX12_as 6 = .ok (.invokestatic 82, 3) := by decide +kernel
theorem dX12_as_9 : decode cX12_as 9 = .ok (.ifCond .ne 6, 3) := by decide +kernel
theorem dX12_as_12 : decode cX12_as 12 = .ok (.bipush (-102), 2) := by decide +kernel
theorem dX12_as_14 : decode cX12_as 14 = .ok (.ireturn, 1) := by decide +kernel
theorem dX12_as_15 : decode cX12_as 15 = .ok (.aload_n 0, 1) := by decide +kernel
theorem dX12_as_16 : decode cX12_as 16 = .ok (.invokevirtual 185, 3) := by decide +kernel
theorem dX12_as_19 : decode cX12_as 19 = .ok (.ifCond .eq 6, 3) := by decide +kernel
theorem dX12_as_22 : decode cX12_as 22 = .ok (.bipush (-103), 2) := by decide +kernel
theorem dX12_as_24 : decode cX12_as 24 = .ok (.ireturn, 1) := by decide +kernel
set_option maxHeartbeats 4000000 in
set_option maxRecDepth 100000 in
theorem c_X12_as (l : Launch) (D : va_G) (cy : ClassId) (mo mpage mkeys mvalues mheights mheats msecondKeys msecondValues msecondHeights msecondHeats msaved mbestHeights msights mby mkeptKeys mkeptValues mkeptHeights mkeptHeats mkeptKeys2 mkeptValues2 mkeptHeights2 mkeptHeats2 mkeptSights : Nat) (a : Int32) (hh : Int64) : wk_Ci l yX12_as cX12_as 3 (some .int) { frames := 1, cells := 0, slots := 0, locals := 25 } D cy [.ref mo, .int a] [(mo, .inr (12, [.ref mpage, .int 0, .int 0, .int 0, .int 0, .int 0, .int 0, .int 0, .ref mkeys, .ref mvalues, .ref mheights, .ref mheats, .int 0, .ref msecondKeys, .ref msecondValues, .ref msecondHeights, .ref msecondHeats, .int 0, .int 0, .int 0, .int 0, .ref msaved, .ref mbestHeights, .int 0, .ref msights, .ref mby, .int 0, .int (-1), .int 0, .int 0, .int 0, .int 0, .int 0, .int 0, .ref mkeptKeys, .ref mkeptValues, .ref mkeptHeights, .ref mkeptHeats, .ref mkeptKeys2, .ref mkeptValues2, .ref mkeptHeights2, .ref mkeptHeats2, .ref mkeptSights, .long hh]))] 0 0 (fun (r : Int32) (u : Unit) => r = if (0 ≤ a.toInt ∧ a.toInt ≤ 4) then (-103) else (-102)) (fun u => [(mo, .inr (12, [.ref mpage, .int 0, .int 0, .int 0, .int 0, .int 0, .int 0, .int 0, .ref mkeys, .ref mvalues, .ref mheights, .ref mheats, .int 0, .ref msecondKeys, .ref msecondValues, .ref msecondHeights, .ref msecondHeats, .int 0, .int 0, .int 0, .int 0, .ref msaved, .ref mbestHeights, .int 0, .ref msights, .ref mby, .int 0, .int (-1), .int 0, .int 0, .int 0, .int 0, .int 0, .int 0, .ref mkeptKeys, .ref mkeptValues, .ref mkeptHeights, .ref mkeptHeats, .ref mkeptKeys2, .ref mkeptValues2, .ref mkeptHeights2, .ref mkeptHeats2, .ref mkeptSights, .long hh]))]) := by
  refine wk_mkCi (by decide) (Nat.le_of_ble_eq_true rfl) ?_
  intro p e s m below meth c A ls B hA hK hP hD hS hl
  obtain ⟨hx, hb, hr, hlocks, hml, hown, htb, hin⟩ := B
  have hl : lv_has ls 3 [(0, .ref mo), (1, .int a)] := hl
  refine lv_iload_n hx hb dX12_as_0 rfl (lv_at hl 1 rfl) ?_
  refine lv_i2l (v := a.toInt64) hx hb dX12_as_1 rfl ?_
  refine lv_lconst (v := 0) hx hb dX12_as_2 (by decide) ?_
  refine lv_ldc2 (v := 4) hx hb hown (htb _ tw_1075) dX12_as_3 ?_
  refine wk_iS (As := [.long a.toInt64, .long 0, .long 4]) (rest := []) (wc := []) (wr := [(mo, .inr (12, [.ref mpage, .int 0, .int 0, .int 0, .int 0, .int 0, .int 0, .int 0, .ref mkeys, .ref mvalues, .ref mheights, .ref mheats, .int 0, .ref msecondKeys, .ref msecondValues, .ref msecondHeights, .ref msecondHeats, .int 0, .int 0, .int 0, .int 0, .ref msaved, .ref mbestHeights, .int 0, .ref msights, .ref mby, .int 0, .int (-1), .int 0, .int 0, .int 0, .int 0, .int 0, .int 0, .ref mkeptKeys, .ref mkeptValues, .ref mkeptHeights, .ref mkeptHeats, .ref mkeptKeys2, .ref mkeptValues2, .ref mkeptHeights2, .ref mkeptHeats2, .ref mkeptSights, .long hh]))]) (n := 3) (R := _) ⟨hx, hb, hml, hown, htb⟩ (c_X12_in l D cy   a.toInt64 0 4) tw_903 tw_901 tw_902 tw_71 rfl rfl (by decide +kernel) ⟨Nat.le_of_ble_eq_true rfl, Nat.le_of_ble_eq_true rfl⟩ hK hP hD hS hA [] [0] rfl rfl rfl rfl (by decide) rfl hl.1 rfl (Nat.le_of_ble_eq_true rfl) dX12_as_6 ⟨Nat.le_of_ble_eq_true rfl, Nat.le_of_ble_eq_true rfl⟩ (fun r_1 u_2 H locs hw_3 hP hD hS => ?_)
  refine W.widen (k := 0) (n := 0) (by decide) (by decide) ?_
  have hw_3 : r_1 = wk_in a.toInt64 0 4 := hw_3
  subst hw_3
  have hP : va_P D classes [(mo, .inr (12, [.ref mpage, .int 0, .int 0, .int 0, .int 0, .int 0, .int 0, .int 0, .ref mkeys, .ref mvalues, .ref mheights, .ref mheats, .int 0, .ref msecondKeys, .ref msecondValues, .ref msecondHeights, .ref msecondHeats, .int 0, .int 0, .int 0, .int 0, .ref msaved, .ref mbestHeights, .int 0, .ref msights, .ref mby, .int 0, .int (-1), .int 0, .int 0, .int 0, .int 0, .int 0, .int 0, .ref mkeptKeys, .ref mkeptValues, .ref mkeptHeights, .ref mkeptHeats, .ref mkeptKeys2, .ref mkeptValues2, .ref mkeptHeights2, .ref mkeptHeats2, .ref mkeptSights, .long hh]))] H := hP
  have hD : va_D A [(mo, .inr (12, [.ref mpage, .int 0, .int 0, .int 0, .int 0, .int 0, .int 0, .int 0, .ref mkeys, .ref mvalues, .ref mheights, .ref mheats, .int 0, .ref msecondKeys, .ref msecondValues, .ref msecondHeights, .ref msecondHeats, .int 0, .int 0, .int 0, .int 0, .ref msaved, .ref mbestHeights, .int 0, .ref msights, .ref mby, .int 0, .int (-1), .int 0, .int 0, .int 0, .int 0, .int 0, .int 0, .ref mkeptKeys, .ref mkeptValues, .ref mkeptHeights, .ref mkeptHeats, .ref mkeptKeys2, .ref mkeptValues2, .ref mkeptHeights2, .ref mkeptHeats2, .ref mkeptSights, .long hh]))] := hD
  refine lv_if_ne (tgt := 15) hx hb dX12_as_9 (by decide) (fun c_4 => ?_) (fun c_4 => ?_)
  · have k_4 : 0 ≤ a.toInt ∧ a.toInt ≤ 4 := by have h9 := wk_in1 c_4; simp only [wk_64] at h9; exact h9
    refine lv_aload_n hx hb dX12_as_15 rfl (lv_at hl 0 rfl) ?_
    refine wk_iV (As := []) (rest := []) (wc := [(mo, .inr (12, [.ref mpage, .int 0, .int 0, .int 0, .int 0, .int 0, .int 0, .int 0, .ref mkeys, .ref mvalues, .ref mheights, .ref mheats, .int 0, .ref msecondKeys, .ref msecondValues, .ref msecondHeights, .ref msecondHeats, .int 0, .int 0, .int 0, .int 0, .ref msaved, .ref mbestHeights, .int 0, .ref msights, .ref mby, .int 0, .int (-1), .int 0, .int 0, .int 0, .int 0, .int 0, .int 0, .ref mkeptKeys, .ref mkeptValues, .ref mkeptHeights, .ref mkeptHeats, .ref mkeptKeys2, .ref mkeptValues2, .ref mkeptHeights2, .ref mkeptHeats2, .ref mkeptSights, .long hh]))]) (wr := []) (n := 0) (R := _) ⟨hx, hb, hml, hown, htb⟩ (c_X12_lacks l D cy mo mpage mkeys mvalues mheights mheats msecondKeys msecondValues msecondHeights msecondHeats msaved mbestHeights msights mby mkeptKeys mkeptValues mkeptHeights mkeptHeats mkeptKeys2 mkeptValues2 mkeptHeights2 mkeptHeats2 mkeptSights  hh) tw_969 tw_966 tw_968 tw_29 tw_71 rfl rfl (by decide +kernel) ⟨Nat.le_of_ble_eq_true rfl, Nat.le_of_ble_eq_true rfl⟩ hK hP hD hS hA [0] [] rfl rfl rfl rfl (by decide) 0 (ci := 12) rfl rfl rfl hl.1 rfl (Nat.le_of_ble_eq_true rfl) dX12_as_16 ⟨Nat.le_of_ble_eq_true rfl, Nat.le_of_ble_eq_true rfl⟩ (fun r_5 u_6 H locs hw_7 hP hD hS => ?_)
    refine W.widen (k := 0) (n := 0) (by decide) (by decide) ?_
    have hw_7 : r_5 = 1 := hw_7
    subst hw_7
    have hP : va_P D classes [(mo, .inr (12, [.ref mpage, .int 0, .int 0, .int 0, .int 0, .int 0, .int 0, .int 0, .ref mkeys, .ref mvalues, .ref mheights, .ref mheats, .int 0, .ref msecondKeys, .ref msecondValues, .ref msecondHeights, .ref msecondHeats, .int 0, .int 0, .int 0, .int 0, .ref msaved, .ref mbestHeights, .int 0, .ref msights, .ref mby, .int 0, .int (-1), .int 0, .int 0, .int 0, .int 0, .int 0, .int 0, .ref mkeptKeys, .ref mkeptValues, .ref mkeptHeights, .ref mkeptHeats, .ref mkeptKeys2, .ref mkeptValues2, .ref mkeptHeights2, .ref mkeptHeats2, .ref mkeptSights, .long hh]))] H := hP
    have hD : va_D A [(mo, .inr (12, [.ref mpage, .int 0, .int 0, .int 0, .int 0, .int 0, .int 0, .int 0, .ref mkeys, .ref mvalues, .ref mheights, .ref mheats, .int 0, .ref msecondKeys, .ref msecondValues, .ref msecondHeights, .ref msecondHeats, .int 0, .int 0, .int 0, .int 0, .ref msaved, .ref mbestHeights, .int 0, .ref msights, .ref mby, .int 0, .int (-1), .int 0, .int 0, .int 0, .int 0, .int 0, .int 0, .ref mkeptKeys, .ref mkeptValues, .ref mkeptHeights, .ref mkeptHeats, .ref mkeptKeys2, .ref mkeptValues2, .ref mkeptHeights2, .ref mkeptHeats2, .ref mkeptSights, .long hh]))] := hD
    refine lv_if_eq (tgt := 25) hx hb dX12_as_19 (by decide) (fun c_8 => absurd c_8 (by decide)) (fun _ => ?_)
    refine lv_bipush (v := (-103)) hx hb dX12_as_22 (by decide) ?_
    refine W.widen (k := 0) (n := 0) (by decide) (by decide) ?_
    exact wk_iret () hx hb hr hlocks (if_pos (by omega)).symm hK hP hD hS [0] rfl rfl dX12_as_24
  · have k_4 : ¬ (0 ≤ a.toInt ∧ a.toInt ≤ 4) := by have h9 := wk_in0 c_4; simp only [wk_64] at h9; exact h9
    refine lv_bipush (v := (-102)) hx hb dX12_as_12 (by decide) ?_
    refine W.widen (k := 0) (n := 0) (by decide) (by decide) ?_
    exact wk_iret () hx hb hr hlocks (if_neg (by omega)).symm hK hP hD hS [0] rfl rfl dX12_as_14
theorem dX12_key_0 : decode cX12_key 0 = .ok (.aload_n 0, 1) := by decide +kernel
theorem dX12_key_1 : decode cX12_key 1 = .ok (.iload_n 1, 1) := by decide +kernel
theorem dX12_key_2 : decode cX12_key 2 = .ok (.invokevirtual 192, 3) := by decide +kernel
theorem dX12_key_5 : decode cX12_key 5 = .ok (.ifCond .eq 12, 3) := by decide +kernel
theorem dX12_key_17 : decode cX12_key 17 = .ok (.bipush (-101), 2) := by decide +kernel
theorem dX12_key_19 : decode cX12_key 19 = .ok (.ireturn, 1) := by decide +kernel
set_option maxHeartbeats 4000000 in
set_option maxRecDepth 100000 in
theorem c_X12_key (l : Launch) (D : va_G) (cy : ClassId) (mo mpage mkeys mvalues mheights mheats msecondKeys msecondValues msecondHeights msecondHeats msaved mbestHeights msights mby mkeptKeys mkeptValues mkeptHeights mkeptHeats mkeptKeys2 mkeptValues2 mkeptHeights2 mkeptHeats2 mkeptSights : Nat) (a b : Int32) (hh : Int64) : wk_Ci l yX12_key cX12_key 3 (some .int) { frames := 2, cells := 0, slots := 0, locals := 46 } D cy [.ref mo, .int a, .int b] [(mo, .inr (12, [.ref mpage, .int 0, .int 0, .int 0, .int 0, .int 0, .int 0, .int 0, .ref mkeys, .ref mvalues, .ref mheights, .ref mheats, .int 0, .ref msecondKeys, .ref msecondValues, .ref msecondHeights, .ref msecondHeats, .int 0, .int 0, .int 0, .int 0, .ref msaved, .ref mbestHeights, .int 0, .ref msights, .ref mby, .int 0, .int (-1), .int 0, .int 0, .int 0, .int 0, .int 0, .int 0, .ref mkeptKeys, .ref mkeptValues, .ref mkeptHeights, .ref mkeptHeats, .ref mkeptKeys2, .ref mkeptValues2, .ref mkeptHeights2, .ref mkeptHeats2, .ref mkeptSights, .long hh]))] 0 0 (fun (r : Int32) (u : Unit) => r = (-101)) (fun u => [(mo, .inr (12, [.ref mpage, .int 0, .int 0, .int 0, .int 0, .int 0, .int 0, .int 0, .ref mkeys, .ref mvalues, .ref mheights, .ref mheats, .int 0, .ref msecondKeys, .ref msecondValues, .ref msecondHeights, .ref msecondHeats, .int 0, .int 0, .int 0, .int 0, .ref msaved, .ref mbestHeights, .int 0, .ref msights, .ref mby, .int 0, .int (-1), .int 0, .int 0, .int 0, .int 0, .int 0, .int 0, .ref mkeptKeys, .ref mkeptValues, .ref mkeptHeights, .ref mkeptHeats, .ref mkeptKeys2, .ref mkeptValues2, .ref mkeptHeights2, .ref mkeptHeats2, .ref mkeptSights, .long hh]))]) := by
  refine wk_mkCi (by decide) (Nat.le_of_ble_eq_true rfl) ?_
  intro p e s m below meth c A ls B hA hK hP hD hS hl
  obtain ⟨hx, hb, hr, hlocks, hml, hown, htb, hin⟩ := B
  have hl : lv_has ls 3 [(0, .ref mo), (1, .int a), (2, .int b)] := hl
  refine lv_aload_n hx hb dX12_key_0 rfl (lv_at hl 0 rfl) ?_
  refine lv_iload_n hx hb dX12_key_1 rfl (lv_at hl 1 rfl) ?_
  refine wk_iV (As := [.int a]) (rest := []) (wc := [(mo, .inr (12, [.ref mpage, .int 0, .int 0, .int 0, .int 0, .int 0, .int 0, .int 0, .ref mkeys, .ref mvalues, .ref mheights, .ref mheats, .int 0, .ref msecondKeys, .ref msecondValues, .ref msecondHeights, .ref msecondHeats, .int 0, .int 0, .int 0, .int 0, .ref msaved, .ref mbestHeights, .int 0, .ref msights, .ref mby, .int 0, .int (-1), .int 0, .int 0, .int 0, .int 0, .int 0, .int 0, .ref mkeptKeys, .ref mkeptValues, .ref mkeptHeights, .ref mkeptHeats, .ref mkeptKeys2, .ref mkeptValues2, .ref mkeptHeights2, .ref mkeptHeats2, .ref mkeptSights, .long hh]))]) (wr := []) (n := 1) (R := _) ⟨hx, hb, hml, hown, htb⟩ (c_X12_isNumber l D cy mo mpage mkeys mvalues mheights mheats msecondKeys msecondValues msecondHeights msecondHeats msaved mbestHeights msights mby mkeptKeys mkeptValues mkeptHeights mkeptHeats mkeptKeys2 mkeptValues2 mkeptHeights2 mkeptHeats2 mkeptSights a hh) tw_997 tw_994 tw_996 tw_35 tw_71 rfl rfl (by decide +kernel) ⟨Nat.le_of_ble_eq_true rfl, Nat.le_of_ble_eq_true rfl⟩ hK hP hD hS hA [0] [] rfl rfl rfl rfl (by decide) 0 (ci := 12) rfl rfl rfl hl.1 rfl (Nat.le_of_ble_eq_true rfl) dX12_key_2 ⟨Nat.le_of_ble_eq_true rfl, Nat.le_of_ble_eq_true rfl⟩ (fun r_1 u_2 H locs hw_3 hP hD hS => ?_)
  refine W.widen (k := 0) (n := 0) (by decide) (by decide) ?_
  have hw_3 : r_1 = 0 := hw_3
  subst hw_3
  have hP : va_P D classes [(mo, .inr (12, [.ref mpage, .int 0, .int 0, .int 0, .int 0, .int 0, .int 0, .int 0, .ref mkeys, .ref mvalues, .ref mheights, .ref mheats, .int 0, .ref msecondKeys, .ref msecondValues, .ref msecondHeights, .ref msecondHeats, .int 0, .int 0, .int 0, .int 0, .ref msaved, .ref mbestHeights, .int 0, .ref msights, .ref mby, .int 0, .int (-1), .int 0, .int 0, .int 0, .int 0, .int 0, .int 0, .ref mkeptKeys, .ref mkeptValues, .ref mkeptHeights, .ref mkeptHeats, .ref mkeptKeys2, .ref mkeptValues2, .ref mkeptHeights2, .ref mkeptHeats2, .ref mkeptSights, .long hh]))] H := hP
  have hD : va_D A [(mo, .inr (12, [.ref mpage, .int 0, .int 0, .int 0, .int 0, .int 0, .int 0, .int 0, .ref mkeys, .ref mvalues, .ref mheights, .ref mheats, .int 0, .ref msecondKeys, .ref msecondValues, .ref msecondHeights, .ref msecondHeats, .int 0, .int 0, .int 0, .int 0, .ref msaved, .ref mbestHeights, .int 0, .ref msights, .ref mby, .int 0, .int (-1), .int 0, .int 0, .int 0, .int 0, .int 0, .int 0, .ref mkeptKeys, .ref mkeptValues, .ref mkeptHeights, .ref mkeptHeats, .ref mkeptKeys2, .ref mkeptValues2, .ref mkeptHeights2, .ref mkeptHeats2, .ref mkeptSights, .long hh]))] := hD
  refine lv_if_eq (tgt := 17) hx hb dX12_key_5 (by decide) (fun _ => ?_) (fun c_4 => absurd (by decide) c_4)
  refine lv_bipush (v := (-101)) hx hb dX12_key_17 (by decide) ?_
  refine W.widen (k := 0) (n := 0) (by decide) (by decide) ?_
  exact wk_iret () hx hb hr hlocks rfl hK hP hD hS [0] rfl rfl dX12_key_19
theorem dX12_lane_0 : decode cX12_lane 0 = .ok (.aload_n 0, 1) := by decide +kernel
theorem dX12_lane_1 : decode cX12_lane 1 = .ok (.invokevirtual 185, 3) := by decide +kernel
theorem dX12_lane_4 : decode cX12_lane 4 = .ok (.ifCond .ne 24, 3) := by decide +kernel
theorem dX12_lane_28 : decode cX12_lane 28 = .ok (.bipush (-101), 2) := by decide +kernel
theorem dX12_lane_30 : decode cX12_lane 30 = .ok (.ireturn, 1) := by decide +kernel
set_option maxHeartbeats 4000000 in
set_option maxRecDepth 100000 in
theorem c_X12_lane (l : Launch) (D : va_G) (cy : ClassId) (mo mpage mkeys mvalues mheights mheats msecondKeys msecondValues msecondHeights msecondHeats msaved mbestHeights msights mby mkeptKeys mkeptValues mkeptHeights mkeptHeats mkeptKeys2 mkeptValues2 mkeptHeights2 mkeptHeats2 mkeptSights : Nat) (a b : Int32) (hh : Int64) : wk_Ci l yX12_lane cX12_lane 3 (some .int) { frames := 1, cells := 0, slots := 0, locals := 20 } D cy [.ref mo, .int a, .int b] [(mo, .inr (12, [.ref mpage, .int 0, .int 0, .int 0, .int 0, .int 0, .int 0, .int 0, .ref mkeys, .ref mvalues, .ref mheights, .ref mheats, .int 0, .ref msecondKeys, .ref msecondValues, .ref msecondHeights, .ref msecondHeats, .int 0, .int 0, .int 0, .int 0, .ref msaved, .ref mbestHeights, .int 0, .ref msights, .ref mby, .int 0, .int (-1), .int 0, .int 0, .int 0, .int 0, .int 0, .int 0, .ref mkeptKeys, .ref mkeptValues, .ref mkeptHeights, .ref mkeptHeats, .ref mkeptKeys2, .ref mkeptValues2, .ref mkeptHeights2, .ref mkeptHeats2, .ref mkeptSights, .long hh]))] 0 0 (fun (r : Int32) (u : Unit) => r = (-101)) (fun u => [(mo, .inr (12, [.ref mpage, .int 0, .int 0, .int 0, .int 0, .int 0, .int 0, .int 0, .ref mkeys, .ref mvalues, .ref mheights, .ref mheats, .int 0, .ref msecondKeys, .ref msecondValues, .ref msecondHeights, .ref msecondHeats, .int 0, .int 0, .int 0, .int 0, .ref msaved, .ref mbestHeights, .int 0, .ref msights, .ref mby, .int 0, .int (-1), .int 0, .int 0, .int 0, .int 0, .int 0, .int 0, .ref mkeptKeys, .ref mkeptValues, .ref mkeptHeights, .ref mkeptHeats, .ref mkeptKeys2, .ref mkeptValues2, .ref mkeptHeights2, .ref mkeptHeats2, .ref mkeptSights, .long hh]))]) := by
  refine wk_mkCi (by decide) (Nat.le_of_ble_eq_true rfl) ?_
  intro p e s m below meth c A ls B hA hK hP hD hS hl
  obtain ⟨hx, hb, hr, hlocks, hml, hown, htb, hin⟩ := B
  have hl : lv_has ls 3 [(0, .ref mo), (1, .int a), (2, .int b)] := hl
  refine lv_aload_n hx hb dX12_lane_0 rfl (lv_at hl 0 rfl) ?_
  refine wk_iV (As := []) (rest := []) (wc := [(mo, .inr (12, [.ref mpage, .int 0, .int 0, .int 0, .int 0, .int 0, .int 0, .int 0, .ref mkeys, .ref mvalues, .ref mheights, .ref mheats, .int 0, .ref msecondKeys, .ref msecondValues, .ref msecondHeights, .ref msecondHeats, .int 0, .int 0, .int 0, .int 0, .ref msaved, .ref mbestHeights, .int 0, .ref msights, .ref mby, .int 0, .int (-1), .int 0, .int 0, .int 0, .int 0, .int 0, .int 0, .ref mkeptKeys, .ref mkeptValues, .ref mkeptHeights, .ref mkeptHeats, .ref mkeptKeys2, .ref mkeptValues2, .ref mkeptHeights2, .ref mkeptHeats2, .ref mkeptSights, .long hh]))]) (wr := []) (n := 0) (R := _) ⟨hx, hb, hml, hown, htb⟩ (c_X12_lacks l D cy mo mpage mkeys mvalues mheights mheats msecondKeys msecondValues msecondHeights msecondHeats msaved mbestHeights msights mby mkeptKeys mkeptValues mkeptHeights mkeptHeats mkeptKeys2 mkeptValues2 mkeptHeights2 mkeptHeats2 mkeptSights  hh) tw_969 tw_966 tw_968 tw_29 tw_71 rfl rfl (by decide +kernel) ⟨Nat.le_of_ble_eq_true rfl, Nat.le_of_ble_eq_true rfl⟩ hK hP hD hS hA [0] [] rfl rfl rfl rfl (by decide) 0 (ci := 12) rfl rfl rfl hl.1 rfl (Nat.le_of_ble_eq_true rfl) dX12_lane_1 ⟨Nat.le_of_ble_eq_true rfl, Nat.le_of_ble_eq_true rfl⟩ (fun r_1 u_2 H locs hw_3 hP hD hS => ?_)
  refine W.widen (k := 0) (n := 0) (by decide) (by decide) ?_
  have hw_3 : r_1 = 1 := hw_3
  subst hw_3
  have hP : va_P D classes [(mo, .inr (12, [.ref mpage, .int 0, .int 0, .int 0, .int 0, .int 0, .int 0, .int 0, .ref mkeys, .ref mvalues, .ref mheights, .ref mheats, .int 0, .ref msecondKeys, .ref msecondValues, .ref msecondHeights, .ref msecondHeats, .int 0, .int 0, .int 0, .int 0, .ref msaved, .ref mbestHeights, .int 0, .ref msights, .ref mby, .int 0, .int (-1), .int 0, .int 0, .int 0, .int 0, .int 0, .int 0, .ref mkeptKeys, .ref mkeptValues, .ref mkeptHeights, .ref mkeptHeats, .ref mkeptKeys2, .ref mkeptValues2, .ref mkeptHeights2, .ref mkeptHeats2, .ref mkeptSights, .long hh]))] H := hP
  have hD : va_D A [(mo, .inr (12, [.ref mpage, .int 0, .int 0, .int 0, .int 0, .int 0, .int 0, .int 0, .ref mkeys, .ref mvalues, .ref mheights, .ref mheats, .int 0, .ref msecondKeys, .ref msecondValues, .ref msecondHeights, .ref msecondHeats, .int 0, .int 0, .int 0, .int 0, .ref msaved, .ref mbestHeights, .int 0, .ref msights, .ref mby, .int 0, .int (-1), .int 0, .int 0, .int 0, .int 0, .int 0, .int 0, .ref mkeptKeys, .ref mkeptValues, .ref mkeptHeights, .ref mkeptHeats, .ref mkeptKeys2, .ref mkeptValues2, .ref mkeptHeights2, .ref mkeptHeats2, .ref mkeptSights, .long hh]))] := hD
  refine lv_if_ne (tgt := 28) hx hb dX12_lane_4 (by decide) (fun _ => ?_) (fun c_4 => absurd c_4 (by decide))
  refine lv_bipush (v := (-101)) hx hb dX12_lane_28 (by decide) ?_
  refine W.widen (k := 0) (n := 0) (by decide) (by decide) ?_
  exact wk_iret () hx hb hr hlocks rfl hK hP hD hS [0] rfl rfl dX12_lane_30
theorem dX12_find_0 : decode cX12_find 0 = .ok (.iload_n 1, 1) := by decide +kernel
theorem dX12_find_1 : decode cX12_find 1 = .ok (.invokestatic 180, 3) := by decide +kernel
theorem dX12_find_4 : decode cX12_find 4 = .ok (.ifCond .eq 15, 3) := by decide +kernel
theorem dX12_find_7 : decode cX12_find 7 = .ok (.iload_n 2, 1) := by decide +kernel
theorem dX12_find_8 : decode cX12_find 8 = .ok (.i2l, 1) := by decide +kernel
theorem dX12_find_9 : decode cX12_find 9 = .ok (.lconst 0, 1) := by decide +kernel
theorem dX12_find_10 : decode cX12_find 10 = .ok (.ldc2_w 183, 3) := by decide +kernel
theorem dX12_find_13 : decode cX12_find 13 = .ok (.invokestatic 82, 3) := by decide +kernel
theorem dX12_find_16 : decode cX12_find 16 = .ok (.ifCond .ne 6, 3) := by decide +kernel
theorem dX12_find_19 : decode cX12_find 19 = .ok (.bipush (-102), 2) := by decide +kernel
theorem dX12_find_21 : decode cX12_find 21 = .ok (.ireturn, 1) := by decide +kernel
theorem dX12_find_22 : decode cX12_find 22 = .ok (.aload_n 0, 1) := by decide +kernel
theorem dX12_find_23 : decode cX12_find 23 = .ok (.invokevirtual 185, 3) := by decide +kernel
theorem dX12_find_26 : decode cX12_find 26 = .ok (.ifCond .eq 6, 3) := by decide +kernel
theorem dX12_find_29 : decode cX12_find 29 = .ok (.bipush (-103), 2) := by decide +kernel
theorem dX12_find_31 : decode cX12_find 31 = .ok (.ireturn, 1) := by decide +kernel
set_option maxHeartbeats 4000000 in
set_option maxRecDepth 100000 in
theorem c_X12_find (l : Launch) (D : va_G) (cy : ClassId) (mo mpage mkeys mvalues mheights mheats msecondKeys msecondValues msecondHeights msecondHeats msaved mbestHeights msights mby mkeptKeys mkeptValues mkeptHeights mkeptHeats mkeptKeys2 mkeptValues2 mkeptHeights2 mkeptHeats2 mkeptSights : Nat) (a b : Int32) (hh : Int64) : wk_Ci l yX12_find cX12_find 3 (some .int) { frames := 2, cells := 0, slots := 0, locals := 45 } D cy [.ref mo, .int a, .int b] [(mo, .inr (12, [.ref mpage, .int 0, .int 0, .int 0, .int 0, .int 0, .int 0, .int 0, .ref mkeys, .ref mvalues, .ref mheights, .ref mheats, .int 0, .ref msecondKeys, .ref msecondValues, .ref msecondHeights, .ref msecondHeats, .int 0, .int 0, .int 0, .int 0, .ref msaved, .ref mbestHeights, .int 0, .ref msights, .ref mby, .int 0, .int (-1), .int 0, .int 0, .int 0, .int 0, .int 0, .int 0, .ref mkeptKeys, .ref mkeptValues, .ref mkeptHeights, .ref mkeptHeats, .ref mkeptKeys2, .ref mkeptValues2, .ref mkeptHeights2, .ref mkeptHeats2, .ref mkeptSights, .long hh]))] 0 0 (fun (r : Int32) (u : Unit) => r = if (0 ≤ a.toInt ∧ a.toInt ≤ 99) ∧ (0 ≤ b.toInt ∧ b.toInt ≤ 3) then (-103) else (-102)) (fun u => [(mo, .inr (12, [.ref mpage, .int 0, .int 0, .int 0, .int 0, .int 0, .int 0, .int 0, .ref mkeys, .ref mvalues, .ref mheights, .ref mheats, .int 0, .ref msecondKeys, .ref msecondValues, .ref msecondHeights, .ref msecondHeats, .int 0, .int 0, .int 0, .int 0, .ref msaved, .ref mbestHeights, .int 0, .ref msights, .ref mby, .int 0, .int (-1), .int 0, .int 0, .int 0, .int 0, .int 0, .int 0, .ref mkeptKeys, .ref mkeptValues, .ref mkeptHeights, .ref mkeptHeats, .ref mkeptKeys2, .ref mkeptValues2, .ref mkeptHeights2, .ref mkeptHeats2, .ref mkeptSights, .long hh]))]) := by
  refine wk_mkCi (by decide) (Nat.le_of_ble_eq_true rfl) ?_
  intro p e s m below meth c A ls B hA hK hP hD hS hl
  obtain ⟨hx, hb, hr, hlocks, hml, hown, htb, hin⟩ := B
  have hl : lv_has ls 3 [(0, .ref mo), (1, .int a), (2, .int b)] := hl
  refine lv_iload_n hx hb dX12_find_0 rfl (lv_at hl 1 rfl) ?_
  refine wk_iS (As := [.int a]) (rest := []) (wc := []) (wr := [(mo, .inr (12, [.ref mpage, .int 0, .int 0, .int 0, .int 0, .int 0, .int 0, .int 0, .ref mkeys, .ref mvalues, .ref mheights, .ref mheats, .int 0, .ref msecondKeys, .ref msecondValues, .ref msecondHeights, .ref msecondHeats, .int 0, .int 0, .int 0, .int 0, .ref msaved, .ref mbestHeights, .int 0, .ref msights, .ref mby, .int 0, .int (-1), .int 0, .int 0, .int 0, .int 0, .int 0, .int 0, .ref mkeptKeys, .ref mkeptValues, .ref mkeptHeights, .ref mkeptHeats, .ref mkeptKeys2, .ref mkeptValues2, .ref mkeptHeights2, .ref mkeptHeats2, .ref mkeptSights, .long hh]))]) (n := 1) (R := _) ⟨hx, hb, hml, hown, htb⟩ (c_X12_isKey l D cy  a ) tw_963 tw_961 tw_962 tw_71 rfl rfl (by decide +kernel) ⟨Nat.le_of_ble_eq_true rfl, Nat.le_of_ble_eq_true rfl⟩ hK hP hD hS hA [] [0] rfl rfl rfl rfl (by decide) rfl hl.1 rfl (Nat.le_of_ble_eq_true rfl) dX12_find_1 ⟨Nat.le_of_ble_eq_true rfl, Nat.le_of_ble_eq_true rfl⟩ (fun r_1 u_2 H locs hw_3 hP hD hS => ?_)
  refine W.widen (k := 0) (n := 0) (by decide) (by decide) ?_
  have hw_3 : r_1 = if (0 ≤ a.toInt ∧ a.toInt ≤ 99) then 1 else 0 := hw_3
  subst hw_3
  have hP : va_P D classes [(mo, .inr (12, [.ref mpage, .int 0, .int 0, .int 0, .int 0, .int 0, .int 0, .int 0, .ref mkeys, .ref mvalues, .ref mheights, .ref mheats, .int 0, .ref msecondKeys, .ref msecondValues, .ref msecondHeights, .ref msecondHeats, .int 0, .int 0, .int 0, .int 0, .ref msaved, .ref mbestHeights, .int 0, .ref msights, .ref mby, .int 0, .int (-1), .int 0, .int 0, .int 0, .int 0, .int 0, .int 0, .ref mkeptKeys, .ref mkeptValues, .ref mkeptHeights, .ref mkeptHeats, .ref mkeptKeys2, .ref mkeptValues2, .ref mkeptHeights2, .ref mkeptHeats2, .ref mkeptSights, .long hh]))] H := hP
  have hD : va_D A [(mo, .inr (12, [.ref mpage, .int 0, .int 0, .int 0, .int 0, .int 0, .int 0, .int 0, .ref mkeys, .ref mvalues, .ref mheights, .ref mheats, .int 0, .ref msecondKeys, .ref msecondValues, .ref msecondHeights, .ref msecondHeats, .int 0, .int 0, .int 0, .int 0, .ref msaved, .ref mbestHeights, .int 0, .ref msights, .ref mby, .int 0, .int (-1), .int 0, .int 0, .int 0, .int 0, .int 0, .int 0, .ref mkeptKeys, .ref mkeptValues, .ref mkeptHeights, .ref mkeptHeats, .ref mkeptKeys2, .ref mkeptValues2, .ref mkeptHeights2, .ref mkeptHeats2, .ref mkeptSights, .long hh]))] := hD
  refine lv_if_eq (tgt := 19) hx hb dX12_find_4 (by decide) (fun c_4 => ?_) (fun c_4 => ?_)
  · have k_4 : ¬ ((0 ≤ a.toInt ∧ a.toInt ≤ 99)) := wk_o0 c_4
    refine lv_bipush (v := (-102)) hx hb dX12_find_19 (by decide) ?_
    refine W.widen (k := 0) (n := 0) (by decide) (by decide) ?_
    exact wk_iret () hx hb hr hlocks (if_neg (by omega)).symm hK hP hD hS [0] rfl rfl dX12_find_21
  · have k_4 : (0 ≤ a.toInt ∧ a.toInt ≤ 99) := wk_o1 c_4
    refine lv_iload_n hx hb dX12_find_7 rfl (lv_at hl 2 rfl) ?_
    refine lv_i2l (v := b.toInt64) hx hb dX12_find_8 rfl ?_
    refine lv_lconst (v := 0) hx hb dX12_find_9 (by decide) ?_
    refine lv_ldc2 (v := 3) hx hb hown (htb _ tw_965) dX12_find_10 ?_
    refine wk_iS (As := [.long b.toInt64, .long 0, .long 3]) (rest := []) (wc := []) (wr := [(mo, .inr (12, [.ref mpage, .int 0, .int 0, .int 0, .int 0, .int 0, .int 0, .int 0, .ref mkeys, .ref mvalues, .ref mheights, .ref mheats, .int 0, .ref msecondKeys, .ref msecondValues, .ref msecondHeights, .ref msecondHeats, .int 0, .int 0, .int 0, .int 0, .ref msaved, .ref mbestHeights, .int 0, .ref msights, .ref mby, .int 0, .int (-1), .int 0, .int 0, .int 0, .int 0, .int 0, .int 0, .ref mkeptKeys, .ref mkeptValues, .ref mkeptHeights, .ref mkeptHeats, .ref mkeptKeys2, .ref mkeptValues2, .ref mkeptHeights2, .ref mkeptHeats2, .ref mkeptSights, .long hh]))]) (n := 3) (R := _) ⟨hx, hb, hml, hown, htb⟩ (c_X12_in l D cy   b.toInt64 0 3) tw_903 tw_901 tw_902 tw_71 rfl rfl (by decide +kernel) ⟨Nat.le_of_ble_eq_true rfl, Nat.le_of_ble_eq_true rfl⟩ hK hP hD hS hA [] [0] rfl rfl rfl rfl (by decide) rfl hl.1 rfl (Nat.le_of_ble_eq_true rfl) dX12_find_13 ⟨Nat.le_of_ble_eq_true rfl, Nat.le_of_ble_eq_true rfl⟩ (fun r_5 u_6 H locs hw_7 hP hD hS => ?_)
    refine W.widen (k := 0) (n := 0) (by decide) (by decide) ?_
    have hw_7 : r_5 = wk_in b.toInt64 0 3 := hw_7
    subst hw_7
    have hP : va_P D classes [(mo, .inr (12, [.ref mpage, .int 0, .int 0, .int 0, .int 0, .int 0, .int 0, .int 0, .ref mkeys, .ref mvalues, .ref mheights, .ref mheats, .int 0, .ref msecondKeys, .ref msecondValues, .ref msecondHeights, .ref msecondHeats, .int 0, .int 0, .int 0, .int 0, .ref msaved, .ref mbestHeights, .int 0, .ref msights, .ref mby, .int 0, .int (-1), .int 0, .int 0, .int 0, .int 0, .int 0, .int 0, .ref mkeptKeys, .ref mkeptValues, .ref mkeptHeights, .ref mkeptHeats, .ref mkeptKeys2, .ref mkeptValues2, .ref mkeptHeights2, .ref mkeptHeats2, .ref mkeptSights, .long hh]))] H := hP
    have hD : va_D A [(mo, .inr (12, [.ref mpage, .int 0, .int 0, .int 0, .int 0, .int 0, .int 0, .int 0, .ref mkeys, .ref mvalues, .ref mheights, .ref mheats, .int 0, .ref msecondKeys, .ref msecondValues, .ref msecondHeights, .ref msecondHeats, .int 0, .int 0, .int 0, .int 0, .ref msaved, .ref mbestHeights, .int 0, .ref msights, .ref mby, .int 0, .int (-1), .int 0, .int 0, .int 0, .int 0, .int 0, .int 0, .ref mkeptKeys, .ref mkeptValues, .ref mkeptHeights, .ref mkeptHeats, .ref mkeptKeys2, .ref mkeptValues2, .ref mkeptHeights2, .ref mkeptHeats2, .ref mkeptSights, .long hh]))] := hD
    refine lv_if_ne (tgt := 22) hx hb dX12_find_16 (by decide) (fun c_8 => ?_) (fun c_8 => ?_)
    · have k_8 : 0 ≤ b.toInt ∧ b.toInt ≤ 3 := by have h9 := wk_in1 c_8; simp only [wk_64] at h9; exact h9
      refine lv_aload_n hx hb dX12_find_22 rfl (lv_at hl 0 rfl) ?_
      refine wk_iV (As := []) (rest := []) (wc := [(mo, .inr (12, [.ref mpage, .int 0, .int 0, .int 0, .int 0, .int 0, .int 0, .int 0, .ref mkeys, .ref mvalues, .ref mheights, .ref mheats, .int 0, .ref msecondKeys, .ref msecondValues, .ref msecondHeights, .ref msecondHeats, .int 0, .int 0, .int 0, .int 0, .ref msaved, .ref mbestHeights, .int 0, .ref msights, .ref mby, .int 0, .int (-1), .int 0, .int 0, .int 0, .int 0, .int 0, .int 0, .ref mkeptKeys, .ref mkeptValues, .ref mkeptHeights, .ref mkeptHeats, .ref mkeptKeys2, .ref mkeptValues2, .ref mkeptHeights2, .ref mkeptHeats2, .ref mkeptSights, .long hh]))]) (wr := []) (n := 0) (R := _) ⟨hx, hb, hml, hown, htb⟩ (c_X12_lacks l D cy mo mpage mkeys mvalues mheights mheats msecondKeys msecondValues msecondHeights msecondHeats msaved mbestHeights msights mby mkeptKeys mkeptValues mkeptHeights mkeptHeats mkeptKeys2 mkeptValues2 mkeptHeights2 mkeptHeats2 mkeptSights  hh) tw_969 tw_966 tw_968 tw_29 tw_71 rfl rfl (by decide +kernel) ⟨Nat.le_of_ble_eq_true rfl, Nat.le_of_ble_eq_true rfl⟩ hK hP hD hS hA [0] [] rfl rfl rfl rfl (by decide) 0 (ci := 12) rfl rfl rfl hl.1 rfl (Nat.le_of_ble_eq_true rfl) dX12_find_23 ⟨Nat.le_of_ble_eq_true rfl, Nat.le_of_ble_eq_true rfl⟩ (fun r_9 u_10 H locs hw_11 hP hD hS => ?_)
      refine W.widen (k := 0) (n := 0) (by decide) (by decide) ?_
      have hw_11 : r_9 = 1 := hw_11
      subst hw_11
      have hP : va_P D classes [(mo, .inr (12, [.ref mpage, .int 0, .int 0, .int 0, .int 0, .int 0, .int 0, .int 0, .ref mkeys, .ref mvalues, .ref mheights, .ref mheats, .int 0, .ref msecondKeys, .ref msecondValues, .ref msecondHeights, .ref msecondHeats, .int 0, .int 0, .int 0, .int 0, .ref msaved, .ref mbestHeights, .int 0, .ref msights, .ref mby, .int 0, .int (-1), .int 0, .int 0, .int 0, .int 0, .int 0, .int 0, .ref mkeptKeys, .ref mkeptValues, .ref mkeptHeights, .ref mkeptHeats, .ref mkeptKeys2, .ref mkeptValues2, .ref mkeptHeights2, .ref mkeptHeats2, .ref mkeptSights, .long hh]))] H := hP
      have hD : va_D A [(mo, .inr (12, [.ref mpage, .int 0, .int 0, .int 0, .int 0, .int 0, .int 0, .int 0, .ref mkeys, .ref mvalues, .ref mheights, .ref mheats, .int 0, .ref msecondKeys, .ref msecondValues, .ref msecondHeights, .ref msecondHeats, .int 0, .int 0, .int 0, .int 0, .ref msaved, .ref mbestHeights, .int 0, .ref msights, .ref mby, .int 0, .int (-1), .int 0, .int 0, .int 0, .int 0, .int 0, .int 0, .ref mkeptKeys, .ref mkeptValues, .ref mkeptHeights, .ref mkeptHeats, .ref mkeptKeys2, .ref mkeptValues2, .ref mkeptHeights2, .ref mkeptHeats2, .ref mkeptSights, .long hh]))] := hD
      refine lv_if_eq (tgt := 32) hx hb dX12_find_26 (by decide) (fun c_12 => absurd c_12 (by decide)) (fun _ => ?_)
      refine lv_bipush (v := (-103)) hx hb dX12_find_29 (by decide) ?_
      refine W.widen (k := 0) (n := 0) (by decide) (by decide) ?_
      exact wk_iret () hx hb hr hlocks (if_pos (by omega)).symm hK hP hD hS [0] rfl rfl dX12_find_31
    · have k_8 : ¬ (0 ≤ b.toInt ∧ b.toInt ≤ 3) := by have h9 := wk_in0 c_8; simp only [wk_64] at h9; exact h9
      refine lv_bipush (v := (-102)) hx hb dX12_find_19 (by decide) ?_
      refine W.widen (k := 0) (n := 0) (by decide) (by decide) ?_
      exact wk_iret () hx hb hr hlocks (if_neg (by omega)).symm hK hP hD hS [0] rfl rfl dX12_find_21
theorem dX12_nth_0 : decode cX12_nth 0 = .ok (.aload_n 0, 1) := by decide +kernel
theorem dX12_nth_1 : decode cX12_nth 1 = .ok (.iload_n 1, 1) := by decide +kernel
theorem dX12_nth_2 : decode cX12_nth 2 = .ok (.invokevirtual 192, 3) := by decide +kernel
theorem dX12_nth_5 : decode cX12_nth 5 = .ok (.ifCond .ne 6, 3) := by decide +kernel
theorem dX12_nth_8 : decode cX12_nth 8 = .ok (.bipush (-101), 2) := by decide +kernel
theorem dX12_nth_10 : decode cX12_nth 10 = .ok (.ireturn, 1) := by decide +kernel
set_option maxHeartbeats 4000000 in
set_option maxRecDepth 100000 in
theorem c_X12_nth (l : Launch) (D : va_G) (cy : ClassId) (mo mpage mkeys mvalues mheights mheats msecondKeys msecondValues msecondHeights msecondHeats msaved mbestHeights msights mby mkeptKeys mkeptValues mkeptHeights mkeptHeats mkeptKeys2 mkeptValues2 mkeptHeights2 mkeptHeats2 mkeptSights : Nat) (a b : Int32) (hh : Int64) : wk_Ci l yX12_nth cX12_nth 3 (some .int) { frames := 2, cells := 0, slots := 0, locals := 46 } D cy [.ref mo, .int a, .int b] [(mo, .inr (12, [.ref mpage, .int 0, .int 0, .int 0, .int 0, .int 0, .int 0, .int 0, .ref mkeys, .ref mvalues, .ref mheights, .ref mheats, .int 0, .ref msecondKeys, .ref msecondValues, .ref msecondHeights, .ref msecondHeats, .int 0, .int 0, .int 0, .int 0, .ref msaved, .ref mbestHeights, .int 0, .ref msights, .ref mby, .int 0, .int (-1), .int 0, .int 0, .int 0, .int 0, .int 0, .int 0, .ref mkeptKeys, .ref mkeptValues, .ref mkeptHeights, .ref mkeptHeats, .ref mkeptKeys2, .ref mkeptValues2, .ref mkeptHeights2, .ref mkeptHeats2, .ref mkeptSights, .long hh]))] 0 0 (fun (r : Int32) (u : Unit) => r = (-101)) (fun u => [(mo, .inr (12, [.ref mpage, .int 0, .int 0, .int 0, .int 0, .int 0, .int 0, .int 0, .ref mkeys, .ref mvalues, .ref mheights, .ref mheats, .int 0, .ref msecondKeys, .ref msecondValues, .ref msecondHeights, .ref msecondHeats, .int 0, .int 0, .int 0, .int 0, .ref msaved, .ref mbestHeights, .int 0, .ref msights, .ref mby, .int 0, .int (-1), .int 0, .int 0, .int 0, .int 0, .int 0, .int 0, .ref mkeptKeys, .ref mkeptValues, .ref mkeptHeights, .ref mkeptHeats, .ref mkeptKeys2, .ref mkeptValues2, .ref mkeptHeights2, .ref mkeptHeats2, .ref mkeptSights, .long hh]))]) := by
  refine wk_mkCi (by decide) (Nat.le_of_ble_eq_true rfl) ?_
  intro p e s m below meth c A ls B hA hK hP hD hS hl
  obtain ⟨hx, hb, hr, hlocks, hml, hown, htb, hin⟩ := B
  have hl : lv_has ls 3 [(0, .ref mo), (1, .int a), (2, .int b)] := hl
  refine lv_aload_n hx hb dX12_nth_0 rfl (lv_at hl 0 rfl) ?_
  refine lv_iload_n hx hb dX12_nth_1 rfl (lv_at hl 1 rfl) ?_
  refine wk_iV (As := [.int a]) (rest := []) (wc := [(mo, .inr (12, [.ref mpage, .int 0, .int 0, .int 0, .int 0, .int 0, .int 0, .int 0, .ref mkeys, .ref mvalues, .ref mheights, .ref mheats, .int 0, .ref msecondKeys, .ref msecondValues, .ref msecondHeights, .ref msecondHeats, .int 0, .int 0, .int 0, .int 0, .ref msaved, .ref mbestHeights, .int 0, .ref msights, .ref mby, .int 0, .int (-1), .int 0, .int 0, .int 0, .int 0, .int 0, .int 0, .ref mkeptKeys, .ref mkeptValues, .ref mkeptHeights, .ref mkeptHeats, .ref mkeptKeys2, .ref mkeptValues2, .ref mkeptHeights2, .ref mkeptHeats2, .ref mkeptSights, .long hh]))]) (wr := []) (n := 1) (R := _) ⟨hx, hb, hml, hown, htb⟩ (c_X12_isNumber l D cy mo mpage mkeys mvalues mheights mheats msecondKeys msecondValues msecondHeights msecondHeats msaved mbestHeights msights mby mkeptKeys mkeptValues mkeptHeights mkeptHeats mkeptKeys2 mkeptValues2 mkeptHeights2 mkeptHeats2 mkeptSights a hh) tw_997 tw_994 tw_996 tw_35 tw_71 rfl rfl (by decide +kernel) ⟨Nat.le_of_ble_eq_true rfl, Nat.le_of_ble_eq_true rfl⟩ hK hP hD hS hA [0] [] rfl rfl rfl rfl (by decide) 0 (ci := 12) rfl rfl rfl hl.1 rfl (Nat.le_of_ble_eq_true rfl) dX12_nth_2 ⟨Nat.le_of_ble_eq_true rfl, Nat.le_of_ble_eq_true rfl⟩ (fun r_1 u_2 H locs hw_3 hP hD hS => ?_)
  refine W.widen (k := 0) (n := 0) (by decide) (by decide) ?_
  have hw_3 : r_1 = 0 := hw_3
  subst hw_3
  have hP : va_P D classes [(mo, .inr (12, [.ref mpage, .int 0, .int 0, .int 0, .int 0, .int 0, .int 0, .int 0, .ref mkeys, .ref mvalues, .ref mheights, .ref mheats, .int 0, .ref msecondKeys, .ref msecondValues, .ref msecondHeights, .ref msecondHeats, .int 0, .int 0, .int 0, .int 0, .ref msaved, .ref mbestHeights, .int 0, .ref msights, .ref mby, .int 0, .int (-1), .int 0, .int 0, .int 0, .int 0, .int 0, .int 0, .ref mkeptKeys, .ref mkeptValues, .ref mkeptHeights, .ref mkeptHeats, .ref mkeptKeys2, .ref mkeptValues2, .ref mkeptHeights2, .ref mkeptHeats2, .ref mkeptSights, .long hh]))] H := hP
  have hD : va_D A [(mo, .inr (12, [.ref mpage, .int 0, .int 0, .int 0, .int 0, .int 0, .int 0, .int 0, .ref mkeys, .ref mvalues, .ref mheights, .ref mheats, .int 0, .ref msecondKeys, .ref msecondValues, .ref msecondHeights, .ref msecondHeats, .int 0, .int 0, .int 0, .int 0, .ref msaved, .ref mbestHeights, .int 0, .ref msights, .ref mby, .int 0, .int (-1), .int 0, .int 0, .int 0, .int 0, .int 0, .int 0, .ref mkeptKeys, .ref mkeptValues, .ref mkeptHeights, .ref mkeptHeats, .ref mkeptKeys2, .ref mkeptValues2, .ref mkeptHeights2, .ref mkeptHeats2, .ref mkeptSights, .long hh]))] := hD
  refine lv_if_ne (tgt := 11) hx hb dX12_nth_5 (by decide) (fun c_4 => absurd (by decide) c_4) (fun _ => ?_)
  refine lv_bipush (v := (-101)) hx hb dX12_nth_8 (by decide) ?_
  refine W.widen (k := 0) (n := 0) (by decide) (by decide) ?_
  exact wk_iret () hx hb hr hlocks rfl hK hP hD hS [0] rfl rfl dX12_nth_10
theorem dX12_sum_0 : decode cX12_sum 0 = .ok (.iload_n 1, 1) := by decide +kernel
theorem dX12_sum_1 : decode cX12_sum 1 = .ok (.invokestatic 180, 3) := by decide +kernel
theorem dX12_sum_4 : decode cX12_sum 4 = .ok (.ifCond .eq 15, 3) := by decide +kernel
theorem dX12_sum_7 : decode cX12_sum 7 = .ok (.iload_n 2, 1) := by decide +kernel
theorem dX12_sum_8 : decode cX12_sum 8 = .ok (.invokestatic 180, 3) := by decide +kernel
theorem dX12_sum_11 : decode cX12_sum 11 = .ok (.ifCond .eq 8, 3) := by decide +kernel
theorem dX12_sum_14 : decode cX12_sum 14 = .ok (.iload_n 1, 1) := by decide +kernel
theorem dX12_sum_15 : decode cX12_sum 15 = .ok (.iload_n 2, 1) := by decide +kernel
theorem dX12_sum_16 : decode cX12_sum 16 = .ok (.if_icmp .le 6, 3) := by decide +kernel
theorem dX12_sum_19 : decode cX12_sum 19 = .ok (.bipush (-102), 2) := by decide +kernel
theorem dX12_sum_21 : decode cX12_sum 21 = .ok (.ireturn, 1) := by decide +kernel
theorem dX12_sum_22 : decode cX12_sum 22 = .ok (.aload_n 0, 1) := by decide +kernel
theorem dX12_sum_23 : decode cX12_sum 23 = .ok (.invokevirtual 185, 3) := by decide +kernel
theorem dX12_sum_26 : decode cX12_sum 26 = .ok (.ifCond .eq 6, 3) := by decide +kernel
theorem dX12_sum_29 : decode cX12_sum 29 = .ok (.bipush (-103), 2) := by decide +kernel
theorem dX12_sum_31 : decode cX12_sum 31 = .ok (.ireturn, 1) := by decide +kernel
set_option maxHeartbeats 4000000 in
set_option maxRecDepth 100000 in
theorem c_X12_sum (l : Launch) (D : va_G) (cy : ClassId) (mo mpage mkeys mvalues mheights mheats msecondKeys msecondValues msecondHeights msecondHeats msaved mbestHeights msights mby mkeptKeys mkeptValues mkeptHeights mkeptHeats mkeptKeys2 mkeptValues2 mkeptHeights2 mkeptHeats2 mkeptSights : Nat) (a b : Int32) (hh : Int64) : wk_Ci l yX12_sum cX12_sum 5 (some .int) { frames := 2, cells := 0, slots := 0, locals := 45 } D cy [.ref mo, .int a, .int b] [(mo, .inr (12, [.ref mpage, .int 0, .int 0, .int 0, .int 0, .int 0, .int 0, .int 0, .ref mkeys, .ref mvalues, .ref mheights, .ref mheats, .int 0, .ref msecondKeys, .ref msecondValues, .ref msecondHeights, .ref msecondHeats, .int 0, .int 0, .int 0, .int 0, .ref msaved, .ref mbestHeights, .int 0, .ref msights, .ref mby, .int 0, .int (-1), .int 0, .int 0, .int 0, .int 0, .int 0, .int 0, .ref mkeptKeys, .ref mkeptValues, .ref mkeptHeights, .ref mkeptHeats, .ref mkeptKeys2, .ref mkeptValues2, .ref mkeptHeights2, .ref mkeptHeats2, .ref mkeptSights, .long hh]))] 0 0 (fun (r : Int32) (u : Unit) => r = if (0 ≤ a.toInt ∧ a.toInt ≤ 99) ∧ (0 ≤ b.toInt ∧ b.toInt ≤ 99) ∧ a.toInt ≤ b.toInt then (-103) else (-102)) (fun u => [(mo, .inr (12, [.ref mpage, .int 0, .int 0, .int 0, .int 0, .int 0, .int 0, .int 0, .ref mkeys, .ref mvalues, .ref mheights, .ref mheats, .int 0, .ref msecondKeys, .ref msecondValues, .ref msecondHeights, .ref msecondHeats, .int 0, .int 0, .int 0, .int 0, .ref msaved, .ref mbestHeights, .int 0, .ref msights, .ref mby, .int 0, .int (-1), .int 0, .int 0, .int 0, .int 0, .int 0, .int 0, .ref mkeptKeys, .ref mkeptValues, .ref mkeptHeights, .ref mkeptHeats, .ref mkeptKeys2, .ref mkeptValues2, .ref mkeptHeights2, .ref mkeptHeats2, .ref mkeptSights, .long hh]))]) := by
  refine wk_mkCi (by decide) (Nat.le_of_ble_eq_true rfl) ?_
  intro p e s m below meth c A ls B hA hK hP hD hS hl
  obtain ⟨hx, hb, hr, hlocks, hml, hown, htb, hin⟩ := B
  have hl : lv_has ls 5 [(0, .ref mo), (1, .int a), (2, .int b)] := hl
  refine lv_iload_n hx hb dX12_sum_0 rfl (lv_at hl 1 rfl) ?_
  refine wk_iS (As := [.int a]) (rest := []) (wc := []) (wr := [(mo, .inr (12, [.ref mpage, .int 0, .int 0, .int 0, .int 0, .int 0, .int 0, .int 0, .ref mkeys, .ref mvalues, .ref mheights, .ref mheats, .int 0, .ref msecondKeys, .ref msecondValues, .ref msecondHeights, .ref msecondHeats, .int 0, .int 0, .int 0, .int 0, .ref msaved, .ref mbestHeights, .int 0, .ref msights, .ref mby, .int 0, .int (-1), .int 0, .int 0, .int 0, .int 0, .int 0, .int 0, .ref mkeptKeys, .ref mkeptValues, .ref mkeptHeights, .ref mkeptHeats, .ref mkeptKeys2, .ref mkeptValues2, .ref mkeptHeights2, .ref mkeptHeats2, .ref mkeptSights, .long hh]))]) (n := 1) (R := _) ⟨hx, hb, hml, hown, htb⟩ (c_X12_isKey l D cy  a ) tw_963 tw_961 tw_962 tw_71 rfl rfl (by decide +kernel) ⟨Nat.le_of_ble_eq_true rfl, Nat.le_of_ble_eq_true rfl⟩ hK hP hD hS hA [] [0] rfl rfl rfl rfl (by decide) rfl hl.1 rfl (Nat.le_of_ble_eq_true rfl) dX12_sum_1 ⟨Nat.le_of_ble_eq_true rfl, Nat.le_of_ble_eq_true rfl⟩ (fun r_1 u_2 H locs hw_3 hP hD hS => ?_)
  refine W.widen (k := 0) (n := 0) (by decide) (by decide) ?_
  have hw_3 : r_1 = if (0 ≤ a.toInt ∧ a.toInt ≤ 99) then 1 else 0 := hw_3
  subst hw_3
  have hP : va_P D classes [(mo, .inr (12, [.ref mpage, .int 0, .int 0, .int 0, .int 0, .int 0, .int 0, .int 0, .ref mkeys, .ref mvalues, .ref mheights, .ref mheats, .int 0, .ref msecondKeys, .ref msecondValues, .ref msecondHeights, .ref msecondHeats, .int 0, .int 0, .int 0, .int 0, .ref msaved, .ref mbestHeights, .int 0, .ref msights, .ref mby, .int 0, .int (-1), .int 0, .int 0, .int 0, .int 0, .int 0, .int 0, .ref mkeptKeys, .ref mkeptValues, .ref mkeptHeights, .ref mkeptHeats, .ref mkeptKeys2, .ref mkeptValues2, .ref mkeptHeights2, .ref mkeptHeats2, .ref mkeptSights, .long hh]))] H := hP
  have hD : va_D A [(mo, .inr (12, [.ref mpage, .int 0, .int 0, .int 0, .int 0, .int 0, .int 0, .int 0, .ref mkeys, .ref mvalues, .ref mheights, .ref mheats, .int 0, .ref msecondKeys, .ref msecondValues, .ref msecondHeights, .ref msecondHeats, .int 0, .int 0, .int 0, .int 0, .ref msaved, .ref mbestHeights, .int 0, .ref msights, .ref mby, .int 0, .int (-1), .int 0, .int 0, .int 0, .int 0, .int 0, .int 0, .ref mkeptKeys, .ref mkeptValues, .ref mkeptHeights, .ref mkeptHeats, .ref mkeptKeys2, .ref mkeptValues2, .ref mkeptHeights2, .ref mkeptHeats2, .ref mkeptSights, .long hh]))] := hD
  refine lv_if_eq (tgt := 19) hx hb dX12_sum_4 (by decide) (fun c_4 => ?_) (fun c_4 => ?_)
  · have k_4 : ¬ ((0 ≤ a.toInt ∧ a.toInt ≤ 99)) := wk_o0 c_4
    refine lv_bipush (v := (-102)) hx hb dX12_sum_19 (by decide) ?_
    refine W.widen (k := 0) (n := 0) (by decide) (by decide) ?_
    exact wk_iret () hx hb hr hlocks (if_neg (by omega)).symm hK hP hD hS [0] rfl rfl dX12_sum_21
  · have k_4 : (0 ≤ a.toInt ∧ a.toInt ≤ 99) := wk_o1 c_4
    refine lv_iload_n hx hb dX12_sum_7 rfl (lv_at hl 2 rfl) ?_
    refine wk_iS (As := [.int b]) (rest := []) (wc := []) (wr := [(mo, .inr (12, [.ref mpage, .int 0, .int 0, .int 0, .int 0, .int 0, .int 0, .int 0, .ref mkeys, .ref mvalues, .ref mheights, .ref mheats, .int 0, .ref msecondKeys, .ref msecondValues, .ref msecondHeights, .ref msecondHeats, .int 0, .int 0, .int 0, .int 0, .ref msaved, .ref mbestHeights, .int 0, .ref msights, .ref mby, .int 0, .int (-1), .int 0, .int 0, .int 0, .int 0, .int 0, .int 0, .ref mkeptKeys, .ref mkeptValues, .ref mkeptHeights, .ref mkeptHeats, .ref mkeptKeys2, .ref mkeptValues2, .ref mkeptHeights2, .ref mkeptHeats2, .ref mkeptSights, .long hh]))]) (n := 1) (R := _) ⟨hx, hb, hml, hown, htb⟩ (c_X12_isKey l D cy  b ) tw_963 tw_961 tw_962 tw_71 rfl rfl (by decide +kernel) ⟨Nat.le_of_ble_eq_true rfl, Nat.le_of_ble_eq_true rfl⟩ hK hP hD hS hA [] [0] rfl rfl rfl rfl (by decide) rfl hl.1 rfl (Nat.le_of_ble_eq_true rfl) dX12_sum_8 ⟨Nat.le_of_ble_eq_true rfl, Nat.le_of_ble_eq_true rfl⟩ (fun r_5 u_6 H locs hw_7 hP hD hS => ?_)
    refine W.widen (k := 0) (n := 0) (by decide) (by decide) ?_
    have hw_7 : r_5 = if (0 ≤ b.toInt ∧ b.toInt ≤ 99) then 1 else 0 := hw_7
    subst hw_7
    have hP : va_P D classes [(mo, .inr (12, [.ref mpage, .int 0, .int 0, .int 0, .int 0, .int 0, .int 0, .int 0, .ref mkeys, .ref mvalues, .ref mheights, .ref mheats, .int 0, .ref msecondKeys, .ref msecondValues, .ref msecondHeights, .ref msecondHeats, .int 0, .int 0, .int 0, .int 0, .ref msaved, .ref mbestHeights, .int 0, .ref msights, .ref mby, .int 0, .int (-1), .int 0, .int 0, .int 0, .int 0, .int 0, .int 0, .ref mkeptKeys, .ref mkeptValues, .ref mkeptHeights, .ref mkeptHeats, .ref mkeptKeys2, .ref mkeptValues2, .ref mkeptHeights2, .ref mkeptHeats2, .ref mkeptSights, .long hh]))] H := hP
    have hD : va_D A [(mo, .inr (12, [.ref mpage, .int 0, .int 0, .int 0, .int 0, .int 0, .int 0, .int 0, .ref mkeys, .ref mvalues, .ref mheights, .ref mheats, .int 0, .ref msecondKeys, .ref msecondValues, .ref msecondHeights, .ref msecondHeats, .int 0, .int 0, .int 0, .int 0, .ref msaved, .ref mbestHeights, .int 0, .ref msights, .ref mby, .int 0, .int (-1), .int 0, .int 0, .int 0, .int 0, .int 0, .int 0, .ref mkeptKeys, .ref mkeptValues, .ref mkeptHeights, .ref mkeptHeats, .ref mkeptKeys2, .ref mkeptValues2, .ref mkeptHeights2, .ref mkeptHeats2, .ref mkeptSights, .long hh]))] := hD
    refine lv_if_eq (tgt := 19) hx hb dX12_sum_11 (by decide) (fun c_8 => ?_) (fun c_8 => ?_)
    · have k_8 : ¬ ((0 ≤ b.toInt ∧ b.toInt ≤ 99)) := wk_o0 c_8
      refine lv_bipush (v := (-102)) hx hb dX12_sum_19 (by decide) ?_
      refine W.widen (k := 0) (n := 0) (by decide) (by decide) ?_
      exact wk_iret () hx hb hr hlocks (if_neg (by omega)).symm hK hP hD hS [0] rfl rfl dX12_sum_21
    · have k_8 : (0 ≤ b.toInt ∧ b.toInt ≤ 99) := wk_o1 c_8
      refine lv_iload_n hx hb dX12_sum_14 rfl (lv_at hl 1 rfl) ?_
      refine lv_iload_n hx hb dX12_sum_15 rfl (lv_at hl 2 rfl) ?_
      refine lv_icmp_le (tgt := 22) hx hb dX12_sum_16 (by decide) (fun c_9 => ?_) (fun c_9 => ?_)
      · have k_9 : a.toInt ≤ b.toInt := wk_le c_9
        refine lv_aload_n hx hb dX12_sum_22 rfl (lv_at hl 0 rfl) ?_
        refine wk_iV (As := []) (rest := []) (wc := [(mo, .inr (12, [.ref mpage, .int 0, .int 0, .int 0, .int 0, .int 0, .int 0, .int 0, .ref mkeys, .ref mvalues, .ref mheights, .ref mheats, .int 0, .ref msecondKeys, .ref msecondValues, .ref msecondHeights, .ref msecondHeats, .int 0, .int 0, .int 0, .int 0, .ref msaved, .ref mbestHeights, .int 0, .ref msights, .ref mby, .int 0, .int (-1), .int 0, .int 0, .int 0, .int 0, .int 0, .int 0, .ref mkeptKeys, .ref mkeptValues, .ref mkeptHeights, .ref mkeptHeats, .ref mkeptKeys2, .ref mkeptValues2, .ref mkeptHeights2, .ref mkeptHeats2, .ref mkeptSights, .long hh]))]) (wr := []) (n := 0) (R := _) ⟨hx, hb, hml, hown, htb⟩ (c_X12_lacks l D cy mo mpage mkeys mvalues mheights mheats msecondKeys msecondValues msecondHeights msecondHeats msaved mbestHeights msights mby mkeptKeys mkeptValues mkeptHeights mkeptHeats mkeptKeys2 mkeptValues2 mkeptHeights2 mkeptHeats2 mkeptSights  hh) tw_969 tw_966 tw_968 tw_29 tw_71 rfl rfl (by decide +kernel) ⟨Nat.le_of_ble_eq_true rfl, Nat.le_of_ble_eq_true rfl⟩ hK hP hD hS hA [0] [] rfl rfl rfl rfl (by decide) 0 (ci := 12) rfl rfl rfl hl.1 rfl (Nat.le_of_ble_eq_true rfl) dX12_sum_23 ⟨Nat.le_of_ble_eq_true rfl, Nat.le_of_ble_eq_true rfl⟩ (fun r_10 u_11 H locs hw_12 hP hD hS => ?_)
        refine W.widen (k := 0) (n := 0) (by decide) (by decide) ?_
        have hw_12 : r_10 = 1 := hw_12
        subst hw_12
        have hP : va_P D classes [(mo, .inr (12, [.ref mpage, .int 0, .int 0, .int 0, .int 0, .int 0, .int 0, .int 0, .ref mkeys, .ref mvalues, .ref mheights, .ref mheats, .int 0, .ref msecondKeys, .ref msecondValues, .ref msecondHeights, .ref msecondHeats, .int 0, .int 0, .int 0, .int 0, .ref msaved, .ref mbestHeights, .int 0, .ref msights, .ref mby, .int 0, .int (-1), .int 0, .int 0, .int 0, .int 0, .int 0, .int 0, .ref mkeptKeys, .ref mkeptValues, .ref mkeptHeights, .ref mkeptHeats, .ref mkeptKeys2, .ref mkeptValues2, .ref mkeptHeights2, .ref mkeptHeats2, .ref mkeptSights, .long hh]))] H := hP
        have hD : va_D A [(mo, .inr (12, [.ref mpage, .int 0, .int 0, .int 0, .int 0, .int 0, .int 0, .int 0, .ref mkeys, .ref mvalues, .ref mheights, .ref mheats, .int 0, .ref msecondKeys, .ref msecondValues, .ref msecondHeights, .ref msecondHeats, .int 0, .int 0, .int 0, .int 0, .ref msaved, .ref mbestHeights, .int 0, .ref msights, .ref mby, .int 0, .int (-1), .int 0, .int 0, .int 0, .int 0, .int 0, .int 0, .ref mkeptKeys, .ref mkeptValues, .ref mkeptHeights, .ref mkeptHeats, .ref mkeptKeys2, .ref mkeptValues2, .ref mkeptHeights2, .ref mkeptHeats2, .ref mkeptSights, .long hh]))] := hD
        refine lv_if_eq (tgt := 32) hx hb dX12_sum_26 (by decide) (fun c_13 => absurd c_13 (by decide)) (fun _ => ?_)
        refine lv_bipush (v := (-103)) hx hb dX12_sum_29 (by decide) ?_
        refine W.widen (k := 0) (n := 0) (by decide) (by decide) ?_
        exact wk_iret () hx hb hr hlocks (if_pos (by omega)).symm hK hP hD hS [0] rfl rfl dX12_sum_31
      · have k_9 : ¬ a.toInt ≤ b.toInt := wk_nle c_9
        refine lv_bipush (v := (-102)) hx hb dX12_sum_19 (by decide) ?_
        refine W.widen (k := 0) (n := 0) (by decide) (by decide) ?_
        exact wk_iret () hx hb hr hlocks (if_neg (by omega)).symm hK hP hD hS [0] rfl rfl dX12_sum_21
theorem dX12_finger_0 : decode cX12_finger 0 = .ok (.aload_n 0, 1) := by decide +kernel
theorem dX12_finger_1 : decode cX12_finger 1 = .ok (.iload_n 1, 1) := by decide +kernel
theorem dX12_finger_2 : decode cX12_finger 2 = .ok (.invokevirtual 192, 3) := by decide +kernel
theorem dX12_finger_5 : decode cX12_finger 5 = .ok (.ifCond .ne 6, 3) := by decide +kernel
theorem dX12_finger_8 : decode cX12_finger 8 = .ok (.bipush (-101), 2) := by decide +kernel
theorem dX12_finger_10 : decode cX12_finger 10 = .ok (.ireturn, 1) := by decide +kernel
set_option maxHeartbeats 4000000 in
set_option maxRecDepth 100000 in
theorem c_X12_finger (l : Launch) (D : va_G) (cy : ClassId) (mo mpage mkeys mvalues mheights mheats msecondKeys msecondValues msecondHeights msecondHeats msaved mbestHeights msights mby mkeptKeys mkeptValues mkeptHeights mkeptHeats mkeptKeys2 mkeptValues2 mkeptHeights2 mkeptHeats2 mkeptSights : Nat) (a b d : Int32) (hh : Int64) : wk_Ci l yX12_finger cX12_finger 4 (some .int) { frames := 2, cells := 0, slots := 0, locals := 46 } D cy [.ref mo, .int a, .int b, .int d] [(mo, .inr (12, [.ref mpage, .int 0, .int 0, .int 0, .int 0, .int 0, .int 0, .int 0, .ref mkeys, .ref mvalues, .ref mheights, .ref mheats, .int 0, .ref msecondKeys, .ref msecondValues, .ref msecondHeights, .ref msecondHeats, .int 0, .int 0, .int 0, .int 0, .ref msaved, .ref mbestHeights, .int 0, .ref msights, .ref mby, .int 0, .int (-1), .int 0, .int 0, .int 0, .int 0, .int 0, .int 0, .ref mkeptKeys, .ref mkeptValues, .ref mkeptHeights, .ref mkeptHeats, .ref mkeptKeys2, .ref mkeptValues2, .ref mkeptHeights2, .ref mkeptHeats2, .ref mkeptSights, .long hh]))] 0 0 (fun (r : Int32) (u : Unit) => r = (-101)) (fun u => [(mo, .inr (12, [.ref mpage, .int 0, .int 0, .int 0, .int 0, .int 0, .int 0, .int 0, .ref mkeys, .ref mvalues, .ref mheights, .ref mheats, .int 0, .ref msecondKeys, .ref msecondValues, .ref msecondHeights, .ref msecondHeats, .int 0, .int 0, .int 0, .int 0, .ref msaved, .ref mbestHeights, .int 0, .ref msights, .ref mby, .int 0, .int (-1), .int 0, .int 0, .int 0, .int 0, .int 0, .int 0, .ref mkeptKeys, .ref mkeptValues, .ref mkeptHeights, .ref mkeptHeats, .ref mkeptKeys2, .ref mkeptValues2, .ref mkeptHeights2, .ref mkeptHeats2, .ref mkeptSights, .long hh]))]) := by
  refine wk_mkCi (by decide) (Nat.le_of_ble_eq_true rfl) ?_
  intro p e s m below meth c A ls B hA hK hP hD hS hl
  obtain ⟨hx, hb, hr, hlocks, hml, hown, htb, hin⟩ := B
  have hl : lv_has ls 4 [(0, .ref mo), (1, .int a), (2, .int b), (3, .int d)] := hl
  refine lv_aload_n hx hb dX12_finger_0 rfl (lv_at hl 0 rfl) ?_
  refine lv_iload_n hx hb dX12_finger_1 rfl (lv_at hl 1 rfl) ?_
  refine wk_iV (As := [.int a]) (rest := []) (wc := [(mo, .inr (12, [.ref mpage, .int 0, .int 0, .int 0, .int 0, .int 0, .int 0, .int 0, .ref mkeys, .ref mvalues, .ref mheights, .ref mheats, .int 0, .ref msecondKeys, .ref msecondValues, .ref msecondHeights, .ref msecondHeats, .int 0, .int 0, .int 0, .int 0, .ref msaved, .ref mbestHeights, .int 0, .ref msights, .ref mby, .int 0, .int (-1), .int 0, .int 0, .int 0, .int 0, .int 0, .int 0, .ref mkeptKeys, .ref mkeptValues, .ref mkeptHeights, .ref mkeptHeats, .ref mkeptKeys2, .ref mkeptValues2, .ref mkeptHeights2, .ref mkeptHeats2, .ref mkeptSights, .long hh]))]) (wr := []) (n := 1) (R := _) ⟨hx, hb, hml, hown, htb⟩ (c_X12_isNumber l D cy mo mpage mkeys mvalues mheights mheats msecondKeys msecondValues msecondHeights msecondHeats msaved mbestHeights msights mby mkeptKeys mkeptValues mkeptHeights mkeptHeats mkeptKeys2 mkeptValues2 mkeptHeights2 mkeptHeats2 mkeptSights a hh) tw_997 tw_994 tw_996 tw_35 tw_71 rfl rfl (by decide +kernel) ⟨Nat.le_of_ble_eq_true rfl, Nat.le_of_ble_eq_true rfl⟩ hK hP hD hS hA [0] [] rfl rfl rfl rfl (by decide) 0 (ci := 12) rfl rfl rfl hl.1 rfl (Nat.le_of_ble_eq_true rfl) dX12_finger_2 ⟨Nat.le_of_ble_eq_true rfl, Nat.le_of_ble_eq_true rfl⟩ (fun r_1 u_2 H locs hw_3 hP hD hS => ?_)
  refine W.widen (k := 0) (n := 0) (by decide) (by decide) ?_
  have hw_3 : r_1 = 0 := hw_3
  subst hw_3
  have hP : va_P D classes [(mo, .inr (12, [.ref mpage, .int 0, .int 0, .int 0, .int 0, .int 0, .int 0, .int 0, .ref mkeys, .ref mvalues, .ref mheights, .ref mheats, .int 0, .ref msecondKeys, .ref msecondValues, .ref msecondHeights, .ref msecondHeats, .int 0, .int 0, .int 0, .int 0, .ref msaved, .ref mbestHeights, .int 0, .ref msights, .ref mby, .int 0, .int (-1), .int 0, .int 0, .int 0, .int 0, .int 0, .int 0, .ref mkeptKeys, .ref mkeptValues, .ref mkeptHeights, .ref mkeptHeats, .ref mkeptKeys2, .ref mkeptValues2, .ref mkeptHeights2, .ref mkeptHeats2, .ref mkeptSights, .long hh]))] H := hP
  have hD : va_D A [(mo, .inr (12, [.ref mpage, .int 0, .int 0, .int 0, .int 0, .int 0, .int 0, .int 0, .ref mkeys, .ref mvalues, .ref mheights, .ref mheats, .int 0, .ref msecondKeys, .ref msecondValues, .ref msecondHeights, .ref msecondHeats, .int 0, .int 0, .int 0, .int 0, .ref msaved, .ref mbestHeights, .int 0, .ref msights, .ref mby, .int 0, .int (-1), .int 0, .int 0, .int 0, .int 0, .int 0, .int 0, .ref mkeptKeys, .ref mkeptValues, .ref mkeptHeights, .ref mkeptHeats, .ref mkeptKeys2, .ref mkeptValues2, .ref mkeptHeights2, .ref mkeptHeats2, .ref mkeptSights, .long hh]))] := hD
  refine lv_if_ne (tgt := 11) hx hb dX12_finger_5 (by decide) (fun c_4 => absurd (by decide) c_4) (fun _ => ?_)
  refine lv_bipush (v := (-101)) hx hb dX12_finger_8 (by decide) ?_
  refine W.widen (k := 0) (n := 0) (by decide) (by decide) ?_
  exact wk_iret () hx hb hr hlocks rfl hK hP hD hS [0] rfl rfl dX12_finger_10
theorem dX12_ask_0 : decode cX12_ask 0 = .ok (.iload_n 1, 1) := by decide +kernel
theorem dX12_ask_1 : decode cX12_ask 1 = .ok (.invokestatic 180, 3) := by decide +kernel
theorem dX12_ask_4 : decode cX12_ask 4 = .ok (.ifCond .ne 6, 3) := by decide +kernel
theorem dX12_ask_7 : decode cX12_ask 7 = .ok (.bipush (-102), 2) := by decide +kernel
theorem dX12_ask_9 : decode cX12_ask 9 = .ok (.ireturn, 1) := by decide +kernel
theorem dX12_ask_10 : decode cX12_ask 10 = .ok (.aload_n 0, 1) := by decide +kernel
theorem dX12_ask_11 : decode cX12_ask 11 = .ok (.invokevirtual 185, 3) := by decide +kernel
theorem dX12_ask_14 : decode cX12_ask 14 = .ok (.ifCond .eq 6, 3) := by decide +kernel
theorem dX12_ask_17 : decode cX12_ask 17 = .ok (.bipush (-103), 2) := by decide +kernel
theorem dX12_ask_19 : decode cX12_ask 19 = .ok (.ireturn, 1) := by decide +kernel
set_option maxHeartbeats 4000000 in
set_option maxRecDepth 100000 in
theorem c_X12_ask (l : Launch) (D : va_G) (cy : ClassId) (mo mpage mkeys mvalues mheights mheats msecondKeys msecondValues msecondHeights msecondHeats msaved mbestHeights msights mby mkeptKeys mkeptValues mkeptHeights mkeptHeats mkeptKeys2 mkeptValues2 mkeptHeights2 mkeptHeats2 mkeptSights : Nat) (a : Int32) (hh : Int64) : wk_Ci l yX12_ask cX12_ask 2 (some .int) { frames := 2, cells := 0, slots := 0, locals := 45 } D cy [.ref mo, .int a] [(mo, .inr (12, [.ref mpage, .int 0, .int 0, .int 0, .int 0, .int 0, .int 0, .int 0, .ref mkeys, .ref mvalues, .ref mheights, .ref mheats, .int 0, .ref msecondKeys, .ref msecondValues, .ref msecondHeights, .ref msecondHeats, .int 0, .int 0, .int 0, .int 0, .ref msaved, .ref mbestHeights, .int 0, .ref msights, .ref mby, .int 0, .int (-1), .int 0, .int 0, .int 0, .int 0, .int 0, .int 0, .ref mkeptKeys, .ref mkeptValues, .ref mkeptHeights, .ref mkeptHeats, .ref mkeptKeys2, .ref mkeptValues2, .ref mkeptHeights2, .ref mkeptHeats2, .ref mkeptSights, .long hh]))] 0 0 (fun (r : Int32) (u : Unit) => r = if (0 ≤ a.toInt ∧ a.toInt ≤ 99) then (-103) else (-102)) (fun u => [(mo, .inr (12, [.ref mpage, .int 0, .int 0, .int 0, .int 0, .int 0, .int 0, .int 0, .ref mkeys, .ref mvalues, .ref mheights, .ref mheats, .int 0, .ref msecondKeys, .ref msecondValues, .ref msecondHeights, .ref msecondHeats, .int 0, .int 0, .int 0, .int 0, .ref msaved, .ref mbestHeights, .int 0, .ref msights, .ref mby, .int 0, .int (-1), .int 0, .int 0, .int 0, .int 0, .int 0, .int 0, .ref mkeptKeys, .ref mkeptValues, .ref mkeptHeights, .ref mkeptHeats, .ref mkeptKeys2, .ref mkeptValues2, .ref mkeptHeights2, .ref mkeptHeats2, .ref mkeptSights, .long hh]))]) := by
  refine wk_mkCi (by decide) (Nat.le_of_ble_eq_true rfl) ?_
  intro p e s m below meth c A ls B hA hK hP hD hS hl
  obtain ⟨hx, hb, hr, hlocks, hml, hown, htb, hin⟩ := B
  have hl : lv_has ls 2 [(0, .ref mo), (1, .int a)] := hl
  refine lv_iload_n hx hb dX12_ask_0 rfl (lv_at hl 1 rfl) ?_
  refine wk_iS (As := [.int a]) (rest := []) (wc := []) (wr := [(mo, .inr (12, [.ref mpage, .int 0, .int 0, .int 0, .int 0, .int 0, .int 0, .int 0, .ref mkeys, .ref mvalues, .ref mheights, .ref mheats, .int 0, .ref msecondKeys, .ref msecondValues, .ref msecondHeights, .ref msecondHeats, .int 0, .int 0, .int 0, .int 0, .ref msaved, .ref mbestHeights, .int 0, .ref msights, .ref mby, .int 0, .int (-1), .int 0, .int 0, .int 0, .int 0, .int 0, .int 0, .ref mkeptKeys, .ref mkeptValues, .ref mkeptHeights, .ref mkeptHeats, .ref mkeptKeys2, .ref mkeptValues2, .ref mkeptHeights2, .ref mkeptHeats2, .ref mkeptSights, .long hh]))]) (n := 1) (R := _) ⟨hx, hb, hml, hown, htb⟩ (c_X12_isKey l D cy  a ) tw_963 tw_961 tw_962 tw_71 rfl rfl (by decide +kernel) ⟨Nat.le_of_ble_eq_true rfl, Nat.le_of_ble_eq_true rfl⟩ hK hP hD hS hA [] [0] rfl rfl rfl rfl (by decide) rfl hl.1 rfl (Nat.le_of_ble_eq_true rfl) dX12_ask_1 ⟨Nat.le_of_ble_eq_true rfl, Nat.le_of_ble_eq_true rfl⟩ (fun r_1 u_2 H locs hw_3 hP hD hS => ?_)
  refine W.widen (k := 0) (n := 0) (by decide) (by decide) ?_
  have hw_3 : r_1 = if (0 ≤ a.toInt ∧ a.toInt ≤ 99) then 1 else 0 := hw_3
  subst hw_3
  have hP : va_P D classes [(mo, .inr (12, [.ref mpage, .int 0, .int 0, .int 0, .int 0, .int 0, .int 0, .int 0, .ref mkeys, .ref mvalues, .ref mheights, .ref mheats, .int 0, .ref msecondKeys, .ref msecondValues, .ref msecondHeights, .ref msecondHeats, .int 0, .int 0, .int 0, .int 0, .ref msaved, .ref mbestHeights, .int 0, .ref msights, .ref mby, .int 0, .int (-1), .int 0, .int 0, .int 0, .int 0, .int 0, .int 0, .ref mkeptKeys, .ref mkeptValues, .ref mkeptHeights, .ref mkeptHeats, .ref mkeptKeys2, .ref mkeptValues2, .ref mkeptHeights2, .ref mkeptHeats2, .ref mkeptSights, .long hh]))] H := hP
  have hD : va_D A [(mo, .inr (12, [.ref mpage, .int 0, .int 0, .int 0, .int 0, .int 0, .int 0, .int 0, .ref mkeys, .ref mvalues, .ref mheights, .ref mheats, .int 0, .ref msecondKeys, .ref msecondValues, .ref msecondHeights, .ref msecondHeats, .int 0, .int 0, .int 0, .int 0, .ref msaved, .ref mbestHeights, .int 0, .ref msights, .ref mby, .int 0, .int (-1), .int 0, .int 0, .int 0, .int 0, .int 0, .int 0, .ref mkeptKeys, .ref mkeptValues, .ref mkeptHeights, .ref mkeptHeats, .ref mkeptKeys2, .ref mkeptValues2, .ref mkeptHeights2, .ref mkeptHeats2, .ref mkeptSights, .long hh]))] := hD
  refine lv_if_ne (tgt := 10) hx hb dX12_ask_4 (by decide) (fun c_4 => ?_) (fun c_4 => ?_)
  · have k_4 : (0 ≤ a.toInt ∧ a.toInt ≤ 99) := wk_o1 c_4
    refine lv_aload_n hx hb dX12_ask_10 rfl (lv_at hl 0 rfl) ?_
    refine wk_iV (As := []) (rest := []) (wc := [(mo, .inr (12, [.ref mpage, .int 0, .int 0, .int 0, .int 0, .int 0, .int 0, .int 0, .ref mkeys, .ref mvalues, .ref mheights, .ref mheats, .int 0, .ref msecondKeys, .ref msecondValues, .ref msecondHeights, .ref msecondHeats, .int 0, .int 0, .int 0, .int 0, .ref msaved, .ref mbestHeights, .int 0, .ref msights, .ref mby, .int 0, .int (-1), .int 0, .int 0, .int 0, .int 0, .int 0, .int 0, .ref mkeptKeys, .ref mkeptValues, .ref mkeptHeights, .ref mkeptHeats, .ref mkeptKeys2, .ref mkeptValues2, .ref mkeptHeights2, .ref mkeptHeats2, .ref mkeptSights, .long hh]))]) (wr := []) (n := 0) (R := _) ⟨hx, hb, hml, hown, htb⟩ (c_X12_lacks l D cy mo mpage mkeys mvalues mheights mheats msecondKeys msecondValues msecondHeights msecondHeats msaved mbestHeights msights mby mkeptKeys mkeptValues mkeptHeights mkeptHeats mkeptKeys2 mkeptValues2 mkeptHeights2 mkeptHeats2 mkeptSights  hh) tw_969 tw_966 tw_968 tw_29 tw_71 rfl rfl (by decide +kernel) ⟨Nat.le_of_ble_eq_true rfl, Nat.le_of_ble_eq_true rfl⟩ hK hP hD hS hA [0] [] rfl rfl rfl rfl (by decide) 0 (ci := 12) rfl rfl rfl hl.1 rfl (Nat.le_of_ble_eq_true rfl) dX12_ask_11 ⟨Nat.le_of_ble_eq_true rfl, Nat.le_of_ble_eq_true rfl⟩ (fun r_5 u_6 H locs hw_7 hP hD hS => ?_)
    refine W.widen (k := 0) (n := 0) (by decide) (by decide) ?_
    have hw_7 : r_5 = 1 := hw_7
    subst hw_7
    have hP : va_P D classes [(mo, .inr (12, [.ref mpage, .int 0, .int 0, .int 0, .int 0, .int 0, .int 0, .int 0, .ref mkeys, .ref mvalues, .ref mheights, .ref mheats, .int 0, .ref msecondKeys, .ref msecondValues, .ref msecondHeights, .ref msecondHeats, .int 0, .int 0, .int 0, .int 0, .ref msaved, .ref mbestHeights, .int 0, .ref msights, .ref mby, .int 0, .int (-1), .int 0, .int 0, .int 0, .int 0, .int 0, .int 0, .ref mkeptKeys, .ref mkeptValues, .ref mkeptHeights, .ref mkeptHeats, .ref mkeptKeys2, .ref mkeptValues2, .ref mkeptHeights2, .ref mkeptHeats2, .ref mkeptSights, .long hh]))] H := hP
    have hD : va_D A [(mo, .inr (12, [.ref mpage, .int 0, .int 0, .int 0, .int 0, .int 0, .int 0, .int 0, .ref mkeys, .ref mvalues, .ref mheights, .ref mheats, .int 0, .ref msecondKeys, .ref msecondValues, .ref msecondHeights, .ref msecondHeats, .int 0, .int 0, .int 0, .int 0, .ref msaved, .ref mbestHeights, .int 0, .ref msights, .ref mby, .int 0, .int (-1), .int 0, .int 0, .int 0, .int 0, .int 0, .int 0, .ref mkeptKeys, .ref mkeptValues, .ref mkeptHeights, .ref mkeptHeats, .ref mkeptKeys2, .ref mkeptValues2, .ref mkeptHeights2, .ref mkeptHeats2, .ref mkeptSights, .long hh]))] := hD
    refine lv_if_eq (tgt := 20) hx hb dX12_ask_14 (by decide) (fun c_8 => absurd c_8 (by decide)) (fun _ => ?_)
    refine lv_bipush (v := (-103)) hx hb dX12_ask_17 (by decide) ?_
    refine W.widen (k := 0) (n := 0) (by decide) (by decide) ?_
    exact wk_iret () hx hb hr hlocks (if_pos (by omega)).symm hK hP hD hS [0] rfl rfl dX12_ask_19
  · have k_4 : ¬ ((0 ≤ a.toInt ∧ a.toInt ≤ 99)) := wk_o0 c_4
    refine lv_bipush (v := (-102)) hx hb dX12_ask_7 (by decide) ?_
    refine W.widen (k := 0) (n := 0) (by decide) (by decide) ?_
    exact wk_iret () hx hb hr hlocks (if_neg (by omega)).symm hK hP hD hS [0] rfl rfl dX12_ask_9
theorem dX12_put_0 : decode cX12_put 0 = .ok (.iload_n 1, 1) := by decide +kernel
theorem dX12_put_1 : decode cX12_put 1 = .ok (.invokestatic 180, 3) := by decide +kernel
theorem dX12_put_4 : decode cX12_put 4 = .ok (.ifCond .eq 27, 3) := by decide +kernel
theorem dX12_put_7 : decode cX12_put 7 = .ok (.iload_n 2, 1) := by decide +kernel
theorem dX12_put_8 : decode cX12_put 8 = .ok (.i2l, 1) := by decide +kernel
theorem dX12_put_9 : decode cX12_put 9 = .ok (.lconst 0, 1) := by decide +kernel
theorem dX12_put_10 : decode cX12_put 10 = .ok (.ldc2_w 248, 3) := by decide +kernel
theorem dX12_put_13 : decode cX12_put 13 = .ok (.invokestatic 82, 3) := by decide +kernel
theorem dX12_put_16 : decode cX12_put 16 = .ok (.ifCond .eq 15, 3) := by decide +kernel
theorem dX12_put_19 : decode cX12_put 19 = .ok (.iload_n 3, 1) := by decide +kernel
theorem dX12_put_20 : decode cX12_put 20 = .ok (.i2l, 1) := by decide +kernel
theorem dX12_put_21 : decode cX12_put 21 = .ok (.lconst 1, 1) := by decide +kernel
theorem dX12_put_22 : decode cX12_put 22 = .ok (.ldc2_w 235, 3) := by decide +kernel
theorem dX12_put_25 : decode cX12_put 25 = .ok (.invokestatic 82, 3) := by decide +kernel
theorem dX12_put_28 : decode cX12_put 28 = .ok (.ifCond .ne 6, 3) := by decide +kernel
theorem dX12_put_31 : decode cX12_put 31 = .ok (.bipush (-102), 2) := by decide +kernel
theorem dX12_put_33 : decode cX12_put 33 = .ok (.ireturn, 1) := by decide +kernel
theorem dX12_put_34 : decode cX12_put 34 = .ok (.aload_n 0, 1) := by decide +kernel
theorem dX12_put_35 : decode cX12_put 35 = .ok (.invokevirtual 185, 3) := by decide +kernel
theorem dX12_put_38 : decode cX12_put 38 = .ok (.ifCond .eq 6, 3) := by decide +kernel
theorem dX12_put_41 : decode cX12_put 41 = .ok (.bipush (-103), 2) := by decide +kernel
theorem dX12_put_43 : decode cX12_put 43 = .ok (.ireturn, 1) := by decide +kernel
set_option maxHeartbeats 4000000 in
set_option maxRecDepth 100000 in
theorem c_X12_put (l : Launch) (D : va_G) (cy : ClassId) (mo mpage mkeys mvalues mheights mheats msecondKeys msecondValues msecondHeights msecondHeats msaved mbestHeights msights mby mkeptKeys mkeptValues mkeptHeights mkeptHeats mkeptKeys2 mkeptValues2 mkeptHeights2 mkeptHeats2 mkeptSights : Nat) (a b d : Int32) (hh : Int64) : wk_Ci l yX12_put cX12_put 6 (some .int) { frames := 2, cells := 0, slots := 0, locals := 45 } D cy [.ref mo, .int a, .int b, .int d] [(mo, .inr (12, [.ref mpage, .int 0, .int 0, .int 0, .int 0, .int 0, .int 0, .int 0, .ref mkeys, .ref mvalues, .ref mheights, .ref mheats, .int 0, .ref msecondKeys, .ref msecondValues, .ref msecondHeights, .ref msecondHeats, .int 0, .int 0, .int 0, .int 0, .ref msaved, .ref mbestHeights, .int 0, .ref msights, .ref mby, .int 0, .int (-1), .int 0, .int 0, .int 0, .int 0, .int 0, .int 0, .ref mkeptKeys, .ref mkeptValues, .ref mkeptHeights, .ref mkeptHeats, .ref mkeptKeys2, .ref mkeptValues2, .ref mkeptHeights2, .ref mkeptHeats2, .ref mkeptSights, .long hh]))] 0 0 (fun (r : Int32) (u : Unit) => r = if (0 ≤ a.toInt ∧ a.toInt ≤ 99) ∧ (0 ≤ b.toInt ∧ b.toInt ≤ 9) ∧ (1 ≤ d.toInt ∧ d.toInt ≤ 4) then (-103) else (-102)) (fun u => [(mo, .inr (12, [.ref mpage, .int 0, .int 0, .int 0, .int 0, .int 0, .int 0, .int 0, .ref mkeys, .ref mvalues, .ref mheights, .ref mheats, .int 0, .ref msecondKeys, .ref msecondValues, .ref msecondHeights, .ref msecondHeats, .int 0, .int 0, .int 0, .int 0, .ref msaved, .ref mbestHeights, .int 0, .ref msights, .ref mby, .int 0, .int (-1), .int 0, .int 0, .int 0, .int 0, .int 0, .int 0, .ref mkeptKeys, .ref mkeptValues, .ref mkeptHeights, .ref mkeptHeats, .ref mkeptKeys2, .ref mkeptValues2, .ref mkeptHeights2, .ref mkeptHeats2, .ref mkeptSights, .long hh]))]) := by
  refine wk_mkCi (by decide) (Nat.le_of_ble_eq_true rfl) ?_
  intro p e s m below meth c A ls B hA hK hP hD hS hl
  obtain ⟨hx, hb, hr, hlocks, hml, hown, htb, hin⟩ := B
  have hl : lv_has ls 6 [(0, .ref mo), (1, .int a), (2, .int b), (3, .int d)] := hl
  refine lv_iload_n hx hb dX12_put_0 rfl (lv_at hl 1 rfl) ?_
  refine wk_iS (As := [.int a]) (rest := []) (wc := []) (wr := [(mo, .inr (12, [.ref mpage, .int 0, .int 0, .int 0, .int 0, .int 0, .int 0, .int 0, .ref mkeys, .ref mvalues, .ref mheights, .ref mheats, .int 0, .ref msecondKeys, .ref msecondValues, .ref msecondHeights, .ref msecondHeats, .int 0, .int 0, .int 0, .int 0, .ref msaved, .ref mbestHeights, .int 0, .ref msights, .ref mby, .int 0, .int (-1), .int 0, .int 0, .int 0, .int 0, .int 0, .int 0, .ref mkeptKeys, .ref mkeptValues, .ref mkeptHeights, .ref mkeptHeats, .ref mkeptKeys2, .ref mkeptValues2, .ref mkeptHeights2, .ref mkeptHeats2, .ref mkeptSights, .long hh]))]) (n := 1) (R := _) ⟨hx, hb, hml, hown, htb⟩ (c_X12_isKey l D cy  a ) tw_963 tw_961 tw_962 tw_71 rfl rfl (by decide +kernel) ⟨Nat.le_of_ble_eq_true rfl, Nat.le_of_ble_eq_true rfl⟩ hK hP hD hS hA [] [0] rfl rfl rfl rfl (by decide) rfl hl.1 rfl (Nat.le_of_ble_eq_true rfl) dX12_put_1 ⟨Nat.le_of_ble_eq_true rfl, Nat.le_of_ble_eq_true rfl⟩ (fun r_1 u_2 H locs hw_3 hP hD hS => ?_)
  refine W.widen (k := 0) (n := 0) (by decide) (by decide) ?_
  have hw_3 : r_1 = if (0 ≤ a.toInt ∧ a.toInt ≤ 99) then 1 else 0 := hw_3
  subst hw_3
  have hP : va_P D classes [(mo, .inr (12, [.ref mpage, .int 0, .int 0, .int 0, .int 0, .int 0, .int 0, .int 0, .ref mkeys, .ref mvalues, .ref mheights, .ref mheats, .int 0, .ref msecondKeys, .ref msecondValues, .ref msecondHeights, .ref msecondHeats, .int 0, .int 0, .int 0, .int 0, .ref msaved, .ref mbestHeights, .int 0, .ref msights, .ref mby, .int 0, .int (-1), .int 0, .int 0, .int 0, .int 0, .int 0, .int 0, .ref mkeptKeys, .ref mkeptValues, .ref mkeptHeights, .ref mkeptHeats, .ref mkeptKeys2, .ref mkeptValues2, .ref mkeptHeights2, .ref mkeptHeats2, .ref mkeptSights, .long hh]))] H := hP
  have hD : va_D A [(mo, .inr (12, [.ref mpage, .int 0, .int 0, .int 0, .int 0, .int 0, .int 0, .int 0, .ref mkeys, .ref mvalues, .ref mheights, .ref mheats, .int 0, .ref msecondKeys, .ref msecondValues, .ref msecondHeights, .ref msecondHeats, .int 0, .int 0, .int 0, .int 0, .ref msaved, .ref mbestHeights, .int 0, .ref msights, .ref mby, .int 0, .int (-1), .int 0, .int 0, .int 0, .int 0, .int 0, .int 0, .ref mkeptKeys, .ref mkeptValues, .ref mkeptHeights, .ref mkeptHeats, .ref mkeptKeys2, .ref mkeptValues2, .ref mkeptHeights2, .ref mkeptHeats2, .ref mkeptSights, .long hh]))] := hD
  refine lv_if_eq (tgt := 31) hx hb dX12_put_4 (by decide) (fun c_4 => ?_) (fun c_4 => ?_)
  · have k_4 : ¬ ((0 ≤ a.toInt ∧ a.toInt ≤ 99)) := wk_o0 c_4
    refine lv_bipush (v := (-102)) hx hb dX12_put_31 (by decide) ?_
    refine W.widen (k := 0) (n := 0) (by decide) (by decide) ?_
    exact wk_iret () hx hb hr hlocks (if_neg (by omega)).symm hK hP hD hS [0] rfl rfl dX12_put_33
  · have k_4 : (0 ≤ a.toInt ∧ a.toInt ≤ 99) := wk_o1 c_4
    refine lv_iload_n hx hb dX12_put_7 rfl (lv_at hl 2 rfl) ?_
    refine lv_i2l (v := b.toInt64) hx hb dX12_put_8 rfl ?_
    refine lv_lconst (v := 0) hx hb dX12_put_9 (by decide) ?_
    refine lv_ldc2 (v := 9) hx hb hown (htb _ tw_1092) dX12_put_10 ?_
    refine wk_iS (As := [.long b.toInt64, .long 0, .long 9]) (rest := []) (wc := []) (wr := [(mo, .inr (12, [.ref mpage, .int 0, .int 0, .int 0, .int 0, .int 0, .int 0, .int 0, .ref mkeys, .ref mvalues, .ref mheights, .ref mheats, .int 0, .ref msecondKeys, .ref msecondValues, .ref msecondHeights, .ref msecondHeats, .int 0, .int 0, .int 0, .int 0, .ref msaved, .ref mbestHeights, .int 0, .ref msights, .ref mby, .int 0, .int (-1), .int 0, .int 0, .int 0, .int 0, .int 0, .int 0, .ref mkeptKeys, .ref mkeptValues, .ref mkeptHeights, .ref mkeptHeats, .ref mkeptKeys2, .ref mkeptValues2, .ref mkeptHeights2, .ref mkeptHeats2, .ref mkeptSights, .long hh]))]) (n := 3) (R := _) ⟨hx, hb, hml, hown, htb⟩ (c_X12_in l D cy   b.toInt64 0 9) tw_903 tw_901 tw_902 tw_71 rfl rfl (by decide +kernel) ⟨Nat.le_of_ble_eq_true rfl, Nat.le_of_ble_eq_true rfl⟩ hK hP hD hS hA [] [0] rfl rfl rfl rfl (by decide) rfl hl.1 rfl (Nat.le_of_ble_eq_true rfl) dX12_put_13 ⟨Nat.le_of_ble_eq_true rfl, Nat.le_of_ble_eq_true rfl⟩ (fun r_5 u_6 H locs hw_7 hP hD hS => ?_)
    refine W.widen (k := 0) (n := 0) (by decide) (by decide) ?_
    have hw_7 : r_5 = wk_in b.toInt64 0 9 := hw_7
    subst hw_7
    have hP : va_P D classes [(mo, .inr (12, [.ref mpage, .int 0, .int 0, .int 0, .int 0, .int 0, .int 0, .int 0, .ref mkeys, .ref mvalues, .ref mheights, .ref mheats, .int 0, .ref msecondKeys, .ref msecondValues, .ref msecondHeights, .ref msecondHeats, .int 0, .int 0, .int 0, .int 0, .ref msaved, .ref mbestHeights, .int 0, .ref msights, .ref mby, .int 0, .int (-1), .int 0, .int 0, .int 0, .int 0, .int 0, .int 0, .ref mkeptKeys, .ref mkeptValues, .ref mkeptHeights, .ref mkeptHeats, .ref mkeptKeys2, .ref mkeptValues2, .ref mkeptHeights2, .ref mkeptHeats2, .ref mkeptSights, .long hh]))] H := hP
    have hD : va_D A [(mo, .inr (12, [.ref mpage, .int 0, .int 0, .int 0, .int 0, .int 0, .int 0, .int 0, .ref mkeys, .ref mvalues, .ref mheights, .ref mheats, .int 0, .ref msecondKeys, .ref msecondValues, .ref msecondHeights, .ref msecondHeats, .int 0, .int 0, .int 0, .int 0, .ref msaved, .ref mbestHeights, .int 0, .ref msights, .ref mby, .int 0, .int (-1), .int 0, .int 0, .int 0, .int 0, .int 0, .int 0, .ref mkeptKeys, .ref mkeptValues, .ref mkeptHeights, .ref mkeptHeats, .ref mkeptKeys2, .ref mkeptValues2, .ref mkeptHeights2, .ref mkeptHeats2, .ref mkeptSights, .long hh]))] := hD
    refine lv_if_eq (tgt := 31) hx hb dX12_put_16 (by decide) (fun c_8 => ?_) (fun c_8 => ?_)
    · have k_8 : ¬ (0 ≤ b.toInt ∧ b.toInt ≤ 9) := by have h9 := wk_in0 c_8; simp only [wk_64] at h9; exact h9
      refine lv_bipush (v := (-102)) hx hb dX12_put_31 (by decide) ?_
      refine W.widen (k := 0) (n := 0) (by decide) (by decide) ?_
      exact wk_iret () hx hb hr hlocks (if_neg (by omega)).symm hK hP hD hS [0] rfl rfl dX12_put_33
    · have k_8 : 0 ≤ b.toInt ∧ b.toInt ≤ 9 := by have h9 := wk_in1 c_8; simp only [wk_64] at h9; exact h9
      refine lv_iload_n hx hb dX12_put_19 rfl (lv_at hl 3 rfl) ?_
      refine lv_i2l (v := d.toInt64) hx hb dX12_put_20 rfl ?_
      refine lv_lconst (v := 1) hx hb dX12_put_21 (by decide) ?_
      refine lv_ldc2 (v := 4) hx hb hown (htb _ tw_1075) dX12_put_22 ?_
      refine wk_iS (As := [.long d.toInt64, .long 1, .long 4]) (rest := []) (wc := []) (wr := [(mo, .inr (12, [.ref mpage, .int 0, .int 0, .int 0, .int 0, .int 0, .int 0, .int 0, .ref mkeys, .ref mvalues, .ref mheights, .ref mheats, .int 0, .ref msecondKeys, .ref msecondValues, .ref msecondHeights, .ref msecondHeats, .int 0, .int 0, .int 0, .int 0, .ref msaved, .ref mbestHeights, .int 0, .ref msights, .ref mby, .int 0, .int (-1), .int 0, .int 0, .int 0, .int 0, .int 0, .int 0, .ref mkeptKeys, .ref mkeptValues, .ref mkeptHeights, .ref mkeptHeats, .ref mkeptKeys2, .ref mkeptValues2, .ref mkeptHeights2, .ref mkeptHeats2, .ref mkeptSights, .long hh]))]) (n := 3) (R := _) ⟨hx, hb, hml, hown, htb⟩ (c_X12_in l D cy   d.toInt64 1 4) tw_903 tw_901 tw_902 tw_71 rfl rfl (by decide +kernel) ⟨Nat.le_of_ble_eq_true rfl, Nat.le_of_ble_eq_true rfl⟩ hK hP hD hS hA [] [0] rfl rfl rfl rfl (by decide) rfl hl.1 rfl (Nat.le_of_ble_eq_true rfl) dX12_put_25 ⟨Nat.le_of_ble_eq_true rfl, Nat.le_of_ble_eq_true rfl⟩ (fun r_9 u_10 H locs hw_11 hP hD hS => ?_)
      refine W.widen (k := 0) (n := 0) (by decide) (by decide) ?_
      have hw_11 : r_9 = wk_in d.toInt64 1 4 := hw_11
      subst hw_11
      have hP : va_P D classes [(mo, .inr (12, [.ref mpage, .int 0, .int 0, .int 0, .int 0, .int 0, .int 0, .int 0, .ref mkeys, .ref mvalues, .ref mheights, .ref mheats, .int 0, .ref msecondKeys, .ref msecondValues, .ref msecondHeights, .ref msecondHeats, .int 0, .int 0, .int 0, .int 0, .ref msaved, .ref mbestHeights, .int 0, .ref msights, .ref mby, .int 0, .int (-1), .int 0, .int 0, .int 0, .int 0, .int 0, .int 0, .ref mkeptKeys, .ref mkeptValues, .ref mkeptHeights, .ref mkeptHeats, .ref mkeptKeys2, .ref mkeptValues2, .ref mkeptHeights2, .ref mkeptHeats2, .ref mkeptSights, .long hh]))] H := hP
      have hD : va_D A [(mo, .inr (12, [.ref mpage, .int 0, .int 0, .int 0, .int 0, .int 0, .int 0, .int 0, .ref mkeys, .ref mvalues, .ref mheights, .ref mheats, .int 0, .ref msecondKeys, .ref msecondValues, .ref msecondHeights, .ref msecondHeats, .int 0, .int 0, .int 0, .int 0, .ref msaved, .ref mbestHeights, .int 0, .ref msights, .ref mby, .int 0, .int (-1), .int 0, .int 0, .int 0, .int 0, .int 0, .int 0, .ref mkeptKeys, .ref mkeptValues, .ref mkeptHeights, .ref mkeptHeats, .ref mkeptKeys2, .ref mkeptValues2, .ref mkeptHeights2, .ref mkeptHeats2, .ref mkeptSights, .long hh]))] := hD
      refine lv_if_ne (tgt := 34) hx hb dX12_put_28 (by decide) (fun c_12 => ?_) (fun c_12 => ?_)
      · have k_12 : 1 ≤ d.toInt ∧ d.toInt ≤ 4 := by have h9 := wk_in1 c_12; simp only [wk_64] at h9; exact h9
        refine lv_aload_n hx hb dX12_put_34 rfl (lv_at hl 0 rfl) ?_
        refine wk_iV (As := []) (rest := []) (wc := [(mo, .inr (12, [.ref mpage, .int 0, .int 0, .int 0, .int 0, .int 0, .int 0, .int 0, .ref mkeys, .ref mvalues, .ref mheights, .ref mheats, .int 0, .ref msecondKeys, .ref msecondValues, .ref msecondHeights, .ref msecondHeats, .int 0, .int 0, .int 0, .int 0, .ref msaved, .ref mbestHeights, .int 0, .ref msights, .ref mby, .int 0, .int (-1), .int 0, .int 0, .int 0, .int 0, .int 0, .int 0, .ref mkeptKeys, .ref mkeptValues, .ref mkeptHeights, .ref mkeptHeats, .ref mkeptKeys2, .ref mkeptValues2, .ref mkeptHeights2, .ref mkeptHeats2, .ref mkeptSights, .long hh]))]) (wr := []) (n := 0) (R := _) ⟨hx, hb, hml, hown, htb⟩ (c_X12_lacks l D cy mo mpage mkeys mvalues mheights mheats msecondKeys msecondValues msecondHeights msecondHeats msaved mbestHeights msights mby mkeptKeys mkeptValues mkeptHeights mkeptHeats mkeptKeys2 mkeptValues2 mkeptHeights2 mkeptHeats2 mkeptSights  hh) tw_969 tw_966 tw_968 tw_29 tw_71 rfl rfl (by decide +kernel) ⟨Nat.le_of_ble_eq_true rfl, Nat.le_of_ble_eq_true rfl⟩ hK hP hD hS hA [0] [] rfl rfl rfl rfl (by decide) 0 (ci := 12) rfl rfl rfl hl.1 rfl (Nat.le_of_ble_eq_true rfl) dX12_put_35 ⟨Nat.le_of_ble_eq_true rfl, Nat.le_of_ble_eq_true rfl⟩ (fun r_13 u_14 H locs hw_15 hP hD hS => ?_)
        refine W.widen (k := 0) (n := 0) (by decide) (by decide) ?_
        have hw_15 : r_13 = 1 := hw_15
        subst hw_15
        have hP : va_P D classes [(mo, .inr (12, [.ref mpage, .int 0, .int 0, .int 0, .int 0, .int 0, .int 0, .int 0, .ref mkeys, .ref mvalues, .ref mheights, .ref mheats, .int 0, .ref msecondKeys, .ref msecondValues, .ref msecondHeights, .ref msecondHeats, .int 0, .int 0, .int 0, .int 0, .ref msaved, .ref mbestHeights, .int 0, .ref msights, .ref mby, .int 0, .int (-1), .int 0, .int 0, .int 0, .int 0, .int 0, .int 0, .ref mkeptKeys, .ref mkeptValues, .ref mkeptHeights, .ref mkeptHeats, .ref mkeptKeys2, .ref mkeptValues2, .ref mkeptHeights2, .ref mkeptHeats2, .ref mkeptSights, .long hh]))] H := hP
        have hD : va_D A [(mo, .inr (12, [.ref mpage, .int 0, .int 0, .int 0, .int 0, .int 0, .int 0, .int 0, .ref mkeys, .ref mvalues, .ref mheights, .ref mheats, .int 0, .ref msecondKeys, .ref msecondValues, .ref msecondHeights, .ref msecondHeats, .int 0, .int 0, .int 0, .int 0, .ref msaved, .ref mbestHeights, .int 0, .ref msights, .ref mby, .int 0, .int (-1), .int 0, .int 0, .int 0, .int 0, .int 0, .int 0, .ref mkeptKeys, .ref mkeptValues, .ref mkeptHeights, .ref mkeptHeats, .ref mkeptKeys2, .ref mkeptValues2, .ref mkeptHeights2, .ref mkeptHeats2, .ref mkeptSights, .long hh]))] := hD
        refine lv_if_eq (tgt := 44) hx hb dX12_put_38 (by decide) (fun c_16 => absurd c_16 (by decide)) (fun _ => ?_)
        refine lv_bipush (v := (-103)) hx hb dX12_put_41 (by decide) ?_
        refine W.widen (k := 0) (n := 0) (by decide) (by decide) ?_
        exact wk_iret () hx hb hr hlocks (if_pos (by omega)).symm hK hP hD hS [0] rfl rfl dX12_put_43
      · have k_12 : ¬ (1 ≤ d.toInt ∧ d.toInt ≤ 4) := by have h9 := wk_in0 c_12; simp only [wk_64] at h9; exact h9
        refine lv_bipush (v := (-102)) hx hb dX12_put_31 (by decide) ?_
        refine W.widen (k := 0) (n := 0) (by decide) (by decide) ?_
        exact wk_iret () hx hb hr hlocks (if_neg (by omega)).symm hK hP hD hS [0] rfl rfl dX12_put_33
theorem dX12_remove_0 : decode cX12_remove 0 = .ok (.iload_n 1, 1) := by decide +kernel
theorem dX12_remove_1 : decode cX12_remove 1 = .ok (.invokestatic 180, 3) := by decide +kernel
theorem dX12_remove_4 : decode cX12_remove 4 = .ok (.ifCond .ne 6, 3) := by decide +kernel
theorem dX12_remove_7 : decode cX12_remove 7 = .ok (.bipush (-102), 2) := by decide +kernel
theorem dX12_remove_9 : decode cX12_remove 9 = .ok (.ireturn, 1) := by decide +kernel
theorem dX12_remove_10 : decode cX12_remove 10 = .ok (.aload_n 0, 1) := by decide +kernel
theorem dX12_remove_11 : decode cX12_remove 11 = .ok (.invokevirtual 185, 3) := by decide +kernel
theorem dX12_remove_14 : decode cX12_remove 14 = .ok (.ifCond .ne 19, 3) := by decide +kernel
theorem dX12_remove_33 : decode cX12_remove 33 = .ok (.bipush (-103), 2) := by decide +kernel
theorem dX12_remove_35 : decode cX12_remove 35 = .ok (.ireturn, 1) := by decide +kernel
set_option maxHeartbeats 4000000 in
set_option maxRecDepth 100000 in
theorem c_X12_remove (l : Launch) (D : va_G) (cy : ClassId) (mo mpage mkeys mvalues mheights mheats msecondKeys msecondValues msecondHeights msecondHeats msaved mbestHeights msights mby mkeptKeys mkeptValues mkeptHeights mkeptHeats mkeptKeys2 mkeptValues2 mkeptHeights2 mkeptHeats2 mkeptSights : Nat) (a : Int32) (hh : Int64) : wk_Ci l yX12_remove cX12_remove 4 (some .int) { frames := 2, cells := 0, slots := 0, locals := 45 } D cy [.ref mo, .int a] [(mo, .inr (12, [.ref mpage, .int 0, .int 0, .int 0, .int 0, .int 0, .int 0, .int 0, .ref mkeys, .ref mvalues, .ref mheights, .ref mheats, .int 0, .ref msecondKeys, .ref msecondValues, .ref msecondHeights, .ref msecondHeats, .int 0, .int 0, .int 0, .int 0, .ref msaved, .ref mbestHeights, .int 0, .ref msights, .ref mby, .int 0, .int (-1), .int 0, .int 0, .int 0, .int 0, .int 0, .int 0, .ref mkeptKeys, .ref mkeptValues, .ref mkeptHeights, .ref mkeptHeats, .ref mkeptKeys2, .ref mkeptValues2, .ref mkeptHeights2, .ref mkeptHeats2, .ref mkeptSights, .long hh]))] 0 0 (fun (r : Int32) (u : Unit) => r = if (0 ≤ a.toInt ∧ a.toInt ≤ 99) then (-103) else (-102)) (fun u => [(mo, .inr (12, [.ref mpage, .int 0, .int 0, .int 0, .int 0, .int 0, .int 0, .int 0, .ref mkeys, .ref mvalues, .ref mheights, .ref mheats, .int 0, .ref msecondKeys, .ref msecondValues, .ref msecondHeights, .ref msecondHeats, .int 0, .int 0, .int 0, .int 0, .ref msaved, .ref mbestHeights, .int 0, .ref msights, .ref mby, .int 0, .int (-1), .int 0, .int 0, .int 0, .int 0, .int 0, .int 0, .ref mkeptKeys, .ref mkeptValues, .ref mkeptHeights, .ref mkeptHeats, .ref mkeptKeys2, .ref mkeptValues2, .ref mkeptHeights2, .ref mkeptHeats2, .ref mkeptSights, .long hh]))]) := by
  refine wk_mkCi (by decide) (Nat.le_of_ble_eq_true rfl) ?_
  intro p e s m below meth c A ls B hA hK hP hD hS hl
  obtain ⟨hx, hb, hr, hlocks, hml, hown, htb, hin⟩ := B
  have hl : lv_has ls 4 [(0, .ref mo), (1, .int a)] := hl
  refine lv_iload_n hx hb dX12_remove_0 rfl (lv_at hl 1 rfl) ?_
  refine wk_iS (As := [.int a]) (rest := []) (wc := []) (wr := [(mo, .inr (12, [.ref mpage, .int 0, .int 0, .int 0, .int 0, .int 0, .int 0, .int 0, .ref mkeys, .ref mvalues, .ref mheights, .ref mheats, .int 0, .ref msecondKeys, .ref msecondValues, .ref msecondHeights, .ref msecondHeats, .int 0, .int 0, .int 0, .int 0, .ref msaved, .ref mbestHeights, .int 0, .ref msights, .ref mby, .int 0, .int (-1), .int 0, .int 0, .int 0, .int 0, .int 0, .int 0, .ref mkeptKeys, .ref mkeptValues, .ref mkeptHeights, .ref mkeptHeats, .ref mkeptKeys2, .ref mkeptValues2, .ref mkeptHeights2, .ref mkeptHeats2, .ref mkeptSights, .long hh]))]) (n := 1) (R := _) ⟨hx, hb, hml, hown, htb⟩ (c_X12_isKey l D cy  a ) tw_963 tw_961 tw_962 tw_71 rfl rfl (by decide +kernel) ⟨Nat.le_of_ble_eq_true rfl, Nat.le_of_ble_eq_true rfl⟩ hK hP hD hS hA [] [0] rfl rfl rfl rfl (by decide) rfl hl.1 rfl (Nat.le_of_ble_eq_true rfl) dX12_remove_1 ⟨Nat.le_of_ble_eq_true rfl, Nat.le_of_ble_eq_true rfl⟩ (fun r_1 u_2 H locs hw_3 hP hD hS => ?_)
  refine W.widen (k := 0) (n := 0) (by decide) (by decide) ?_
  have hw_3 : r_1 = if (0 ≤ a.toInt ∧ a.toInt ≤ 99) then 1 else 0 := hw_3
  subst hw_3
  have hP : va_P D classes [(mo, .inr (12, [.ref mpage, .int 0, .int 0, .int 0, .int 0, .int 0, .int 0, .int 0, .ref mkeys, .ref mvalues, .ref mheights, .ref mheats, .int 0, .ref msecondKeys, .ref msecondValues, .ref msecondHeights, .ref msecondHeats, .int 0, .int 0, .int 0, .int 0, .ref msaved, .ref mbestHeights, .int 0, .ref msights, .ref mby, .int 0, .int (-1), .int 0, .int 0, .int 0, .int 0, .int 0, .int 0, .ref mkeptKeys, .ref mkeptValues, .ref mkeptHeights, .ref mkeptHeats, .ref mkeptKeys2, .ref mkeptValues2, .ref mkeptHeights2, .ref mkeptHeats2, .ref mkeptSights, .long hh]))] H := hP
  have hD : va_D A [(mo, .inr (12, [.ref mpage, .int 0, .int 0, .int 0, .int 0, .int 0, .int 0, .int 0, .ref mkeys, .ref mvalues, .ref mheights, .ref mheats, .int 0, .ref msecondKeys, .ref msecondValues, .ref msecondHeights, .ref msecondHeats, .int 0, .int 0, .int 0, .int 0, .ref msaved, .ref mbestHeights, .int 0, .ref msights, .ref mby, .int 0, .int (-1), .int 0, .int 0, .int 0, .int 0, .int 0, .int 0, .ref mkeptKeys, .ref mkeptValues, .ref mkeptHeights, .ref mkeptHeats, .ref mkeptKeys2, .ref mkeptValues2, .ref mkeptHeights2, .ref mkeptHeats2, .ref mkeptSights, .long hh]))] := hD
  refine lv_if_ne (tgt := 10) hx hb dX12_remove_4 (by decide) (fun c_4 => ?_) (fun c_4 => ?_)
  · have k_4 : (0 ≤ a.toInt ∧ a.toInt ≤ 99) := wk_o1 c_4
    refine lv_aload_n hx hb dX12_remove_10 rfl (lv_at hl 0 rfl) ?_
    refine wk_iV (As := []) (rest := []) (wc := [(mo, .inr (12, [.ref mpage, .int 0, .int 0, .int 0, .int 0, .int 0, .int 0, .int 0, .ref mkeys, .ref mvalues, .ref mheights, .ref mheats, .int 0, .ref msecondKeys, .ref msecondValues, .ref msecondHeights, .ref msecondHeats, .int 0, .int 0, .int 0, .int 0, .ref msaved, .ref mbestHeights, .int 0, .ref msights, .ref mby, .int 0, .int (-1), .int 0, .int 0, .int 0, .int 0, .int 0, .int 0, .ref mkeptKeys, .ref mkeptValues, .ref mkeptHeights, .ref mkeptHeats, .ref mkeptKeys2, .ref mkeptValues2, .ref mkeptHeights2, .ref mkeptHeats2, .ref mkeptSights, .long hh]))]) (wr := []) (n := 0) (R := _) ⟨hx, hb, hml, hown, htb⟩ (c_X12_lacks l D cy mo mpage mkeys mvalues mheights mheats msecondKeys msecondValues msecondHeights msecondHeats msaved mbestHeights msights mby mkeptKeys mkeptValues mkeptHeights mkeptHeats mkeptKeys2 mkeptValues2 mkeptHeights2 mkeptHeats2 mkeptSights  hh) tw_969 tw_966 tw_968 tw_29 tw_71 rfl rfl (by decide +kernel) ⟨Nat.le_of_ble_eq_true rfl, Nat.le_of_ble_eq_true rfl⟩ hK hP hD hS hA [0] [] rfl rfl rfl rfl (by decide) 0 (ci := 12) rfl rfl rfl hl.1 rfl (Nat.le_of_ble_eq_true rfl) dX12_remove_11 ⟨Nat.le_of_ble_eq_true rfl, Nat.le_of_ble_eq_true rfl⟩ (fun r_5 u_6 H locs hw_7 hP hD hS => ?_)
    refine W.widen (k := 0) (n := 0) (by decide) (by decide) ?_
    have hw_7 : r_5 = 1 := hw_7
    subst hw_7
    have hP : va_P D classes [(mo, .inr (12, [.ref mpage, .int 0, .int 0, .int 0, .int 0, .int 0, .int 0, .int 0, .ref mkeys, .ref mvalues, .ref mheights, .ref mheats, .int 0, .ref msecondKeys, .ref msecondValues, .ref msecondHeights, .ref msecondHeats, .int 0, .int 0, .int 0, .int 0, .ref msaved, .ref mbestHeights, .int 0, .ref msights, .ref mby, .int 0, .int (-1), .int 0, .int 0, .int 0, .int 0, .int 0, .int 0, .ref mkeptKeys, .ref mkeptValues, .ref mkeptHeights, .ref mkeptHeats, .ref mkeptKeys2, .ref mkeptValues2, .ref mkeptHeights2, .ref mkeptHeats2, .ref mkeptSights, .long hh]))] H := hP
    have hD : va_D A [(mo, .inr (12, [.ref mpage, .int 0, .int 0, .int 0, .int 0, .int 0, .int 0, .int 0, .ref mkeys, .ref mvalues, .ref mheights, .ref mheats, .int 0, .ref msecondKeys, .ref msecondValues, .ref msecondHeights, .ref msecondHeats, .int 0, .int 0, .int 0, .int 0, .ref msaved, .ref mbestHeights, .int 0, .ref msights, .ref mby, .int 0, .int (-1), .int 0, .int 0, .int 0, .int 0, .int 0, .int 0, .ref mkeptKeys, .ref mkeptValues, .ref mkeptHeights, .ref mkeptHeats, .ref mkeptKeys2, .ref mkeptValues2, .ref mkeptHeights2, .ref mkeptHeats2, .ref mkeptSights, .long hh]))] := hD
    refine lv_if_ne (tgt := 33) hx hb dX12_remove_14 (by decide) (fun _ => ?_) (fun c_8 => absurd c_8 (by decide))
    refine lv_bipush (v := (-103)) hx hb dX12_remove_33 (by decide) ?_
    refine W.widen (k := 0) (n := 0) (by decide) (by decide) ?_
    exact wk_iret () hx hb hr hlocks (if_pos (by omega)).symm hK hP hD hS [0] rfl rfl dX12_remove_35
  · have k_4 : ¬ ((0 ≤ a.toInt ∧ a.toInt ≤ 99)) := wk_o0 c_4
    refine lv_bipush (v := (-102)) hx hb dX12_remove_7 (by decide) ?_
    refine W.widen (k := 0) (n := 0) (by decide) (by decide) ?_
    exact wk_iret () hx hb hr hlocks (if_neg (by omega)).symm hK hP hD hS [0] rfl rfl dX12_remove_9
theorem dX12_split_0 : decode cX12_split 0 = .ok (.iload_n 1, 1) := by decide +kernel
theorem dX12_split_1 : decode cX12_split 1 = .ok (.invokestatic 180, 3) := by decide +kernel
theorem dX12_split_4 : decode cX12_split 4 = .ok (.ifCond .ne 6, 3) := by decide +kernel
theorem dX12_split_7 : decode cX12_split 7 = .ok (.bipush (-102), 2) := by decide +kernel
theorem dX12_split_9 : decode cX12_split 9 = .ok (.ireturn, 1) := by decide +kernel
theorem dX12_split_10 : decode cX12_split 10 = .ok (.aload_n 0, 1) := by decide +kernel
theorem dX12_split_11 : decode cX12_split 11 = .ok (.iload_n 1, 1) := by decide +kernel
theorem dX12_split_12 : decode cX12_split 12 = .ok (.invokevirtual 245, 3) := by decide +kernel
theorem dX12_split_15 : decode cX12_split 15 = .ok (.istore_n 2, 1) := by decide +kernel
theorem dX12_split_16 : decode cX12_split 16 = .ok (.aload_n 0, 1) := by decide +kernel
theorem dX12_split_17 : decode cX12_split 17 = .ok (.invokevirtual 185, 3) := by decide +kernel
theorem dX12_split_20 : decode cX12_split 20 = .ok (.ifCond .ne 23, 3) := by decide +kernel
theorem dX12_split_43 : decode cX12_split 43 = .ok (.bipush (-103), 2) := by decide +kernel
theorem dX12_split_45 : decode cX12_split 45 = .ok (.ireturn, 1) := by decide +kernel
set_option maxHeartbeats 4000000 in
set_option maxRecDepth 100000 in
theorem c_X12_split (l : Launch) (D : va_G) (cy : ClassId) (mo mpage mkeys mvalues mheights mheats msecondKeys msecondValues msecondHeights msecondHeats msaved mbestHeights msights mby mkeptKeys mkeptValues mkeptHeights mkeptHeats mkeptKeys2 mkeptValues2 mkeptHeights2 mkeptHeats2 mkeptSights : Nat) (a : Int32) (hh : Int64) : wk_Ci l yX12_split cX12_split 4 (some .int) { frames := 2, cells := 0, slots := 0, locals := 45 } D cy [.ref mo, .int a] [(mo, .inr (12, [.ref mpage, .int 0, .int 0, .int 0, .int 0, .int 0, .int 0, .int 0, .ref mkeys, .ref mvalues, .ref mheights, .ref mheats, .int 0, .ref msecondKeys, .ref msecondValues, .ref msecondHeights, .ref msecondHeats, .int 0, .int 0, .int 0, .int 0, .ref msaved, .ref mbestHeights, .int 0, .ref msights, .ref mby, .int 0, .int (-1), .int 0, .int 0, .int 0, .int 0, .int 0, .int 0, .ref mkeptKeys, .ref mkeptValues, .ref mkeptHeights, .ref mkeptHeats, .ref mkeptKeys2, .ref mkeptValues2, .ref mkeptHeights2, .ref mkeptHeats2, .ref mkeptSights, .long hh]))] 0 0 (fun (r : Int32) (u : Unit) => r = if (0 ≤ a.toInt ∧ a.toInt ≤ 99) then (-103) else (-102)) (fun u => [(mo, .inr (12, [.ref mpage, .int 0, .int 0, .int 0, .int 0, .int 0, .int 0, .int 0, .ref mkeys, .ref mvalues, .ref mheights, .ref mheats, .int 0, .ref msecondKeys, .ref msecondValues, .ref msecondHeights, .ref msecondHeats, .int 0, .int 0, .int 0, .int 0, .ref msaved, .ref mbestHeights, .int 0, .ref msights, .ref mby, .int 0, .int (-1), .int 0, .int 0, .int 0, .int 0, .int 0, .int 0, .ref mkeptKeys, .ref mkeptValues, .ref mkeptHeights, .ref mkeptHeats, .ref mkeptKeys2, .ref mkeptValues2, .ref mkeptHeights2, .ref mkeptHeats2, .ref mkeptSights, .long hh]))]) := by
  refine wk_mkCi (by decide) (Nat.le_of_ble_eq_true rfl) ?_
  intro p e s m below meth c A ls B hA hK hP hD hS hl
  obtain ⟨hx, hb, hr, hlocks, hml, hown, htb, hin⟩ := B
  have hl : lv_has ls 4 [(0, .ref mo), (1, .int a)] := hl
  refine lv_iload_n hx hb dX12_split_0 rfl (lv_at hl 1 rfl) ?_
  refine wk_iS (As := [.int a]) (rest := []) (wc := []) (wr := [(mo, .inr (12, [.ref mpage, .int 0, .int 0, .int 0, .int 0, .int 0, .int 0, .int 0, .ref mkeys, .ref mvalues, .ref mheights, .ref mheats, .int 0, .ref msecondKeys, .ref msecondValues, .ref msecondHeights, .ref msecondHeats, .int 0, .int 0, .int 0, .int 0, .ref msaved, .ref mbestHeights, .int 0, .ref msights, .ref mby, .int 0, .int (-1), .int 0, .int 0, .int 0, .int 0, .int 0, .int 0, .ref mkeptKeys, .ref mkeptValues, .ref mkeptHeights, .ref mkeptHeats, .ref mkeptKeys2, .ref mkeptValues2, .ref mkeptHeights2, .ref mkeptHeats2, .ref mkeptSights, .long hh]))]) (n := 1) (R := _) ⟨hx, hb, hml, hown, htb⟩ (c_X12_isKey l D cy  a ) tw_963 tw_961 tw_962 tw_71 rfl rfl (by decide +kernel) ⟨Nat.le_of_ble_eq_true rfl, Nat.le_of_ble_eq_true rfl⟩ hK hP hD hS hA [] [0] rfl rfl rfl rfl (by decide) rfl hl.1 rfl (Nat.le_of_ble_eq_true rfl) dX12_split_1 ⟨Nat.le_of_ble_eq_true rfl, Nat.le_of_ble_eq_true rfl⟩ (fun r_1 u_2 H locs hw_3 hP hD hS => ?_)
  refine W.widen (k := 0) (n := 0) (by decide) (by decide) ?_
  have hw_3 : r_1 = if (0 ≤ a.toInt ∧ a.toInt ≤ 99) then 1 else 0 := hw_3
  subst hw_3
  have hP : va_P D classes [(mo, .inr (12, [.ref mpage, .int 0, .int 0, .int 0, .int 0, .int 0, .int 0, .int 0, .ref mkeys, .ref mvalues, .ref mheights, .ref mheats, .int 0, .ref msecondKeys, .ref msecondValues, .ref msecondHeights, .ref msecondHeats, .int 0, .int 0, .int 0, .int 0, .ref msaved, .ref mbestHeights, .int 0, .ref msights, .ref mby, .int 0, .int (-1), .int 0, .int 0, .int 0, .int 0, .int 0, .int 0, .ref mkeptKeys, .ref mkeptValues, .ref mkeptHeights, .ref mkeptHeats, .ref mkeptKeys2, .ref mkeptValues2, .ref mkeptHeights2, .ref mkeptHeats2, .ref mkeptSights, .long hh]))] H := hP
  have hD : va_D A [(mo, .inr (12, [.ref mpage, .int 0, .int 0, .int 0, .int 0, .int 0, .int 0, .int 0, .ref mkeys, .ref mvalues, .ref mheights, .ref mheats, .int 0, .ref msecondKeys, .ref msecondValues, .ref msecondHeights, .ref msecondHeats, .int 0, .int 0, .int 0, .int 0, .ref msaved, .ref mbestHeights, .int 0, .ref msights, .ref mby, .int 0, .int (-1), .int 0, .int 0, .int 0, .int 0, .int 0, .int 0, .ref mkeptKeys, .ref mkeptValues, .ref mkeptHeights, .ref mkeptHeats, .ref mkeptKeys2, .ref mkeptValues2, .ref mkeptHeights2, .ref mkeptHeats2, .ref mkeptSights, .long hh]))] := hD
  refine lv_if_ne (tgt := 10) hx hb dX12_split_4 (by decide) (fun c_4 => ?_) (fun c_4 => ?_)
  · have k_4 : (0 ≤ a.toInt ∧ a.toInt ≤ 99) := wk_o1 c_4
    refine lv_aload_n hx hb dX12_split_10 rfl (lv_at hl 0 rfl) ?_
    refine lv_iload_n hx hb dX12_split_11 rfl (lv_at hl 1 rfl) ?_
    refine wk_iV (As := [.int a]) (rest := []) (wc := [(mo, .inr (12, [.ref mpage, .int 0, .int 0, .int 0, .int 0, .int 0, .int 0, .int 0, .ref mkeys, .ref mvalues, .ref mheights, .ref mheats, .int 0, .ref msecondKeys, .ref msecondValues, .ref msecondHeights, .ref msecondHeats, .int 0, .int 0, .int 0, .int 0, .ref msaved, .ref mbestHeights, .int 0, .ref msights, .ref mby, .int 0, .int (-1), .int 0, .int 0, .int 0, .int 0, .int 0, .int 0, .ref mkeptKeys, .ref mkeptValues, .ref mkeptHeights, .ref mkeptHeats, .ref mkeptKeys2, .ref mkeptValues2, .ref mkeptHeights2, .ref mkeptHeats2, .ref mkeptSights, .long hh]))]) (wr := []) (n := 1) (R := _) ⟨hx, hb, hml, hown, htb⟩ (c_X12_placeOf l D cy mo mpage mkeys mvalues mheights mheats msecondKeys msecondValues msecondHeights msecondHeats msaved mbestHeights msights mby mkeptKeys mkeptValues mkeptHeights mkeptHeats mkeptKeys2 mkeptValues2 mkeptHeights2 mkeptHeats2 mkeptSights a hh) tw_1100 tw_1097 tw_1099 tw_50 tw_71 rfl rfl (by decide +kernel) ⟨Nat.le_of_ble_eq_true rfl, Nat.le_of_ble_eq_true rfl⟩ hK hP hD hS hA [0] [] rfl rfl rfl rfl (by decide) 0 (ci := 12) rfl rfl rfl hl.1 rfl (Nat.le_of_ble_eq_true rfl) dX12_split_12 ⟨Nat.le_of_ble_eq_true rfl, Nat.le_of_ble_eq_true rfl⟩ (fun r_5 u_6 H locs hw_7 hP hD hS => ?_)
    refine W.widen (k := 0) (n := 0) (by decide) (by decide) ?_
    have hw_7 : r_5 = 0 := hw_7
    subst hw_7
    have hP : va_P D classes [(mo, .inr (12, [.ref mpage, .int 0, .int 0, .int 0, .int 0, .int 0, .int 0, .int 0, .ref mkeys, .ref mvalues, .ref mheights, .ref mheats, .int 0, .ref msecondKeys, .ref msecondValues, .ref msecondHeights, .ref msecondHeats, .int 0, .int 0, .int 0, .int 0, .ref msaved, .ref mbestHeights, .int 0, .ref msights, .ref mby, .int 0, .int (-1), .int 0, .int 0, .int 0, .int 0, .int 0, .int 0, .ref mkeptKeys, .ref mkeptValues, .ref mkeptHeights, .ref mkeptHeats, .ref mkeptKeys2, .ref mkeptValues2, .ref mkeptHeights2, .ref mkeptHeats2, .ref mkeptSights, .long hh]))] H := hP
    have hD : va_D A [(mo, .inr (12, [.ref mpage, .int 0, .int 0, .int 0, .int 0, .int 0, .int 0, .int 0, .ref mkeys, .ref mvalues, .ref mheights, .ref mheats, .int 0, .ref msecondKeys, .ref msecondValues, .ref msecondHeights, .ref msecondHeats, .int 0, .int 0, .int 0, .int 0, .ref msaved, .ref mbestHeights, .int 0, .ref msights, .ref mby, .int 0, .int (-1), .int 0, .int 0, .int 0, .int 0, .int 0, .int 0, .ref mkeptKeys, .ref mkeptValues, .ref mkeptHeights, .ref mkeptHeats, .ref mkeptKeys2, .ref mkeptValues2, .ref mkeptHeights2, .ref mkeptHeats2, .ref mkeptSights, .long hh]))] := hD
    refine lv_istore_n (lv' := [(2, .int 0), (0, .ref mo), (1, .int a)]) hx hb dX12_split_15 rfl hl (by decide) rfl (fun ls hl => ?_)
    refine lv_aload_n hx hb dX12_split_16 rfl (lv_at hl 1 rfl) ?_
    refine wk_iV (As := []) (rest := []) (wc := [(mo, .inr (12, [.ref mpage, .int 0, .int 0, .int 0, .int 0, .int 0, .int 0, .int 0, .ref mkeys, .ref mvalues, .ref mheights, .ref mheats, .int 0, .ref msecondKeys, .ref msecondValues, .ref msecondHeights, .ref msecondHeats, .int 0, .int 0, .int 0, .int 0, .ref msaved, .ref mbestHeights, .int 0, .ref msights, .ref mby, .int 0, .int (-1), .int 0, .int 0, .int 0, .int 0, .int 0, .int 0, .ref mkeptKeys, .ref mkeptValues, .ref mkeptHeights, .ref mkeptHeats, .ref mkeptKeys2, .ref mkeptValues2, .ref mkeptHeights2, .ref mkeptHeats2, .ref mkeptSights, .long hh]))]) (wr := []) (n := 0) (R := _) ⟨hx, hb, hml, hown, htb⟩ (c_X12_lacks l D cy mo mpage mkeys mvalues mheights mheats msecondKeys msecondValues msecondHeights msecondHeats msaved mbestHeights msights mby mkeptKeys mkeptValues mkeptHeights mkeptHeats mkeptKeys2 mkeptValues2 mkeptHeights2 mkeptHeats2 mkeptSights  hh) tw_969 tw_966 tw_968 tw_29 tw_71 rfl rfl (by decide +kernel) ⟨Nat.le_of_ble_eq_true rfl, Nat.le_of_ble_eq_true rfl⟩ hK hP hD hS hA [0] [] rfl rfl rfl rfl (by decide) 0 (ci := 12) rfl rfl rfl hl.1 rfl (Nat.le_of_ble_eq_true rfl) dX12_split_17 ⟨Nat.le_of_ble_eq_true rfl, Nat.le_of_ble_eq_true rfl⟩ (fun r_8 u_9 H locs hw_10 hP hD hS => ?_)
    refine W.widen (k := 0) (n := 0) (by decide) (by decide) ?_
    have hw_10 : r_8 = 1 := hw_10
    subst hw_10
    have hP : va_P D classes [(mo, .inr (12, [.ref mpage, .int 0, .int 0, .int 0, .int 0, .int 0, .int 0, .int 0, .ref mkeys, .ref mvalues, .ref mheights, .ref mheats, .int 0, .ref msecondKeys, .ref msecondValues, .ref msecondHeights, .ref msecondHeats, .int 0, .int 0, .int 0, .int 0, .ref msaved, .ref mbestHeights, .int 0, .ref msights, .ref mby, .int 0, .int (-1), .int 0, .int 0, .int 0, .int 0, .int 0, .int 0, .ref mkeptKeys, .ref mkeptValues, .ref mkeptHeights, .ref mkeptHeats, .ref mkeptKeys2, .ref mkeptValues2, .ref mkeptHeights2, .ref mkeptHeats2, .ref mkeptSights, .long hh]))] H := hP
    have hD : va_D A [(mo, .inr (12, [.ref mpage, .int 0, .int 0, .int 0, .int 0, .int 0, .int 0, .int 0, .ref mkeys, .ref mvalues, .ref mheights, .ref mheats, .int 0, .ref msecondKeys, .ref msecondValues, .ref msecondHeights, .ref msecondHeats, .int 0, .int 0, .int 0, .int 0, .ref msaved, .ref mbestHeights, .int 0, .ref msights, .ref mby, .int 0, .int (-1), .int 0, .int 0, .int 0, .int 0, .int 0, .int 0, .ref mkeptKeys, .ref mkeptValues, .ref mkeptHeights, .ref mkeptHeats, .ref mkeptKeys2, .ref mkeptValues2, .ref mkeptHeights2, .ref mkeptHeats2, .ref mkeptSights, .long hh]))] := hD
    refine lv_if_ne (tgt := 43) hx hb dX12_split_20 (by decide) (fun _ => ?_) (fun c_11 => absurd c_11 (by decide))
    refine lv_bipush (v := (-103)) hx hb dX12_split_43 (by decide) ?_
    refine W.widen (k := 0) (n := 0) (by decide) (by decide) ?_
    exact wk_iret () hx hb hr hlocks (if_pos (by omega)).symm hK hP hD hS [0] rfl rfl dX12_split_45
  · have k_4 : ¬ ((0 ≤ a.toInt ∧ a.toInt ≤ 99)) := wk_o0 c_4
    refine lv_bipush (v := (-102)) hx hb dX12_split_7 (by decide) ?_
    refine W.widen (k := 0) (n := 0) (by decide) (by decide) ?_
    exact wk_iret () hx hb hr hlocks (if_neg (by omega)).symm hK hP hD hS [0] rfl rfl dX12_split_9
end
section
theorem dX12_join_0 : decode cX12_join 0 = .ok (.aload_n 0, 1) := by decide +kernel
theorem dX12_join_1 : decode cX12_join 1 = .ok (.getfield 127, 3) := by decide +kernel
theorem dX12_join_4 : decode cX12_join 4 = .ok (.ifCond .eq 23, 3) := by decide +kernel
theorem dX12_join_27 : decode cX12_join 27 = .ok (.bipush (-103), 2) := by decide +kernel
theorem dX12_join_29 : decode cX12_join 29 = .ok (.ireturn, 1) := by decide +kernel
set_option maxHeartbeats 4000000 in
set_option maxRecDepth 100000 in
theorem c_X12_join (l : Launch) (D : va_G) (cy : ClassId) (mo mpage mkeys mvalues mheights mheats msecondKeys msecondValues msecondHeights msecondHeats msaved mbestHeights msights mby mkeptKeys mkeptValues mkeptHeights mkeptHeats mkeptKeys2 mkeptValues2 mkeptHeights2 mkeptHeats2 mkeptSights : Nat) (hh : Int64) : wk_Ci l yX12_join cX12_join 2 (some .int) { frames := 0, cells := 0, slots := 0, locals := 0 } D cy [.ref mo] [(mo, .inr (12, [.ref mpage, .int 0, .int 0, .int 0, .int 0, .int 0, .int 0, .int 0, .ref mkeys, .ref mvalues, .ref mheights, .ref mheats, .int 0, .ref msecondKeys, .ref msecondValues, .ref msecondHeights, .ref msecondHeats, .int 0, .int 0, .int 0, .int 0, .ref msaved, .ref mbestHeights, .int 0, .ref msights, .ref mby, .int 0, .int (-1), .int 0, .int 0, .int 0, .int 0, .int 0, .int 0, .ref mkeptKeys, .ref mkeptValues, .ref mkeptHeights, .ref mkeptHeats, .ref mkeptKeys2, .ref mkeptValues2, .ref mkeptHeights2, .ref mkeptHeats2, .ref mkeptSights, .long hh]))] 0 0 (fun (r : Int32) (u : Unit) => r = (-103)) (fun u => [(mo, .inr (12, [.ref mpage, .int 0, .int 0, .int 0, .int 0, .int 0, .int 0, .int 0, .ref mkeys, .ref mvalues, .ref mheights, .ref mheats, .int 0, .ref msecondKeys, .ref msecondValues, .ref msecondHeights, .ref msecondHeats, .int 0, .int 0, .int 0, .int 0, .ref msaved, .ref mbestHeights, .int 0, .ref msights, .ref mby, .int 0, .int (-1), .int 0, .int 0, .int 0, .int 0, .int 0, .int 0, .ref mkeptKeys, .ref mkeptValues, .ref mkeptHeights, .ref mkeptHeats, .ref mkeptKeys2, .ref mkeptValues2, .ref mkeptHeights2, .ref mkeptHeats2, .ref mkeptSights, .long hh]))]) := by
  refine wk_mkCi (by decide) (Nat.le_of_ble_eq_true rfl) ?_
  intro p e s m below meth c A ls B hA hK hP hD hS hl
  obtain ⟨hx, hb, hr, hlocks, hml, hown, htb, hin⟩ := B
  have hl : lv_has ls 2 [(0, .ref mo)] := hl
  refine lv_aload_n hx hb dX12_join_0 rfl (lv_at hl 0 rfl) ?_
  refine va_get (D := D) (ci := 12) (v := .int 0) (C := RX12) (T := TX12) (N := 44) hx hb htb inX12 hown hK hP 0 rfl rfl 12 (by decide) (htb _ tw_775) (fun _ h9 => h9) rfl dX12_join_1 ?_
  refine lv_if_eq (tgt := 27) hx hb dX12_join_4 (by decide) (fun _ => ?_) (fun c_1 => absurd (by decide) c_1)
  refine lv_bipush (v := (-103)) hx hb dX12_join_27 (by decide) ?_
  refine W.widen (k := 0) (n := 0) (by decide) (by decide) ?_
  exact wk_iret () hx hb hr hlocks rfl hK hP hD hS [0] rfl rfl dX12_join_29
theorem dX12_cost_0 : decode cX12_cost 0 = .ok (.aload_n 0, 1) := by decide +kernel
theorem dX12_cost_1 : decode cX12_cost 1 = .ok (.invokevirtual 185, 3) := by decide +kernel
theorem dX12_cost_4 : decode cX12_cost 4 = .ok (.ifCond .eq 8, 3) := by decide +kernel
theorem dX12_cost_7 : decode cX12_cost 7 = .ok (.bipush (-103), 2) := by decide +kernel
theorem dX12_cost_9 : decode cX12_cost 9 = .ok (.goto 7, 3) := by decide +kernel
theorem dX12_cost_16 : decode cX12_cost 16 = .ok (.ireturn, 1) := by decide +kernel
set_option maxHeartbeats 4000000 in
set_option maxRecDepth 100000 in
theorem c_X12_cost (l : Launch) (D : va_G) (cy : ClassId) (mo mpage mkeys mvalues mheights mheats msecondKeys msecondValues msecondHeights msecondHeats msaved mbestHeights msights mby mkeptKeys mkeptValues mkeptHeights mkeptHeats mkeptKeys2 mkeptValues2 mkeptHeights2 mkeptHeats2 mkeptSights : Nat) (hh : Int64) : wk_Ci l yX12_cost cX12_cost 1 (some .int) { frames := 1, cells := 0, slots := 0, locals := 20 } D cy [.ref mo] [(mo, .inr (12, [.ref mpage, .int 0, .int 0, .int 0, .int 0, .int 0, .int 0, .int 0, .ref mkeys, .ref mvalues, .ref mheights, .ref mheats, .int 0, .ref msecondKeys, .ref msecondValues, .ref msecondHeights, .ref msecondHeats, .int 0, .int 0, .int 0, .int 0, .ref msaved, .ref mbestHeights, .int 0, .ref msights, .ref mby, .int 0, .int (-1), .int 0, .int 0, .int 0, .int 0, .int 0, .int 0, .ref mkeptKeys, .ref mkeptValues, .ref mkeptHeights, .ref mkeptHeats, .ref mkeptKeys2, .ref mkeptValues2, .ref mkeptHeights2, .ref mkeptHeats2, .ref mkeptSights, .long hh]))] 0 0 (fun (r : Int32) (u : Unit) => r = (-103)) (fun u => [(mo, .inr (12, [.ref mpage, .int 0, .int 0, .int 0, .int 0, .int 0, .int 0, .int 0, .ref mkeys, .ref mvalues, .ref mheights, .ref mheats, .int 0, .ref msecondKeys, .ref msecondValues, .ref msecondHeights, .ref msecondHeats, .int 0, .int 0, .int 0, .int 0, .ref msaved, .ref mbestHeights, .int 0, .ref msights, .ref mby, .int 0, .int (-1), .int 0, .int 0, .int 0, .int 0, .int 0, .int 0, .ref mkeptKeys, .ref mkeptValues, .ref mkeptHeights, .ref mkeptHeats, .ref mkeptKeys2, .ref mkeptValues2, .ref mkeptHeights2, .ref mkeptHeats2, .ref mkeptSights, .long hh]))]) := by
  refine wk_mkCi (by decide) (Nat.le_of_ble_eq_true rfl) ?_
  intro p e s m below meth c A ls B hA hK hP hD hS hl
  obtain ⟨hx, hb, hr, hlocks, hml, hown, htb, hin⟩ := B
  have hl : lv_has ls 1 [(0, .ref mo)] := hl
  refine lv_aload_n hx hb dX12_cost_0 rfl (lv_at hl 0 rfl) ?_
  refine wk_iV (As := []) (rest := []) (wc := [(mo, .inr (12, [.ref mpage, .int 0, .int 0, .int 0, .int 0, .int 0, .int 0, .int 0, .ref mkeys, .ref mvalues, .ref mheights, .ref mheats, .int 0, .ref msecondKeys, .ref msecondValues, .ref msecondHeights, .ref msecondHeats, .int 0, .int 0, .int 0, .int 0, .ref msaved, .ref mbestHeights, .int 0, .ref msights, .ref mby, .int 0, .int (-1), .int 0, .int 0, .int 0, .int 0, .int 0, .int 0, .ref mkeptKeys, .ref mkeptValues, .ref mkeptHeights, .ref mkeptHeats, .ref mkeptKeys2, .ref mkeptValues2, .ref mkeptHeights2, .ref mkeptHeats2, .ref mkeptSights, .long hh]))]) (wr := []) (n := 0) (R := _) ⟨hx, hb, hml, hown, htb⟩ (c_X12_lacks l D cy mo mpage mkeys mvalues mheights mheats msecondKeys msecondValues msecondHeights msecondHeats msaved mbestHeights msights mby mkeptKeys mkeptValues mkeptHeights mkeptHeats mkeptKeys2 mkeptValues2 mkeptHeights2 mkeptHeats2 mkeptSights  hh) tw_969 tw_966 tw_968 tw_29 tw_71 rfl rfl (by decide +kernel) ⟨Nat.le_of_ble_eq_true rfl, Nat.le_of_ble_eq_true rfl⟩ hK hP hD hS hA [0] [] rfl rfl rfl rfl (by decide) 0 (ci := 12) rfl rfl rfl hl.1 rfl (Nat.le_of_ble_eq_true rfl) dX12_cost_1 ⟨Nat.le_of_ble_eq_true rfl, Nat.le_of_ble_eq_true rfl⟩ (fun r_1 u_2 H locs hw_3 hP hD hS => ?_)
  refine W.widen (k := 0) (n := 0) (by decide) (by decide) ?_
  have hw_3 : r_1 = 1 := hw_3
  subst hw_3
  have hP : va_P D classes [(mo, .inr (12, [.ref mpage, .int 0, .int 0, .int 0, .int 0, .int 0, .int 0, .int 0, .ref mkeys, .ref mvalues, .ref mheights, .ref mheats, .int 0, .ref msecondKeys, .ref msecondValues, .ref msecondHeights, .ref msecondHeats, .int 0, .int 0, .int 0, .int 0, .ref msaved, .ref mbestHeights, .int 0, .ref msights, .ref mby, .int 0, .int (-1), .int 0, .int 0, .int 0, .int 0, .int 0, .int 0, .ref mkeptKeys, .ref mkeptValues, .ref mkeptHeights, .ref mkeptHeats, .ref mkeptKeys2, .ref mkeptValues2, .ref mkeptHeights2, .ref mkeptHeats2, .ref mkeptSights, .long hh]))] H := hP
  have hD : va_D A [(mo, .inr (12, [.ref mpage, .int 0, .int 0, .int 0, .int 0, .int 0, .int 0, .int 0, .ref mkeys, .ref mvalues, .ref mheights, .ref mheats, .int 0, .ref msecondKeys, .ref msecondValues, .ref msecondHeights, .ref msecondHeats, .int 0, .int 0, .int 0, .int 0, .ref msaved, .ref mbestHeights, .int 0, .ref msights, .ref mby, .int 0, .int (-1), .int 0, .int 0, .int 0, .int 0, .int 0, .int 0, .ref mkeptKeys, .ref mkeptValues, .ref mkeptHeights, .ref mkeptHeats, .ref mkeptKeys2, .ref mkeptValues2, .ref mkeptHeights2, .ref mkeptHeats2, .ref mkeptSights, .long hh]))] := hD
  refine lv_if_eq (tgt := 12) hx hb dX12_cost_4 (by decide) (fun c_4 => absurd c_4 (by decide)) (fun _ => ?_)
  refine lv_bipush (v := (-103)) hx hb dX12_cost_7 (by decide) ?_
  refine lv_goto (tgt := 16) hx hb dX12_cost_9 (by decide) ?_
  refine W.widen (k := 0) (n := 0) (by decide) (by decide) ?_
  exact wk_iret () hx hb hr hlocks rfl hK hP hD hS [0] rfl rfl dX12_cost_16
theorem dX12_best_0 : decode cX12_best 0 = .ok (.iload_n 1, 1) := by decide +kernel
theorem dX12_best_1 : decode cX12_best 1 = .ok (.i2l, 1) := by decide +kernel
theorem dX12_best_2 : decode cX12_best 2 = .ok (.lconst 1, 1) := by decide +kernel
theorem dX12_best_3 : decode cX12_best 3 = .ok (.ldc2_w 269, 3) := by decide +kernel
theorem dX12_best_6 : decode cX12_best 6 = .ok (.invokestatic 82, 3) := by decide +kernel
theorem dX12_best_9 : decode cX12_best 9 = .ok (.ifCond .eq 27, 3) := by decide +kernel
theorem dX12_best_12 : decode cX12_best 12 = .ok (.iload_n 2, 1) := by decide +kernel
theorem dX12_best_13 : decode cX12_best 13 = .ok (.i2l, 1) := by decide +kernel
theorem dX12_best_14 : decode cX12_best 14 = .ok (.lconst 0, 1) := by decide +kernel
theorem dX12_best_15 : decode cX12_best 15 = .ok (.lconst 1, 1) := by decide +kernel
theorem dX12_best_16 : decode cX12_best 16 = .ok (.invokestatic 82, 3) := by decide +kernel
theorem dX12_best_19 : decode cX12_best 19 = .ok (.ifCond .ne 20, 3) := by decide +kernel
theorem dX12_best_22 : decode cX12_best 22 = .ok (.iload_n 2, 1) := by decide +kernel
theorem dX12_best_23 : decode cX12_best 23 = .ok (.i2l, 1) := by decide +kernel
theorem dX12_best_24 : decode cX12_best 24 = .ok (.ldc2_w 200, 3) := by decide +kernel
theorem dX12_best_27 : decode cX12_best 27 = .ok (.ldc2_w 271, 3) := by decide +kernel
theorem dX12_best_30 : decode cX12_best 30 = .ok (.invokestatic 82, 3) := by decide +kernel
theorem dX12_best_33 : decode cX12_best 33 = .ok (.ifCond .ne 6, 3) := by decide +kernel
theorem dX12_best_36 : decode cX12_best 36 = .ok (.bipush (-102), 2) := by decide +kernel
theorem dX12_best_38 : decode cX12_best 38 = .ok (.ireturn, 1) := by decide +kernel
theorem dX12_best_39 : decode cX12_best 39 = .ok (.aload_n 0, 1) := by decide +kernel
theorem dX12_best_40 : decode cX12_best 40 = .ok (.invokevirtual 185, 3) := by decide +kernel
theorem dX12_best_43 : decode cX12_best 43 = .ok (.ifCond .ne 21, 3) := by decide +kernel
theorem dX12_best_64 : decode cX12_best 64 = .ok (.bipush (-103), 2) := by decide +kernel
theorem dX12_best_66 : decode cX12_best 66 = .ok (.ireturn, 1) := by decide +kernel
set_option maxHeartbeats 4000000 in
set_option maxRecDepth 100000 in
theorem c_X12_best (l : Launch) (D : va_G) (cy : ClassId) (mo mpage mkeys mvalues mheights mheats msecondKeys msecondValues msecondHeights msecondHeats msaved mbestHeights msights mby mkeptKeys mkeptValues mkeptHeights mkeptHeats mkeptKeys2 mkeptValues2 mkeptHeights2 mkeptHeats2 mkeptSights : Nat) (a b : Int32) (hh : Int64) : wk_Ci l yX12_best cX12_best 3 (some .int) { frames := 1, cells := 0, slots := 0, locals := 25 } D cy [.ref mo, .int a, .int b] [(mo, .inr (12, [.ref mpage, .int 0, .int 0, .int 0, .int 0, .int 0, .int 0, .int 0, .ref mkeys, .ref mvalues, .ref mheights, .ref mheats, .int 0, .ref msecondKeys, .ref msecondValues, .ref msecondHeights, .ref msecondHeats, .int 0, .int 0, .int 0, .int 0, .ref msaved, .ref mbestHeights, .int 0, .ref msights, .ref mby, .int 0, .int (-1), .int 0, .int 0, .int 0, .int 0, .int 0, .int 0, .ref mkeptKeys, .ref mkeptValues, .ref mkeptHeights, .ref mkeptHeats, .ref mkeptKeys2, .ref mkeptValues2, .ref mkeptHeights2, .ref mkeptHeats2, .ref mkeptSights, .long hh]))] 0 0 (fun (r : Int32) (u : Unit) => r = if (1 ≤ a.toInt ∧ a.toInt ≤ 18) ∧ (b.toInt = 0 ∨ b.toInt = 1 ∨ (10 ≤ b.toInt ∧ b.toInt ≤ 15)) then (-103) else (-102)) (fun u => [(mo, .inr (12, [.ref mpage, .int 0, .int 0, .int 0, .int 0, .int 0, .int 0, .int 0, .ref mkeys, .ref mvalues, .ref mheights, .ref mheats, .int 0, .ref msecondKeys, .ref msecondValues, .ref msecondHeights, .ref msecondHeats, .int 0, .int 0, .int 0, .int 0, .ref msaved, .ref mbestHeights, .int 0, .ref msights, .ref mby, .int 0, .int (-1), .int 0, .int 0, .int 0, .int 0, .int 0, .int 0, .ref mkeptKeys, .ref mkeptValues, .ref mkeptHeights, .ref mkeptHeats, .ref mkeptKeys2, .ref mkeptValues2, .ref mkeptHeights2, .ref mkeptHeats2, .ref mkeptSights, .long hh]))]) := by
  refine wk_mkCi (by decide) (Nat.le_of_ble_eq_true rfl) ?_
  intro p e s m below meth c A ls B hA hK hP hD hS hl
  obtain ⟨hx, hb, hr, hlocks, hml, hown, htb, hin⟩ := B
  have hl : lv_has ls 3 [(0, .ref mo), (1, .int a), (2, .int b)] := hl
  refine lv_iload_n hx hb dX12_best_0 rfl (lv_at hl 1 rfl) ?_
  refine lv_i2l (v := a.toInt64) hx hb dX12_best_1 rfl ?_
  refine lv_lconst (v := 1) hx hb dX12_best_2 (by decide) ?_
  refine lv_ldc2 (v := 18) hx hb hown (htb _ tw_1133) dX12_best_3 ?_
  refine wk_iS (As := [.long a.toInt64, .long 1, .long 18]) (rest := []) (wc := []) (wr := [(mo, .inr (12, [.ref mpage, .int 0, .int 0, .int 0, .int 0, .int 0, .int 0, .int 0, .ref mkeys, .ref mvalues, .ref mheights, .ref mheats, .int 0, .ref msecondKeys, .ref msecondValues, .ref msecondHeights, .ref msecondHeats, .int 0, .int 0, .int 0, .int 0, .ref msaved, .ref mbestHeights, .int 0, .ref msights, .ref mby, .int 0, .int (-1), .int 0, .int 0, .int 0, .int 0, .int 0, .int 0, .ref mkeptKeys, .ref mkeptValues, .ref mkeptHeights, .ref mkeptHeats, .ref mkeptKeys2, .ref mkeptValues2, .ref mkeptHeights2, .ref mkeptHeats2, .ref mkeptSights, .long hh]))]) (n := 3) (R := _) ⟨hx, hb, hml, hown, htb⟩ (c_X12_in l D cy   a.toInt64 1 18) tw_903 tw_901 tw_902 tw_71 rfl rfl (by decide +kernel) ⟨Nat.le_of_ble_eq_true rfl, Nat.le_of_ble_eq_true rfl⟩ hK hP hD hS hA [] [0] rfl rfl rfl rfl (by decide) rfl hl.1 rfl (Nat.le_of_ble_eq_true rfl) dX12_best_6 ⟨Nat.le_of_ble_eq_true rfl, Nat.le_of_ble_eq_true rfl⟩ (fun r_1 u_2 H locs hw_3 hP hD hS => ?_)
  refine W.widen (k := 0) (n := 0) (by decide) (by decide) ?_
  have hw_3 : r_1 = wk_in a.toInt64 1 18 := hw_3
  subst hw_3
  have hP : va_P D classes [(mo, .inr (12, [.ref mpage, .int 0, .int 0, .int 0, .int 0, .int 0, .int 0, .int 0, .ref mkeys, .ref mvalues, .ref mheights, .ref mheats, .int 0, .ref msecondKeys, .ref msecondValues, .ref msecondHeights, .ref msecondHeats, .int 0, .int 0, .int 0, .int 0, .ref msaved, .ref mbestHeights, .int 0, .ref msights, .ref mby, .int 0, .int (-1), .int 0, .int 0, .int 0, .int 0, .int 0, .int 0, .ref mkeptKeys, .ref mkeptValues, .ref mkeptHeights, .ref mkeptHeats, .ref mkeptKeys2, .ref mkeptValues2, .ref mkeptHeights2, .ref mkeptHeats2, .ref mkeptSights, .long hh]))] H := hP
  have hD : va_D A [(mo, .inr (12, [.ref mpage, .int 0, .int 0, .int 0, .int 0, .int 0, .int 0, .int 0, .ref mkeys, .ref mvalues, .ref mheights, .ref mheats, .int 0, .ref msecondKeys, .ref msecondValues, .ref msecondHeights, .ref msecondHeats, .int 0, .int 0, .int 0, .int 0, .ref msaved, .ref mbestHeights, .int 0, .ref msights, .ref mby, .int 0, .int (-1), .int 0, .int 0, .int 0, .int 0, .int 0, .int 0, .ref mkeptKeys, .ref mkeptValues, .ref mkeptHeights, .ref mkeptHeats, .ref mkeptKeys2, .ref mkeptValues2, .ref mkeptHeights2, .ref mkeptHeats2, .ref mkeptSights, .long hh]))] := hD
  refine lv_if_eq (tgt := 36) hx hb dX12_best_9 (by decide) (fun c_4 => ?_) (fun c_4 => ?_)
  · have k_4 : ¬ (1 ≤ a.toInt ∧ a.toInt ≤ 18) := by have h9 := wk_in0 c_4; simp only [wk_64] at h9; exact h9
    refine lv_bipush (v := (-102)) hx hb dX12_best_36 (by decide) ?_
    refine W.widen (k := 0) (n := 0) (by decide) (by decide) ?_
    exact wk_iret () hx hb hr hlocks (if_neg (by omega)).symm hK hP hD hS [0] rfl rfl dX12_best_38
  · have k_4 : 1 ≤ a.toInt ∧ a.toInt ≤ 18 := by have h9 := wk_in1 c_4; simp only [wk_64] at h9; exact h9
    refine lv_iload_n hx hb dX12_best_12 rfl (lv_at hl 2 rfl) ?_
    refine lv_i2l (v := b.toInt64) hx hb dX12_best_13 rfl ?_
    refine lv_lconst (v := 0) hx hb dX12_best_14 (by decide) ?_
    refine lv_lconst (v := 1) hx hb dX12_best_15 (by decide) ?_
    refine wk_iS (As := [.long b.toInt64, .long 0, .long 1]) (rest := []) (wc := []) (wr := [(mo, .inr (12, [.ref mpage, .int 0, .int 0, .int 0, .int 0, .int 0, .int 0, .int 0, .ref mkeys, .ref mvalues, .ref mheights, .ref mheats, .int 0, .ref msecondKeys, .ref msecondValues, .ref msecondHeights, .ref msecondHeats, .int 0, .int 0, .int 0, .int 0, .ref msaved, .ref mbestHeights, .int 0, .ref msights, .ref mby, .int 0, .int (-1), .int 0, .int 0, .int 0, .int 0, .int 0, .int 0, .ref mkeptKeys, .ref mkeptValues, .ref mkeptHeights, .ref mkeptHeats, .ref mkeptKeys2, .ref mkeptValues2, .ref mkeptHeights2, .ref mkeptHeats2, .ref mkeptSights, .long hh]))]) (n := 3) (R := _) ⟨hx, hb, hml, hown, htb⟩ (c_X12_in l D cy   b.toInt64 0 1) tw_903 tw_901 tw_902 tw_71 rfl rfl (by decide +kernel) ⟨Nat.le_of_ble_eq_true rfl, Nat.le_of_ble_eq_true rfl⟩ hK hP hD hS hA [] [0] rfl rfl rfl rfl (by decide) rfl hl.1 rfl (Nat.le_of_ble_eq_true rfl) dX12_best_16 ⟨Nat.le_of_ble_eq_true rfl, Nat.le_of_ble_eq_true rfl⟩ (fun r_5 u_6 H locs hw_7 hP hD hS => ?_)
    refine W.widen (k := 0) (n := 0) (by decide) (by decide) ?_
    have hw_7 : r_5 = wk_in b.toInt64 0 1 := hw_7
    subst hw_7
    have hP : va_P D classes [(mo, .inr (12, [.ref mpage, .int 0, .int 0, .int 0, .int 0, .int 0, .int 0, .int 0, .ref mkeys, .ref mvalues, .ref mheights, .ref mheats, .int 0, .ref msecondKeys, .ref msecondValues, .ref msecondHeights, .ref msecondHeats, .int 0, .int 0, .int 0, .int 0, .ref msaved, .ref mbestHeights, .int 0, .ref msights, .ref mby, .int 0, .int (-1), .int 0, .int 0, .int 0, .int 0, .int 0, .int 0, .ref mkeptKeys, .ref mkeptValues, .ref mkeptHeights, .ref mkeptHeats, .ref mkeptKeys2, .ref mkeptValues2, .ref mkeptHeights2, .ref mkeptHeats2, .ref mkeptSights, .long hh]))] H := hP
    have hD : va_D A [(mo, .inr (12, [.ref mpage, .int 0, .int 0, .int 0, .int 0, .int 0, .int 0, .int 0, .ref mkeys, .ref mvalues, .ref mheights, .ref mheats, .int 0, .ref msecondKeys, .ref msecondValues, .ref msecondHeights, .ref msecondHeats, .int 0, .int 0, .int 0, .int 0, .ref msaved, .ref mbestHeights, .int 0, .ref msights, .ref mby, .int 0, .int (-1), .int 0, .int 0, .int 0, .int 0, .int 0, .int 0, .ref mkeptKeys, .ref mkeptValues, .ref mkeptHeights, .ref mkeptHeats, .ref mkeptKeys2, .ref mkeptValues2, .ref mkeptHeights2, .ref mkeptHeats2, .ref mkeptSights, .long hh]))] := hD
    refine lv_if_ne (tgt := 39) hx hb dX12_best_19 (by decide) (fun c_8 => ?_) (fun c_8 => ?_)
    · have k_8 : 0 ≤ b.toInt ∧ b.toInt ≤ 1 := by have h9 := wk_in1 c_8; simp only [wk_64] at h9; exact h9
      refine lv_aload_n hx hb dX12_best_39 rfl (lv_at hl 0 rfl) ?_
      refine wk_iV (As := []) (rest := []) (wc := [(mo, .inr (12, [.ref mpage, .int 0, .int 0, .int 0, .int 0, .int 0, .int 0, .int 0, .ref mkeys, .ref mvalues, .ref mheights, .ref mheats, .int 0, .ref msecondKeys, .ref msecondValues, .ref msecondHeights, .ref msecondHeats, .int 0, .int 0, .int 0, .int 0, .ref msaved, .ref mbestHeights, .int 0, .ref msights, .ref mby, .int 0, .int (-1), .int 0, .int 0, .int 0, .int 0, .int 0, .int 0, .ref mkeptKeys, .ref mkeptValues, .ref mkeptHeights, .ref mkeptHeats, .ref mkeptKeys2, .ref mkeptValues2, .ref mkeptHeights2, .ref mkeptHeats2, .ref mkeptSights, .long hh]))]) (wr := []) (n := 0) (R := _) ⟨hx, hb, hml, hown, htb⟩ (c_X12_lacks l D cy mo mpage mkeys mvalues mheights mheats msecondKeys msecondValues msecondHeights msecondHeats msaved mbestHeights msights mby mkeptKeys mkeptValues mkeptHeights mkeptHeats mkeptKeys2 mkeptValues2 mkeptHeights2 mkeptHeats2 mkeptSights  hh) tw_969 tw_966 tw_968 tw_29 tw_71 rfl rfl (by decide +kernel) ⟨Nat.le_of_ble_eq_true rfl, Nat.le_of_ble_eq_true rfl⟩ hK hP hD hS hA [0] [] rfl rfl rfl rfl (by decide) 0 (ci := 12) rfl rfl rfl hl.1 rfl (Nat.le_of_ble_eq_true rfl) dX12_best_40 ⟨Nat.le_of_ble_eq_true rfl, Nat.le_of_ble_eq_true rfl⟩ (fun r_9 u_10 H locs hw_11 hP hD hS => ?_)
      refine W.widen (k := 0) (n := 0) (by decide) (by decide) ?_
      have hw_11 : r_9 = 1 := hw_11
      subst hw_11
      have hP : va_P D classes [(mo, .inr (12, [.ref mpage, .int 0, .int 0, .int 0, .int 0, .int 0, .int 0, .int 0, .ref mkeys, .ref mvalues, .ref mheights, .ref mheats, .int 0, .ref msecondKeys, .ref msecondValues, .ref msecondHeights, .ref msecondHeats, .int 0, .int 0, .int 0, .int 0, .ref msaved, .ref mbestHeights, .int 0, .ref msights, .ref mby, .int 0, .int (-1), .int 0, .int 0, .int 0, .int 0, .int 0, .int 0, .ref mkeptKeys, .ref mkeptValues, .ref mkeptHeights, .ref mkeptHeats, .ref mkeptKeys2, .ref mkeptValues2, .ref mkeptHeights2, .ref mkeptHeats2, .ref mkeptSights, .long hh]))] H := hP
      have hD : va_D A [(mo, .inr (12, [.ref mpage, .int 0, .int 0, .int 0, .int 0, .int 0, .int 0, .int 0, .ref mkeys, .ref mvalues, .ref mheights, .ref mheats, .int 0, .ref msecondKeys, .ref msecondValues, .ref msecondHeights, .ref msecondHeats, .int 0, .int 0, .int 0, .int 0, .ref msaved, .ref mbestHeights, .int 0, .ref msights, .ref mby, .int 0, .int (-1), .int 0, .int 0, .int 0, .int 0, .int 0, .int 0, .ref mkeptKeys, .ref mkeptValues, .ref mkeptHeights, .ref mkeptHeats, .ref mkeptKeys2, .ref mkeptValues2, .ref mkeptHeights2, .ref mkeptHeats2, .ref mkeptSights, .long hh]))] := hD
      refine lv_if_ne (tgt := 64) hx hb dX12_best_43 (by decide) (fun _ => ?_) (fun c_12 => absurd c_12 (by decide))
      refine lv_bipush (v := (-103)) hx hb dX12_best_64 (by decide) ?_
      refine W.widen (k := 0) (n := 0) (by decide) (by decide) ?_
      exact wk_iret () hx hb hr hlocks (if_pos (by omega)).symm hK hP hD hS [0] rfl rfl dX12_best_66
    · have k_8 : ¬ (0 ≤ b.toInt ∧ b.toInt ≤ 1) := by have h9 := wk_in0 c_8; simp only [wk_64] at h9; exact h9
      refine lv_iload_n hx hb dX12_best_22 rfl (lv_at hl 2 rfl) ?_
      refine lv_i2l (v := b.toInt64) hx hb dX12_best_23 rfl ?_
      refine lv_ldc2 (v := 10) hx hb hown (htb _ tw_1023) dX12_best_24 ?_
      refine lv_ldc2 (v := 15) hx hb hown (htb _ tw_1134) dX12_best_27 ?_
      refine wk_iS (As := [.long b.toInt64, .long 10, .long 15]) (rest := []) (wc := []) (wr := [(mo, .inr (12, [.ref mpage, .int 0, .int 0, .int 0, .int 0, .int 0, .int 0, .int 0, .ref mkeys, .ref mvalues, .ref mheights, .ref mheats, .int 0, .ref msecondKeys, .ref msecondValues, .ref msecondHeights, .ref msecondHeats, .int 0, .int 0, .int 0, .int 0, .ref msaved, .ref mbestHeights, .int 0, .ref msights, .ref mby, .int 0, .int (-1), .int 0, .int 0, .int 0, .int 0, .int 0, .int 0, .ref mkeptKeys, .ref mkeptValues, .ref mkeptHeights, .ref mkeptHeats, .ref mkeptKeys2, .ref mkeptValues2, .ref mkeptHeights2, .ref mkeptHeats2, .ref mkeptSights, .long hh]))]) (n := 3) (R := _) ⟨hx, hb, hml, hown, htb⟩ (c_X12_in l D cy   b.toInt64 10 15) tw_903 tw_901 tw_902 tw_71 rfl rfl (by decide +kernel) ⟨Nat.le_of_ble_eq_true rfl, Nat.le_of_ble_eq_true rfl⟩ hK hP hD hS hA [] [0] rfl rfl rfl rfl (by decide) rfl hl.1 rfl (Nat.le_of_ble_eq_true rfl) dX12_best_30 ⟨Nat.le_of_ble_eq_true rfl, Nat.le_of_ble_eq_true rfl⟩ (fun r_13 u_14 H locs hw_15 hP hD hS => ?_)
      refine W.widen (k := 0) (n := 0) (by decide) (by decide) ?_
      have hw_15 : r_13 = wk_in b.toInt64 10 15 := hw_15
      subst hw_15
      have hP : va_P D classes [(mo, .inr (12, [.ref mpage, .int 0, .int 0, .int 0, .int 0, .int 0, .int 0, .int 0, .ref mkeys, .ref mvalues, .ref mheights, .ref mheats, .int 0, .ref msecondKeys, .ref msecondValues, .ref msecondHeights, .ref msecondHeats, .int 0, .int 0, .int 0, .int 0, .ref msaved, .ref mbestHeights, .int 0, .ref msights, .ref mby, .int 0, .int (-1), .int 0, .int 0, .int 0, .int 0, .int 0, .int 0, .ref mkeptKeys, .ref mkeptValues, .ref mkeptHeights, .ref mkeptHeats, .ref mkeptKeys2, .ref mkeptValues2, .ref mkeptHeights2, .ref mkeptHeats2, .ref mkeptSights, .long hh]))] H := hP
      have hD : va_D A [(mo, .inr (12, [.ref mpage, .int 0, .int 0, .int 0, .int 0, .int 0, .int 0, .int 0, .ref mkeys, .ref mvalues, .ref mheights, .ref mheats, .int 0, .ref msecondKeys, .ref msecondValues, .ref msecondHeights, .ref msecondHeats, .int 0, .int 0, .int 0, .int 0, .ref msaved, .ref mbestHeights, .int 0, .ref msights, .ref mby, .int 0, .int (-1), .int 0, .int 0, .int 0, .int 0, .int 0, .int 0, .ref mkeptKeys, .ref mkeptValues, .ref mkeptHeights, .ref mkeptHeats, .ref mkeptKeys2, .ref mkeptValues2, .ref mkeptHeights2, .ref mkeptHeats2, .ref mkeptSights, .long hh]))] := hD
      refine lv_if_ne (tgt := 39) hx hb dX12_best_33 (by decide) (fun c_16 => ?_) (fun c_16 => ?_)
      · have k_16 : 10 ≤ b.toInt ∧ b.toInt ≤ 15 := by have h9 := wk_in1 c_16; simp only [wk_64] at h9; exact h9
        refine lv_aload_n hx hb dX12_best_39 rfl (lv_at hl 0 rfl) ?_
        refine wk_iV (As := []) (rest := []) (wc := [(mo, .inr (12, [.ref mpage, .int 0, .int 0, .int 0, .int 0, .int 0, .int 0, .int 0, .ref mkeys, .ref mvalues, .ref mheights, .ref mheats, .int 0, .ref msecondKeys, .ref msecondValues, .ref msecondHeights, .ref msecondHeats, .int 0, .int 0, .int 0, .int 0, .ref msaved, .ref mbestHeights, .int 0, .ref msights, .ref mby, .int 0, .int (-1), .int 0, .int 0, .int 0, .int 0, .int 0, .int 0, .ref mkeptKeys, .ref mkeptValues, .ref mkeptHeights, .ref mkeptHeats, .ref mkeptKeys2, .ref mkeptValues2, .ref mkeptHeights2, .ref mkeptHeats2, .ref mkeptSights, .long hh]))]) (wr := []) (n := 0) (R := _) ⟨hx, hb, hml, hown, htb⟩ (c_X12_lacks l D cy mo mpage mkeys mvalues mheights mheats msecondKeys msecondValues msecondHeights msecondHeats msaved mbestHeights msights mby mkeptKeys mkeptValues mkeptHeights mkeptHeats mkeptKeys2 mkeptValues2 mkeptHeights2 mkeptHeats2 mkeptSights  hh) tw_969 tw_966 tw_968 tw_29 tw_71 rfl rfl (by decide +kernel) ⟨Nat.le_of_ble_eq_true rfl, Nat.le_of_ble_eq_true rfl⟩ hK hP hD hS hA [0] [] rfl rfl rfl rfl (by decide) 0 (ci := 12) rfl rfl rfl hl.1 rfl (Nat.le_of_ble_eq_true rfl) dX12_best_40 ⟨Nat.le_of_ble_eq_true rfl, Nat.le_of_ble_eq_true rfl⟩ (fun r_17 u_18 H locs hw_19 hP hD hS => ?_)
        refine W.widen (k := 0) (n := 0) (by decide) (by decide) ?_
        have hw_19 : r_17 = 1 := hw_19
        subst hw_19
        have hP : va_P D classes [(mo, .inr (12, [.ref mpage, .int 0, .int 0, .int 0, .int 0, .int 0, .int 0, .int 0, .ref mkeys, .ref mvalues, .ref mheights, .ref mheats, .int 0, .ref msecondKeys, .ref msecondValues, .ref msecondHeights, .ref msecondHeats, .int 0, .int 0, .int 0, .int 0, .ref msaved, .ref mbestHeights, .int 0, .ref msights, .ref mby, .int 0, .int (-1), .int 0, .int 0, .int 0, .int 0, .int 0, .int 0, .ref mkeptKeys, .ref mkeptValues, .ref mkeptHeights, .ref mkeptHeats, .ref mkeptKeys2, .ref mkeptValues2, .ref mkeptHeights2, .ref mkeptHeats2, .ref mkeptSights, .long hh]))] H := hP
        have hD : va_D A [(mo, .inr (12, [.ref mpage, .int 0, .int 0, .int 0, .int 0, .int 0, .int 0, .int 0, .ref mkeys, .ref mvalues, .ref mheights, .ref mheats, .int 0, .ref msecondKeys, .ref msecondValues, .ref msecondHeights, .ref msecondHeats, .int 0, .int 0, .int 0, .int 0, .ref msaved, .ref mbestHeights, .int 0, .ref msights, .ref mby, .int 0, .int (-1), .int 0, .int 0, .int 0, .int 0, .int 0, .int 0, .ref mkeptKeys, .ref mkeptValues, .ref mkeptHeights, .ref mkeptHeats, .ref mkeptKeys2, .ref mkeptValues2, .ref mkeptHeights2, .ref mkeptHeats2, .ref mkeptSights, .long hh]))] := hD
        refine lv_if_ne (tgt := 64) hx hb dX12_best_43 (by decide) (fun _ => ?_) (fun c_20 => absurd c_20 (by decide))
        refine lv_bipush (v := (-103)) hx hb dX12_best_64 (by decide) ?_
        refine W.widen (k := 0) (n := 0) (by decide) (by decide) ?_
        exact wk_iret () hx hb hr hlocks (if_pos (by omega)).symm hK hP hD hS [0] rfl rfl dX12_best_66
      · have k_16 : ¬ (10 ≤ b.toInt ∧ b.toInt ≤ 15) := by have h9 := wk_in0 c_16; simp only [wk_64] at h9; exact h9
        refine lv_bipush (v := (-102)) hx hb dX12_best_36 (by decide) ?_
        refine W.widen (k := 0) (n := 0) (by decide) (by decide) ?_
        exact wk_iret () hx hb hr hlocks (if_neg (by omega)).symm hK hP hD hS [0] rfl rfl dX12_best_38
theorem dX12_change_0 : decode cX12_change 0 = .ok (.iload_n 1, 1) := by decide +kernel
theorem dX12_change_1 : decode cX12_change 1 = .ok (.i2l, 1) := by decide +kernel
theorem dX12_change_2 : decode cX12_change 2 = .ok (.lconst 0, 1) := by decide +kernel
theorem dX12_change_3 : decode cX12_change 3 = .ok (.ldc2_w 195, 3) := by decide +kernel
theorem dX12_change_6 : decode cX12_change 6 = .ok (.invokestatic 82, 3) := by decide +kernel
theorem dX12_change_9 : decode cX12_change 9 = .ok (.ifCond .ne 6, 3) := by decide +kernel
theorem dX12_change_12 : decode cX12_change 12 = .ok (.bipush (-102), 2) := by decide +kernel
theorem dX12_change_14 : decode cX12_change 14 = .ok (.ireturn, 1) := by decide +kernel
theorem dX12_change_15 : decode cX12_change 15 = .ok (.aload_n 0, 1) := by decide +kernel
theorem dX12_change_16 : decode cX12_change 16 = .ok (.invokevirtual 185, 3) := by decide +kernel
theorem dX12_change_19 : decode cX12_change 19 = .ok (.ifCond .eq 8, 3) := by decide +kernel
theorem dX12_change_22 : decode cX12_change 22 = .ok (.bipush (-103), 2) := by decide +kernel
theorem dX12_change_24 : decode cX12_change 24 = .ok (.goto 8, 3) := by decide +kernel
theorem dX12_change_32 : decode cX12_change 32 = .ok (.ireturn, 1) := by decide +kernel
set_option maxHeartbeats 4000000 in
set_option maxRecDepth 100000 in
theorem c_X12_change (l : Launch) (D : va_G) (cy : ClassId) (mo mpage mkeys mvalues mheights mheats msecondKeys msecondValues msecondHeights msecondHeats msaved mbestHeights msights mby mkeptKeys mkeptValues mkeptHeights mkeptHeats mkeptKeys2 mkeptValues2 mkeptHeights2 mkeptHeats2 mkeptSights : Nat) (a : Int32) (hh : Int64) : wk_Ci l yX12_change cX12_change 2 (some .int) { frames := 1, cells := 0, slots := 0, locals := 25 } D cy [.ref mo, .int a] [(mo, .inr (12, [.ref mpage, .int 0, .int 0, .int 0, .int 0, .int 0, .int 0, .int 0, .ref mkeys, .ref mvalues, .ref mheights, .ref mheats, .int 0, .ref msecondKeys, .ref msecondValues, .ref msecondHeights, .ref msecondHeats, .int 0, .int 0, .int 0, .int 0, .ref msaved, .ref mbestHeights, .int 0, .ref msights, .ref mby, .int 0, .int (-1), .int 0, .int 0, .int 0, .int 0, .int 0, .int 0, .ref mkeptKeys, .ref mkeptValues, .ref mkeptHeights, .ref mkeptHeats, .ref mkeptKeys2, .ref mkeptValues2, .ref mkeptHeights2, .ref mkeptHeats2, .ref mkeptSights, .long hh]))] 0 0 (fun (r : Int32) (u : Unit) => r = if (0 ≤ a.toInt ∧ a.toInt ≤ 2) then (-103) else (-102)) (fun u => [(mo, .inr (12, [.ref mpage, .int 0, .int 0, .int 0, .int 0, .int 0, .int 0, .int 0, .ref mkeys, .ref mvalues, .ref mheights, .ref mheats, .int 0, .ref msecondKeys, .ref msecondValues, .ref msecondHeights, .ref msecondHeats, .int 0, .int 0, .int 0, .int 0, .ref msaved, .ref mbestHeights, .int 0, .ref msights, .ref mby, .int 0, .int (-1), .int 0, .int 0, .int 0, .int 0, .int 0, .int 0, .ref mkeptKeys, .ref mkeptValues, .ref mkeptHeights, .ref mkeptHeats, .ref mkeptKeys2, .ref mkeptValues2, .ref mkeptHeights2, .ref mkeptHeats2, .ref mkeptSights, .long hh]))]) := by
  refine wk_mkCi (by decide) (Nat.le_of_ble_eq_true rfl) ?_
  intro p e s m below meth c A ls B hA hK hP hD hS hl
  obtain ⟨hx, hb, hr, hlocks, hml, hown, htb, hin⟩ := B
  have hl : lv_has ls 2 [(0, .ref mo), (1, .int a)] := hl
  refine lv_iload_n hx hb dX12_change_0 rfl (lv_at hl 1 rfl) ?_
  refine lv_i2l (v := a.toInt64) hx hb dX12_change_1 rfl ?_
  refine lv_lconst (v := 0) hx hb dX12_change_2 (by decide) ?_
  refine lv_ldc2 (v := 2) hx hb hown (htb _ tw_998) dX12_change_3 ?_
  refine wk_iS (As := [.long a.toInt64, .long 0, .long 2]) (rest := []) (wc := []) (wr := [(mo, .inr (12, [.ref mpage, .int 0, .int 0, .int 0, .int 0, .int 0, .int 0, .int 0, .ref mkeys, .ref mvalues, .ref mheights, .ref mheats, .int 0, .ref msecondKeys, .ref msecondValues, .ref msecondHeights, .ref msecondHeats, .int 0, .int 0, .int 0, .int 0, .ref msaved, .ref mbestHeights, .int 0, .ref msights, .ref mby, .int 0, .int (-1), .int 0, .int 0, .int 0, .int 0, .int 0, .int 0, .ref mkeptKeys, .ref mkeptValues, .ref mkeptHeights, .ref mkeptHeats, .ref mkeptKeys2, .ref mkeptValues2, .ref mkeptHeights2, .ref mkeptHeats2, .ref mkeptSights, .long hh]))]) (n := 3) (R := _) ⟨hx, hb, hml, hown, htb⟩ (c_X12_in l D cy   a.toInt64 0 2) tw_903 tw_901 tw_902 tw_71 rfl rfl (by decide +kernel) ⟨Nat.le_of_ble_eq_true rfl, Nat.le_of_ble_eq_true rfl⟩ hK hP hD hS hA [] [0] rfl rfl rfl rfl (by decide) rfl hl.1 rfl (Nat.le_of_ble_eq_true rfl) dX12_change_6 ⟨Nat.le_of_ble_eq_true rfl, Nat.le_of_ble_eq_true rfl⟩ (fun r_1 u_2 H locs hw_3 hP hD hS => ?_)
  refine W.widen (k := 0) (n := 0) (by decide) (by decide) ?_
  have hw_3 : r_1 = wk_in a.toInt64 0 2 := hw_3
  subst hw_3
  have hP : va_P D classes [(mo, .inr (12, [.ref mpage, .int 0, .int 0, .int 0, .int 0, .int 0, .int 0, .int 0, .ref mkeys, .ref mvalues, .ref mheights, .ref mheats, .int 0, .ref msecondKeys, .ref msecondValues, .ref msecondHeights, .ref msecondHeats, .int 0, .int 0, .int 0, .int 0, .ref msaved, .ref mbestHeights, .int 0, .ref msights, .ref mby, .int 0, .int (-1), .int 0, .int 0, .int 0, .int 0, .int 0, .int 0, .ref mkeptKeys, .ref mkeptValues, .ref mkeptHeights, .ref mkeptHeats, .ref mkeptKeys2, .ref mkeptValues2, .ref mkeptHeights2, .ref mkeptHeats2, .ref mkeptSights, .long hh]))] H := hP
  have hD : va_D A [(mo, .inr (12, [.ref mpage, .int 0, .int 0, .int 0, .int 0, .int 0, .int 0, .int 0, .ref mkeys, .ref mvalues, .ref mheights, .ref mheats, .int 0, .ref msecondKeys, .ref msecondValues, .ref msecondHeights, .ref msecondHeats, .int 0, .int 0, .int 0, .int 0, .ref msaved, .ref mbestHeights, .int 0, .ref msights, .ref mby, .int 0, .int (-1), .int 0, .int 0, .int 0, .int 0, .int 0, .int 0, .ref mkeptKeys, .ref mkeptValues, .ref mkeptHeights, .ref mkeptHeats, .ref mkeptKeys2, .ref mkeptValues2, .ref mkeptHeights2, .ref mkeptHeats2, .ref mkeptSights, .long hh]))] := hD
  refine lv_if_ne (tgt := 15) hx hb dX12_change_9 (by decide) (fun c_4 => ?_) (fun c_4 => ?_)
  · have k_4 : 0 ≤ a.toInt ∧ a.toInt ≤ 2 := by have h9 := wk_in1 c_4; simp only [wk_64] at h9; exact h9
    refine lv_aload_n hx hb dX12_change_15 rfl (lv_at hl 0 rfl) ?_
    refine wk_iV (As := []) (rest := []) (wc := [(mo, .inr (12, [.ref mpage, .int 0, .int 0, .int 0, .int 0, .int 0, .int 0, .int 0, .ref mkeys, .ref mvalues, .ref mheights, .ref mheats, .int 0, .ref msecondKeys, .ref msecondValues, .ref msecondHeights, .ref msecondHeats, .int 0, .int 0, .int 0, .int 0, .ref msaved, .ref mbestHeights, .int 0, .ref msights, .ref mby, .int 0, .int (-1), .int 0, .int 0, .int 0, .int 0, .int 0, .int 0, .ref mkeptKeys, .ref mkeptValues, .ref mkeptHeights, .ref mkeptHeats, .ref mkeptKeys2, .ref mkeptValues2, .ref mkeptHeights2, .ref mkeptHeats2, .ref mkeptSights, .long hh]))]) (wr := []) (n := 0) (R := _) ⟨hx, hb, hml, hown, htb⟩ (c_X12_lacks l D cy mo mpage mkeys mvalues mheights mheats msecondKeys msecondValues msecondHeights msecondHeats msaved mbestHeights msights mby mkeptKeys mkeptValues mkeptHeights mkeptHeats mkeptKeys2 mkeptValues2 mkeptHeights2 mkeptHeats2 mkeptSights  hh) tw_969 tw_966 tw_968 tw_29 tw_71 rfl rfl (by decide +kernel) ⟨Nat.le_of_ble_eq_true rfl, Nat.le_of_ble_eq_true rfl⟩ hK hP hD hS hA [0] [] rfl rfl rfl rfl (by decide) 0 (ci := 12) rfl rfl rfl hl.1 rfl (Nat.le_of_ble_eq_true rfl) dX12_change_16 ⟨Nat.le_of_ble_eq_true rfl, Nat.le_of_ble_eq_true rfl⟩ (fun r_5 u_6 H locs hw_7 hP hD hS => ?_)
    refine W.widen (k := 0) (n := 0) (by decide) (by decide) ?_
    have hw_7 : r_5 = 1 := hw_7
    subst hw_7
    have hP : va_P D classes [(mo, .inr (12, [.ref mpage, .int 0, .int 0, .int 0, .int 0, .int 0, .int 0, .int 0, .ref mkeys, .ref mvalues, .ref mheights, .ref mheats, .int 0, .ref msecondKeys, .ref msecondValues, .ref msecondHeights, .ref msecondHeats, .int 0, .int 0, .int 0, .int 0, .ref msaved, .ref mbestHeights, .int 0, .ref msights, .ref mby, .int 0, .int (-1), .int 0, .int 0, .int 0, .int 0, .int 0, .int 0, .ref mkeptKeys, .ref mkeptValues, .ref mkeptHeights, .ref mkeptHeats, .ref mkeptKeys2, .ref mkeptValues2, .ref mkeptHeights2, .ref mkeptHeats2, .ref mkeptSights, .long hh]))] H := hP
    have hD : va_D A [(mo, .inr (12, [.ref mpage, .int 0, .int 0, .int 0, .int 0, .int 0, .int 0, .int 0, .ref mkeys, .ref mvalues, .ref mheights, .ref mheats, .int 0, .ref msecondKeys, .ref msecondValues, .ref msecondHeights, .ref msecondHeats, .int 0, .int 0, .int 0, .int 0, .ref msaved, .ref mbestHeights, .int 0, .ref msights, .ref mby, .int 0, .int (-1), .int 0, .int 0, .int 0, .int 0, .int 0, .int 0, .ref mkeptKeys, .ref mkeptValues, .ref mkeptHeights, .ref mkeptHeats, .ref mkeptKeys2, .ref mkeptValues2, .ref mkeptHeights2, .ref mkeptHeats2, .ref mkeptSights, .long hh]))] := hD
    refine lv_if_eq (tgt := 27) hx hb dX12_change_19 (by decide) (fun c_8 => absurd c_8 (by decide)) (fun _ => ?_)
    refine lv_bipush (v := (-103)) hx hb dX12_change_22 (by decide) ?_
    refine lv_goto (tgt := 32) hx hb dX12_change_24 (by decide) ?_
    refine W.widen (k := 0) (n := 0) (by decide) (by decide) ?_
    exact wk_iret () hx hb hr hlocks (if_pos (by omega)).symm hK hP hD hS [0] rfl rfl dX12_change_32
  · have k_4 : ¬ (0 ≤ a.toInt ∧ a.toInt ≤ 2) := by have h9 := wk_in0 c_4; simp only [wk_64] at h9; exact h9
    refine lv_bipush (v := (-102)) hx hb dX12_change_12 (by decide) ?_
    refine W.widen (k := 0) (n := 0) (by decide) (by decide) ?_
    exact wk_iret () hx hb hr hlocks (if_neg (by omega)).symm hK hP hD hS [0] rfl rfl dX12_change_14
theorem dX12_see_0 : decode cX12_see 0 = .ok (.aload_n 0, 1) := by decide +kernel
theorem dX12_see_1 : decode cX12_see 1 = .ok (.iload_n 1, 1) := by decide +kernel
theorem dX12_see_2 : decode cX12_see 2 = .ok (.invokevirtual 192, 3) := by decide +kernel
theorem dX12_see_5 : decode cX12_see 5 = .ok (.ifCond .ne 6, 3) := by decide +kernel
theorem dX12_see_8 : decode cX12_see 8 = .ok (.bipush (-101), 2) := by decide +kernel
theorem dX12_see_10 : decode cX12_see 10 = .ok (.ireturn, 1) := by decide +kernel
set_option maxHeartbeats 4000000 in
set_option maxRecDepth 100000 in
theorem c_X12_see (l : Launch) (D : va_G) (cy : ClassId) (mo mpage mkeys mvalues mheights mheats msecondKeys msecondValues msecondHeights msecondHeats msaved mbestHeights msights mby mkeptKeys mkeptValues mkeptHeights mkeptHeats mkeptKeys2 mkeptValues2 mkeptHeights2 mkeptHeats2 mkeptSights : Nat) (a b d : Int32) (hh : Int64) : wk_Ci l yX12_see cX12_see 4 (some .int) { frames := 2, cells := 0, slots := 0, locals := 46 } D cy [.ref mo, .int a, .int b, .int d] [(mo, .inr (12, [.ref mpage, .int 0, .int 0, .int 0, .int 0, .int 0, .int 0, .int 0, .ref mkeys, .ref mvalues, .ref mheights, .ref mheats, .int 0, .ref msecondKeys, .ref msecondValues, .ref msecondHeights, .ref msecondHeats, .int 0, .int 0, .int 0, .int 0, .ref msaved, .ref mbestHeights, .int 0, .ref msights, .ref mby, .int 0, .int (-1), .int 0, .int 0, .int 0, .int 0, .int 0, .int 0, .ref mkeptKeys, .ref mkeptValues, .ref mkeptHeights, .ref mkeptHeats, .ref mkeptKeys2, .ref mkeptValues2, .ref mkeptHeights2, .ref mkeptHeats2, .ref mkeptSights, .long hh]))] 0 0 (fun (r : Int32) (u : Unit) => r = (-101)) (fun u => [(mo, .inr (12, [.ref mpage, .int 0, .int 0, .int 0, .int 0, .int 0, .int 0, .int 0, .ref mkeys, .ref mvalues, .ref mheights, .ref mheats, .int 0, .ref msecondKeys, .ref msecondValues, .ref msecondHeights, .ref msecondHeats, .int 0, .int 0, .int 0, .int 0, .ref msaved, .ref mbestHeights, .int 0, .ref msights, .ref mby, .int 0, .int (-1), .int 0, .int 0, .int 0, .int 0, .int 0, .int 0, .ref mkeptKeys, .ref mkeptValues, .ref mkeptHeights, .ref mkeptHeats, .ref mkeptKeys2, .ref mkeptValues2, .ref mkeptHeights2, .ref mkeptHeats2, .ref mkeptSights, .long hh]))]) := by
  refine wk_mkCi (by decide) (Nat.le_of_ble_eq_true rfl) ?_
  intro p e s m below meth c A ls B hA hK hP hD hS hl
  obtain ⟨hx, hb, hr, hlocks, hml, hown, htb, hin⟩ := B
  have hl : lv_has ls 4 [(0, .ref mo), (1, .int a), (2, .int b), (3, .int d)] := hl
  refine lv_aload_n hx hb dX12_see_0 rfl (lv_at hl 0 rfl) ?_
  refine lv_iload_n hx hb dX12_see_1 rfl (lv_at hl 1 rfl) ?_
  refine wk_iV (As := [.int a]) (rest := []) (wc := [(mo, .inr (12, [.ref mpage, .int 0, .int 0, .int 0, .int 0, .int 0, .int 0, .int 0, .ref mkeys, .ref mvalues, .ref mheights, .ref mheats, .int 0, .ref msecondKeys, .ref msecondValues, .ref msecondHeights, .ref msecondHeats, .int 0, .int 0, .int 0, .int 0, .ref msaved, .ref mbestHeights, .int 0, .ref msights, .ref mby, .int 0, .int (-1), .int 0, .int 0, .int 0, .int 0, .int 0, .int 0, .ref mkeptKeys, .ref mkeptValues, .ref mkeptHeights, .ref mkeptHeats, .ref mkeptKeys2, .ref mkeptValues2, .ref mkeptHeights2, .ref mkeptHeats2, .ref mkeptSights, .long hh]))]) (wr := []) (n := 1) (R := _) ⟨hx, hb, hml, hown, htb⟩ (c_X12_isNumber l D cy mo mpage mkeys mvalues mheights mheats msecondKeys msecondValues msecondHeights msecondHeats msaved mbestHeights msights mby mkeptKeys mkeptValues mkeptHeights mkeptHeats mkeptKeys2 mkeptValues2 mkeptHeights2 mkeptHeats2 mkeptSights a hh) tw_997 tw_994 tw_996 tw_35 tw_71 rfl rfl (by decide +kernel) ⟨Nat.le_of_ble_eq_true rfl, Nat.le_of_ble_eq_true rfl⟩ hK hP hD hS hA [0] [] rfl rfl rfl rfl (by decide) 0 (ci := 12) rfl rfl rfl hl.1 rfl (Nat.le_of_ble_eq_true rfl) dX12_see_2 ⟨Nat.le_of_ble_eq_true rfl, Nat.le_of_ble_eq_true rfl⟩ (fun r_1 u_2 H locs hw_3 hP hD hS => ?_)
  refine W.widen (k := 0) (n := 0) (by decide) (by decide) ?_
  have hw_3 : r_1 = 0 := hw_3
  subst hw_3
  have hP : va_P D classes [(mo, .inr (12, [.ref mpage, .int 0, .int 0, .int 0, .int 0, .int 0, .int 0, .int 0, .ref mkeys, .ref mvalues, .ref mheights, .ref mheats, .int 0, .ref msecondKeys, .ref msecondValues, .ref msecondHeights, .ref msecondHeats, .int 0, .int 0, .int 0, .int 0, .ref msaved, .ref mbestHeights, .int 0, .ref msights, .ref mby, .int 0, .int (-1), .int 0, .int 0, .int 0, .int 0, .int 0, .int 0, .ref mkeptKeys, .ref mkeptValues, .ref mkeptHeights, .ref mkeptHeats, .ref mkeptKeys2, .ref mkeptValues2, .ref mkeptHeights2, .ref mkeptHeats2, .ref mkeptSights, .long hh]))] H := hP
  have hD : va_D A [(mo, .inr (12, [.ref mpage, .int 0, .int 0, .int 0, .int 0, .int 0, .int 0, .int 0, .ref mkeys, .ref mvalues, .ref mheights, .ref mheats, .int 0, .ref msecondKeys, .ref msecondValues, .ref msecondHeights, .ref msecondHeats, .int 0, .int 0, .int 0, .int 0, .ref msaved, .ref mbestHeights, .int 0, .ref msights, .ref mby, .int 0, .int (-1), .int 0, .int 0, .int 0, .int 0, .int 0, .int 0, .ref mkeptKeys, .ref mkeptValues, .ref mkeptHeights, .ref mkeptHeats, .ref mkeptKeys2, .ref mkeptValues2, .ref mkeptHeights2, .ref mkeptHeats2, .ref mkeptSights, .long hh]))] := hD
  refine lv_if_ne (tgt := 11) hx hb dX12_see_5 (by decide) (fun c_4 => absurd (by decide) c_4) (fun _ => ?_)
  refine lv_bipush (v := (-101)) hx hb dX12_see_8 (by decide) ?_
  refine W.widen (k := 0) (n := 0) (by decide) (by decide) ?_
  exact wk_iret () hx hb hr hlocks rfl hK hP hD hS [0] rfl rfl dX12_see_10
theorem dX12_forget_0 : decode cX12_forget 0 = .ok (.aload_n 0, 1) := by decide +kernel
theorem dX12_forget_1 : decode cX12_forget 1 = .ok (.getfield 139, 3) := by decide +kernel
theorem dX12_forget_4 : decode cX12_forget 4 = .ok (.istore_n 1, 1) := by decide +kernel
theorem dX12_forget_5 : decode cX12_forget 5 = .ok (.aload_n 0, 1) := by decide +kernel
theorem dX12_forget_6 : decode cX12_forget 6 = .ok (.iconst 0, 1) := by decide +kernel
theorem dX12_forget_7 : decode cX12_forget 7 = .ok (.putfield 139, 3) := by decide +kernel
theorem dX12_forget_10 : decode cX12_forget 10 = .ok (.iload_n 1, 1) := by decide +kernel
theorem dX12_forget_11 : decode cX12_forget 11 = .ok (.ireturn, 1) := by decide +kernel
set_option maxHeartbeats 4000000 in
set_option maxRecDepth 100000 in
theorem c_X12_forget (l : Launch) (D : va_G) (cy : ClassId) (mo mpage mkeys mvalues mheights mheats msecondKeys msecondValues msecondHeights msecondHeats msaved mbestHeights msights mby mkeptKeys mkeptValues mkeptHeights mkeptHeats mkeptKeys2 mkeptValues2 mkeptHeights2 mkeptHeats2 mkeptSights : Nat) (hh : Int64) : wk_Ci l yX12_forget cX12_forget 2 (some .int) { frames := 0, cells := 0, slots := 0, locals := 0 } D cy [.ref mo] [(mo, .inr (12, [.ref mpage, .int 0, .int 0, .int 0, .int 0, .int 0, .int 0, .int 0, .ref mkeys, .ref mvalues, .ref mheights, .ref mheats, .int 0, .ref msecondKeys, .ref msecondValues, .ref msecondHeights, .ref msecondHeats, .int 0, .int 0, .int 0, .int 0, .ref msaved, .ref mbestHeights, .int 0, .ref msights, .ref mby, .int 0, .int (-1), .int 0, .int 0, .int 0, .int 0, .int 0, .int 0, .ref mkeptKeys, .ref mkeptValues, .ref mkeptHeights, .ref mkeptHeats, .ref mkeptKeys2, .ref mkeptValues2, .ref mkeptHeights2, .ref mkeptHeats2, .ref mkeptSights, .long hh]))] 0 0 (fun (r : Int32) (u : Unit) => r = 0) (fun u => []) := by
  refine wk_mkCi (by decide) (Nat.le_of_ble_eq_true rfl) ?_
  intro p e s m below meth c A ls B hA hK hP hD hS hl
  obtain ⟨hx, hb, hr, hlocks, hml, hown, htb, hin⟩ := B
  have hl : lv_has ls 2 [(0, .ref mo)] := hl
  refine lv_aload_n hx hb dX12_forget_0 rfl (lv_at hl 0 rfl) ?_
  refine va_get (D := D) (ci := 12) (v := .int 0) (C := RX12) (T := TX12) (N := 44) hx hb htb inX12 hown hK hP 0 rfl rfl 23 (by decide) (htb _ tw_786) (fun _ h9 => h9) rfl dX12_forget_1 ?_
  refine lv_istore_n (lv' := [(1, .int 0), (0, .ref mo)]) hx hb dX12_forget_4 rfl hl (by decide) rfl (fun ls hl => ?_)
  refine lv_aload_n hx hb dX12_forget_5 rfl (lv_at hl 1 rfl) ?_
  refine lv_iconst (v := 0) hx hb dX12_forget_6 (by decide) ?_
  refine va_put (D := D) (ci := 12) (v := .int 0) (ty := .int) (C := RX12) (T := TX12) (N := 44) hx hb htb inX12 tyX12 tyX12_ok nmX12 hown hK hP hD hS 0 rfl rfl 23 (by decide) (htb _ tw_786) (fun _ h9 => h9) rfl (by decide +kernel) rfl rfl (Nat.le_of_ble_eq_true rfl) dX12_forget_7 (fun H locs hP hD hS => ?_)
  have hP : va_P D classes [(mo, .inr (12, [.ref mpage, .int 0, .int 0, .int 0, .int 0, .int 0, .int 0, .int 0, .ref mkeys, .ref mvalues, .ref mheights, .ref mheats, .int 0, .ref msecondKeys, .ref msecondValues, .ref msecondHeights, .ref msecondHeats, .int 0, .int 0, .int 0, .int 0, .ref msaved, .ref mbestHeights, .int 0, .ref msights, .ref mby, .int 0, .int (-1), .int 0, .int 0, .int 0, .int 0, .int 0, .int 0, .ref mkeptKeys, .ref mkeptValues, .ref mkeptHeights, .ref mkeptHeats, .ref mkeptKeys2, .ref mkeptValues2, .ref mkeptHeights2, .ref mkeptHeats2, .ref mkeptSights, .long hh]))] H := hP
  have hD : va_D A [(mo, .inr (12, [.ref mpage, .int 0, .int 0, .int 0, .int 0, .int 0, .int 0, .int 0, .ref mkeys, .ref mvalues, .ref mheights, .ref mheats, .int 0, .ref msecondKeys, .ref msecondValues, .ref msecondHeights, .ref msecondHeats, .int 0, .int 0, .int 0, .int 0, .ref msaved, .ref mbestHeights, .int 0, .ref msights, .ref mby, .int 0, .int (-1), .int 0, .int 0, .int 0, .int 0, .int 0, .int 0, .ref mkeptKeys, .ref mkeptValues, .ref mkeptHeights, .ref mkeptHeats, .ref mkeptKeys2, .ref mkeptValues2, .ref mkeptHeights2, .ref mkeptHeats2, .ref mkeptSights, .long hh]))] := hD
  refine lv_iload_n hx hb dX12_forget_10 rfl (lv_at hl 0 rfl) ?_
  refine W.widen (k := 0) (n := 0) (by decide) (by decide) ?_
  exact wk_iret () hx hb hr hlocks rfl hK hP hD hS [] rfl rfl dX12_forget_11
theorem dX12_rounds_0 : decode cX12_rounds 0 = .ok (.iload_n 1, 1) := by decide +kernel
theorem dX12_rounds_1 : decode cX12_rounds 1 = .ok (.i2l, 1) := by decide +kernel
theorem dX12_rounds_2 : decode cX12_rounds 2 = .ok (.lconst 1, 1) := by decide +kernel
theorem dX12_rounds_3 : decode cX12_rounds 3 = .ok (.ldc2_w 299, 3) := by decide +kernel
theorem dX12_rounds_6 : decode cX12_rounds 6 = .ok (.invokestatic 82, 3) := by decide +kernel
theorem dX12_rounds_9 : decode cX12_rounds 9 = .ok (.ifCond .eq 19, 3) := by decide +kernel
theorem dX12_rounds_12 : decode cX12_rounds 12 = .ok (.iload_n 2, 1) := by decide +kernel
theorem dX12_rounds_13 : decode cX12_rounds 13 = .ok (.ifCond .lt 15, 3) := by decide +kernel
theorem dX12_rounds_16 : decode cX12_rounds 16 = .ok (.iload_n 3, 1) := by decide +kernel
theorem dX12_rounds_17 : decode cX12_rounds 17 = .ok (.i2l, 1) := by decide +kernel
theorem dX12_rounds_18 : decode cX12_rounds 18 = .ok (.lconst 0, 1) := by decide +kernel
theorem dX12_rounds_19 : decode cX12_rounds 19 = .ok (.ldc2_w 195, 3) := by decide +kernel
theorem dX12_rounds_22 : decode cX12_rounds 22 = .ok (.invokestatic 82, 3) := by decide +kernel
theorem dX12_rounds_25 : decode cX12_rounds 25 = .ok (.ifCond .ne 6, 3) := by decide +kernel
theorem dX12_rounds_28 : decode cX12_rounds 28 = .ok (.bipush (-102), 2) := by decide +kernel
theorem dX12_rounds_30 : decode cX12_rounds 30 = .ok (.ireturn, 1) := by decide +kernel
theorem dX12_rounds_31 : decode cX12_rounds 31 = .ok (.aload_n 0, 1) := by decide +kernel
theorem dX12_rounds_32 : decode cX12_rounds 32 = .ok (.invokevirtual 185, 3) := by decide +kernel
theorem dX12_rounds_35 : decode cX12_rounds 35 = .ok (.ifCond .eq 6, 3) := by decide +kernel
theorem dX12_rounds_38 : decode cX12_rounds 38 = .ok (.bipush (-103), 2) := by decide +kernel
theorem dX12_rounds_40 : decode cX12_rounds 40 = .ok (.ireturn, 1) := by decide +kernel
set_option maxHeartbeats 4000000 in
set_option maxRecDepth 100000 in
theorem c_X12_rounds (l : Launch) (D : va_G) (cy : ClassId) (mo mpage mkeys mvalues mheights mheats msecondKeys msecondValues msecondHeights msecondHeats msaved mbestHeights msights mby mkeptKeys mkeptValues mkeptHeights mkeptHeats mkeptKeys2 mkeptValues2 mkeptHeights2 mkeptHeats2 mkeptSights : Nat) (a b d : Int32) (hh : Int64) : wk_Ci l yX12_rounds cX12_rounds 7 (some .int) { frames := 1, cells := 0, slots := 0, locals := 25 } D cy [.ref mo, .int a, .int b, .int d] [(mo, .inr (12, [.ref mpage, .int 0, .int 0, .int 0, .int 0, .int 0, .int 0, .int 0, .ref mkeys, .ref mvalues, .ref mheights, .ref mheats, .int 0, .ref msecondKeys, .ref msecondValues, .ref msecondHeights, .ref msecondHeats, .int 0, .int 0, .int 0, .int 0, .ref msaved, .ref mbestHeights, .int 0, .ref msights, .ref mby, .int 0, .int (-1), .int 0, .int 0, .int 0, .int 0, .int 0, .int 0, .ref mkeptKeys, .ref mkeptValues, .ref mkeptHeights, .ref mkeptHeats, .ref mkeptKeys2, .ref mkeptValues2, .ref mkeptHeights2, .ref mkeptHeats2, .ref mkeptSights, .long hh]))] 0 0 (fun (r : Int32) (u : Unit) => r = if (1 ≤ a.toInt ∧ a.toInt ≤ 60) ∧ 0 ≤ b.toInt ∧ (0 ≤ d.toInt ∧ d.toInt ≤ 2) then (-103) else (-102)) (fun u => [(mo, .inr (12, [.ref mpage, .int 0, .int 0, .int 0, .int 0, .int 0, .int 0, .int 0, .ref mkeys, .ref mvalues, .ref mheights, .ref mheats, .int 0, .ref msecondKeys, .ref msecondValues, .ref msecondHeights, .ref msecondHeats, .int 0, .int 0, .int 0, .int 0, .ref msaved, .ref mbestHeights, .int 0, .ref msights, .ref mby, .int 0, .int (-1), .int 0, .int 0, .int 0, .int 0, .int 0, .int 0, .ref mkeptKeys, .ref mkeptValues, .ref mkeptHeights, .ref mkeptHeats, .ref mkeptKeys2, .ref mkeptValues2, .ref mkeptHeights2, .ref mkeptHeats2, .ref mkeptSights, .long hh]))]) := by
  refine wk_mkCi (by decide) (Nat.le_of_ble_eq_true rfl) ?_
  intro p e s m below meth c A ls B hA hK hP hD hS hl
  obtain ⟨hx, hb, hr, hlocks, hml, hown, htb, hin⟩ := B
  have hl : lv_has ls 7 [(0, .ref mo), (1, .int a), (2, .int b), (3, .int d)] := hl
  refine lv_iload_n hx hb dX12_rounds_0 rfl (lv_at hl 1 rfl) ?_
  refine lv_i2l (v := a.toInt64) hx hb dX12_rounds_1 rfl ?_
  refine lv_lconst (v := 1) hx hb dX12_rounds_2 (by decide) ?_
  refine lv_ldc2 (v := 60) hx hb hown (htb _ tw_1166) dX12_rounds_3 ?_
  refine wk_iS (As := [.long a.toInt64, .long 1, .long 60]) (rest := []) (wc := []) (wr := [(mo, .inr (12, [.ref mpage, .int 0, .int 0, .int 0, .int 0, .int 0, .int 0, .int 0, .ref mkeys, .ref mvalues, .ref mheights, .ref mheats, .int 0, .ref msecondKeys, .ref msecondValues, .ref msecondHeights, .ref msecondHeats, .int 0, .int 0, .int 0, .int 0, .ref msaved, .ref mbestHeights, .int 0, .ref msights, .ref mby, .int 0, .int (-1), .int 0, .int 0, .int 0, .int 0, .int 0, .int 0, .ref mkeptKeys, .ref mkeptValues, .ref mkeptHeights, .ref mkeptHeats, .ref mkeptKeys2, .ref mkeptValues2, .ref mkeptHeights2, .ref mkeptHeats2, .ref mkeptSights, .long hh]))]) (n := 3) (R := _) ⟨hx, hb, hml, hown, htb⟩ (c_X12_in l D cy   a.toInt64 1 60) tw_903 tw_901 tw_902 tw_71 rfl rfl (by decide +kernel) ⟨Nat.le_of_ble_eq_true rfl, Nat.le_of_ble_eq_true rfl⟩ hK hP hD hS hA [] [0] rfl rfl rfl rfl (by decide) rfl hl.1 rfl (Nat.le_of_ble_eq_true rfl) dX12_rounds_6 ⟨Nat.le_of_ble_eq_true rfl, Nat.le_of_ble_eq_true rfl⟩ (fun r_1 u_2 H locs hw_3 hP hD hS => ?_)
  refine W.widen (k := 0) (n := 0) (by decide) (by decide) ?_
  have hw_3 : r_1 = wk_in a.toInt64 1 60 := hw_3
  subst hw_3
  have hP : va_P D classes [(mo, .inr (12, [.ref mpage, .int 0, .int 0, .int 0, .int 0, .int 0, .int 0, .int 0, .ref mkeys, .ref mvalues, .ref mheights, .ref mheats, .int 0, .ref msecondKeys, .ref msecondValues, .ref msecondHeights, .ref msecondHeats, .int 0, .int 0, .int 0, .int 0, .ref msaved, .ref mbestHeights, .int 0, .ref msights, .ref mby, .int 0, .int (-1), .int 0, .int 0, .int 0, .int 0, .int 0, .int 0, .ref mkeptKeys, .ref mkeptValues, .ref mkeptHeights, .ref mkeptHeats, .ref mkeptKeys2, .ref mkeptValues2, .ref mkeptHeights2, .ref mkeptHeats2, .ref mkeptSights, .long hh]))] H := hP
  have hD : va_D A [(mo, .inr (12, [.ref mpage, .int 0, .int 0, .int 0, .int 0, .int 0, .int 0, .int 0, .ref mkeys, .ref mvalues, .ref mheights, .ref mheats, .int 0, .ref msecondKeys, .ref msecondValues, .ref msecondHeights, .ref msecondHeats, .int 0, .int 0, .int 0, .int 0, .ref msaved, .ref mbestHeights, .int 0, .ref msights, .ref mby, .int 0, .int (-1), .int 0, .int 0, .int 0, .int 0, .int 0, .int 0, .ref mkeptKeys, .ref mkeptValues, .ref mkeptHeights, .ref mkeptHeats, .ref mkeptKeys2, .ref mkeptValues2, .ref mkeptHeights2, .ref mkeptHeats2, .ref mkeptSights, .long hh]))] := hD
  refine lv_if_eq (tgt := 28) hx hb dX12_rounds_9 (by decide) (fun c_4 => ?_) (fun c_4 => ?_)
  · have k_4 : ¬ (1 ≤ a.toInt ∧ a.toInt ≤ 60) := by have h9 := wk_in0 c_4; simp only [wk_64] at h9; exact h9
    refine lv_bipush (v := (-102)) hx hb dX12_rounds_28 (by decide) ?_
    refine W.widen (k := 0) (n := 0) (by decide) (by decide) ?_
    exact wk_iret () hx hb hr hlocks (if_neg (by omega)).symm hK hP hD hS [0] rfl rfl dX12_rounds_30
  · have k_4 : 1 ≤ a.toInt ∧ a.toInt ≤ 60 := by have h9 := wk_in1 c_4; simp only [wk_64] at h9; exact h9
    refine lv_iload_n hx hb dX12_rounds_12 rfl (lv_at hl 2 rfl) ?_
    refine lv_if_lt (tgt := 28) hx hb dX12_rounds_13 (by decide) (fun c_5 => ?_) (fun c_5 => ?_)
    · have k_5 : b.toInt < 0 := wk_lt c_5
      refine lv_bipush (v := (-102)) hx hb dX12_rounds_28 (by decide) ?_
      refine W.widen (k := 0) (n := 0) (by decide) (by decide) ?_
      exact wk_iret () hx hb hr hlocks (if_neg (by omega)).symm hK hP hD hS [0] rfl rfl dX12_rounds_30
    · have k_5 : ¬ b.toInt < 0 := wk_nlt c_5
      refine lv_iload_n hx hb dX12_rounds_16 rfl (lv_at hl 3 rfl) ?_
      refine lv_i2l (v := d.toInt64) hx hb dX12_rounds_17 rfl ?_
      refine lv_lconst (v := 0) hx hb dX12_rounds_18 (by decide) ?_
      refine lv_ldc2 (v := 2) hx hb hown (htb _ tw_998) dX12_rounds_19 ?_
      refine wk_iS (As := [.long d.toInt64, .long 0, .long 2]) (rest := []) (wc := []) (wr := [(mo, .inr (12, [.ref mpage, .int 0, .int 0, .int 0, .int 0, .int 0, .int 0, .int 0, .ref mkeys, .ref mvalues, .ref mheights, .ref mheats, .int 0, .ref msecondKeys, .ref msecondValues, .ref msecondHeights, .ref msecondHeats, .int 0, .int 0, .int 0, .int 0, .ref msaved, .ref mbestHeights, .int 0, .ref msights, .ref mby, .int 0, .int (-1), .int 0, .int 0, .int 0, .int 0, .int 0, .int 0, .ref mkeptKeys, .ref mkeptValues, .ref mkeptHeights, .ref mkeptHeats, .ref mkeptKeys2, .ref mkeptValues2, .ref mkeptHeights2, .ref mkeptHeats2, .ref mkeptSights, .long hh]))]) (n := 3) (R := _) ⟨hx, hb, hml, hown, htb⟩ (c_X12_in l D cy   d.toInt64 0 2) tw_903 tw_901 tw_902 tw_71 rfl rfl (by decide +kernel) ⟨Nat.le_of_ble_eq_true rfl, Nat.le_of_ble_eq_true rfl⟩ hK hP hD hS hA [] [0] rfl rfl rfl rfl (by decide) rfl hl.1 rfl (Nat.le_of_ble_eq_true rfl) dX12_rounds_22 ⟨Nat.le_of_ble_eq_true rfl, Nat.le_of_ble_eq_true rfl⟩ (fun r_6 u_7 H locs hw_8 hP hD hS => ?_)
      refine W.widen (k := 0) (n := 0) (by decide) (by decide) ?_
      have hw_8 : r_6 = wk_in d.toInt64 0 2 := hw_8
      subst hw_8
      have hP : va_P D classes [(mo, .inr (12, [.ref mpage, .int 0, .int 0, .int 0, .int 0, .int 0, .int 0, .int 0, .ref mkeys, .ref mvalues, .ref mheights, .ref mheats, .int 0, .ref msecondKeys, .ref msecondValues, .ref msecondHeights, .ref msecondHeats, .int 0, .int 0, .int 0, .int 0, .ref msaved, .ref mbestHeights, .int 0, .ref msights, .ref mby, .int 0, .int (-1), .int 0, .int 0, .int 0, .int 0, .int 0, .int 0, .ref mkeptKeys, .ref mkeptValues, .ref mkeptHeights, .ref mkeptHeats, .ref mkeptKeys2, .ref mkeptValues2, .ref mkeptHeights2, .ref mkeptHeats2, .ref mkeptSights, .long hh]))] H := hP
      have hD : va_D A [(mo, .inr (12, [.ref mpage, .int 0, .int 0, .int 0, .int 0, .int 0, .int 0, .int 0, .ref mkeys, .ref mvalues, .ref mheights, .ref mheats, .int 0, .ref msecondKeys, .ref msecondValues, .ref msecondHeights, .ref msecondHeats, .int 0, .int 0, .int 0, .int 0, .ref msaved, .ref mbestHeights, .int 0, .ref msights, .ref mby, .int 0, .int (-1), .int 0, .int 0, .int 0, .int 0, .int 0, .int 0, .ref mkeptKeys, .ref mkeptValues, .ref mkeptHeights, .ref mkeptHeats, .ref mkeptKeys2, .ref mkeptValues2, .ref mkeptHeights2, .ref mkeptHeats2, .ref mkeptSights, .long hh]))] := hD
      refine lv_if_ne (tgt := 31) hx hb dX12_rounds_25 (by decide) (fun c_9 => ?_) (fun c_9 => ?_)
      · have k_9 : 0 ≤ d.toInt ∧ d.toInt ≤ 2 := by have h9 := wk_in1 c_9; simp only [wk_64] at h9; exact h9
        refine lv_aload_n hx hb dX12_rounds_31 rfl (lv_at hl 0 rfl) ?_
        refine wk_iV (As := []) (rest := []) (wc := [(mo, .inr (12, [.ref mpage, .int 0, .int 0, .int 0, .int 0, .int 0, .int 0, .int 0, .ref mkeys, .ref mvalues, .ref mheights, .ref mheats, .int 0, .ref msecondKeys, .ref msecondValues, .ref msecondHeights, .ref msecondHeats, .int 0, .int 0, .int 0, .int 0, .ref msaved, .ref mbestHeights, .int 0, .ref msights, .ref mby, .int 0, .int (-1), .int 0, .int 0, .int 0, .int 0, .int 0, .int 0, .ref mkeptKeys, .ref mkeptValues, .ref mkeptHeights, .ref mkeptHeats, .ref mkeptKeys2, .ref mkeptValues2, .ref mkeptHeights2, .ref mkeptHeats2, .ref mkeptSights, .long hh]))]) (wr := []) (n := 0) (R := _) ⟨hx, hb, hml, hown, htb⟩ (c_X12_lacks l D cy mo mpage mkeys mvalues mheights mheats msecondKeys msecondValues msecondHeights msecondHeats msaved mbestHeights msights mby mkeptKeys mkeptValues mkeptHeights mkeptHeats mkeptKeys2 mkeptValues2 mkeptHeights2 mkeptHeats2 mkeptSights  hh) tw_969 tw_966 tw_968 tw_29 tw_71 rfl rfl (by decide +kernel) ⟨Nat.le_of_ble_eq_true rfl, Nat.le_of_ble_eq_true rfl⟩ hK hP hD hS hA [0] [] rfl rfl rfl rfl (by decide) 0 (ci := 12) rfl rfl rfl hl.1 rfl (Nat.le_of_ble_eq_true rfl) dX12_rounds_32 ⟨Nat.le_of_ble_eq_true rfl, Nat.le_of_ble_eq_true rfl⟩ (fun r_10 u_11 H locs hw_12 hP hD hS => ?_)
        refine W.widen (k := 0) (n := 0) (by decide) (by decide) ?_
        have hw_12 : r_10 = 1 := hw_12
        subst hw_12
        have hP : va_P D classes [(mo, .inr (12, [.ref mpage, .int 0, .int 0, .int 0, .int 0, .int 0, .int 0, .int 0, .ref mkeys, .ref mvalues, .ref mheights, .ref mheats, .int 0, .ref msecondKeys, .ref msecondValues, .ref msecondHeights, .ref msecondHeats, .int 0, .int 0, .int 0, .int 0, .ref msaved, .ref mbestHeights, .int 0, .ref msights, .ref mby, .int 0, .int (-1), .int 0, .int 0, .int 0, .int 0, .int 0, .int 0, .ref mkeptKeys, .ref mkeptValues, .ref mkeptHeights, .ref mkeptHeats, .ref mkeptKeys2, .ref mkeptValues2, .ref mkeptHeights2, .ref mkeptHeats2, .ref mkeptSights, .long hh]))] H := hP
        have hD : va_D A [(mo, .inr (12, [.ref mpage, .int 0, .int 0, .int 0, .int 0, .int 0, .int 0, .int 0, .ref mkeys, .ref mvalues, .ref mheights, .ref mheats, .int 0, .ref msecondKeys, .ref msecondValues, .ref msecondHeights, .ref msecondHeats, .int 0, .int 0, .int 0, .int 0, .ref msaved, .ref mbestHeights, .int 0, .ref msights, .ref mby, .int 0, .int (-1), .int 0, .int 0, .int 0, .int 0, .int 0, .int 0, .ref mkeptKeys, .ref mkeptValues, .ref mkeptHeights, .ref mkeptHeats, .ref mkeptKeys2, .ref mkeptValues2, .ref mkeptHeights2, .ref mkeptHeats2, .ref mkeptSights, .long hh]))] := hD
        refine lv_if_eq (tgt := 41) hx hb dX12_rounds_35 (by decide) (fun c_13 => absurd c_13 (by decide)) (fun _ => ?_)
        refine lv_bipush (v := (-103)) hx hb dX12_rounds_38 (by decide) ?_
        refine W.widen (k := 0) (n := 0) (by decide) (by decide) ?_
        exact wk_iret () hx hb hr hlocks (if_pos (by omega)).symm hK hP hD hS [0] rfl rfl dX12_rounds_40
      · have k_9 : ¬ (0 ≤ d.toInt ∧ d.toInt ≤ 2) := by have h9 := wk_in0 c_9; simp only [wk_64] at h9; exact h9
        refine lv_bipush (v := (-102)) hx hb dX12_rounds_28 (by decide) ?_
        refine W.widen (k := 0) (n := 0) (by decide) (by decide) ?_
        exact wk_iret () hx hb hr hlocks (if_neg (by omega)).symm hK hP hD hS [0] rfl rfl dX12_rounds_30
theorem dX12_image_0 : decode cX12_image 0 = .ok (.aload_n 0, 1) := by decide +kernel
theorem dX12_image_1 : decode cX12_image 1 = .ok (.invokevirtual 185, 3) := by decide +kernel
theorem dX12_image_4 : decode cX12_image 4 = .ok (.ifCond .eq 6, 3) := by decide +kernel
theorem dX12_image_7 : decode cX12_image 7 = .ok (.bipush (-103), 2) := by decide +kernel
theorem dX12_image_9 : decode cX12_image 9 = .ok (.ireturn, 1) := by decide +kernel
set_option maxHeartbeats 4000000 in
set_option maxRecDepth 100000 in
theorem c_X12_image (l : Launch) (D : va_G) (cy : ClassId) (mo mpage mkeys mvalues mheights mheats msecondKeys msecondValues msecondHeights msecondHeats msaved mbestHeights msights mby mkeptKeys mkeptValues mkeptHeights mkeptHeats mkeptKeys2 mkeptValues2 mkeptHeights2 mkeptHeats2 mkeptSights : Nat) (hh : Int64) : wk_Ci l yX12_image cX12_image 1 (some .int) { frames := 1, cells := 0, slots := 0, locals := 20 } D cy [.ref mo] [(mo, .inr (12, [.ref mpage, .int 0, .int 0, .int 0, .int 0, .int 0, .int 0, .int 0, .ref mkeys, .ref mvalues, .ref mheights, .ref mheats, .int 0, .ref msecondKeys, .ref msecondValues, .ref msecondHeights, .ref msecondHeats, .int 0, .int 0, .int 0, .int 0, .ref msaved, .ref mbestHeights, .int 0, .ref msights, .ref mby, .int 0, .int (-1), .int 0, .int 0, .int 0, .int 0, .int 0, .int 0, .ref mkeptKeys, .ref mkeptValues, .ref mkeptHeights, .ref mkeptHeats, .ref mkeptKeys2, .ref mkeptValues2, .ref mkeptHeights2, .ref mkeptHeats2, .ref mkeptSights, .long hh]))] 0 0 (fun (r : Int32) (u : Unit) => r = (-103)) (fun u => [(mo, .inr (12, [.ref mpage, .int 0, .int 0, .int 0, .int 0, .int 0, .int 0, .int 0, .ref mkeys, .ref mvalues, .ref mheights, .ref mheats, .int 0, .ref msecondKeys, .ref msecondValues, .ref msecondHeights, .ref msecondHeats, .int 0, .int 0, .int 0, .int 0, .ref msaved, .ref mbestHeights, .int 0, .ref msights, .ref mby, .int 0, .int (-1), .int 0, .int 0, .int 0, .int 0, .int 0, .int 0, .ref mkeptKeys, .ref mkeptValues, .ref mkeptHeights, .ref mkeptHeats, .ref mkeptKeys2, .ref mkeptValues2, .ref mkeptHeights2, .ref mkeptHeats2, .ref mkeptSights, .long hh]))]) := by
  refine wk_mkCi (by decide) (Nat.le_of_ble_eq_true rfl) ?_
  intro p e s m below meth c A ls B hA hK hP hD hS hl
  obtain ⟨hx, hb, hr, hlocks, hml, hown, htb, hin⟩ := B
  have hl : lv_has ls 1 [(0, .ref mo)] := hl
  refine lv_aload_n hx hb dX12_image_0 rfl (lv_at hl 0 rfl) ?_
  refine wk_iV (As := []) (rest := []) (wc := [(mo, .inr (12, [.ref mpage, .int 0, .int 0, .int 0, .int 0, .int 0, .int 0, .int 0, .ref mkeys, .ref mvalues, .ref mheights, .ref mheats, .int 0, .ref msecondKeys, .ref msecondValues, .ref msecondHeights, .ref msecondHeats, .int 0, .int 0, .int 0, .int 0, .ref msaved, .ref mbestHeights, .int 0, .ref msights, .ref mby, .int 0, .int (-1), .int 0, .int 0, .int 0, .int 0, .int 0, .int 0, .ref mkeptKeys, .ref mkeptValues, .ref mkeptHeights, .ref mkeptHeats, .ref mkeptKeys2, .ref mkeptValues2, .ref mkeptHeights2, .ref mkeptHeats2, .ref mkeptSights, .long hh]))]) (wr := []) (n := 0) (R := _) ⟨hx, hb, hml, hown, htb⟩ (c_X12_lacks l D cy mo mpage mkeys mvalues mheights mheats msecondKeys msecondValues msecondHeights msecondHeats msaved mbestHeights msights mby mkeptKeys mkeptValues mkeptHeights mkeptHeats mkeptKeys2 mkeptValues2 mkeptHeights2 mkeptHeats2 mkeptSights  hh) tw_969 tw_966 tw_968 tw_29 tw_71 rfl rfl (by decide +kernel) ⟨Nat.le_of_ble_eq_true rfl, Nat.le_of_ble_eq_true rfl⟩ hK hP hD hS hA [0] [] rfl rfl rfl rfl (by decide) 0 (ci := 12) rfl rfl rfl hl.1 rfl (Nat.le_of_ble_eq_true rfl) dX12_image_1 ⟨Nat.le_of_ble_eq_true rfl, Nat.le_of_ble_eq_true rfl⟩ (fun r_1 u_2 H locs hw_3 hP hD hS => ?_)
  refine W.widen (k := 0) (n := 0) (by decide) (by decide) ?_
  have hw_3 : r_1 = 1 := hw_3
  subst hw_3
  have hP : va_P D classes [(mo, .inr (12, [.ref mpage, .int 0, .int 0, .int 0, .int 0, .int 0, .int 0, .int 0, .ref mkeys, .ref mvalues, .ref mheights, .ref mheats, .int 0, .ref msecondKeys, .ref msecondValues, .ref msecondHeights, .ref msecondHeats, .int 0, .int 0, .int 0, .int 0, .ref msaved, .ref mbestHeights, .int 0, .ref msights, .ref mby, .int 0, .int (-1), .int 0, .int 0, .int 0, .int 0, .int 0, .int 0, .ref mkeptKeys, .ref mkeptValues, .ref mkeptHeights, .ref mkeptHeats, .ref mkeptKeys2, .ref mkeptValues2, .ref mkeptHeights2, .ref mkeptHeats2, .ref mkeptSights, .long hh]))] H := hP
  have hD : va_D A [(mo, .inr (12, [.ref mpage, .int 0, .int 0, .int 0, .int 0, .int 0, .int 0, .int 0, .ref mkeys, .ref mvalues, .ref mheights, .ref mheats, .int 0, .ref msecondKeys, .ref msecondValues, .ref msecondHeights, .ref msecondHeats, .int 0, .int 0, .int 0, .int 0, .ref msaved, .ref mbestHeights, .int 0, .ref msights, .ref mby, .int 0, .int (-1), .int 0, .int 0, .int 0, .int 0, .int 0, .int 0, .ref mkeptKeys, .ref mkeptValues, .ref mkeptHeights, .ref mkeptHeats, .ref mkeptKeys2, .ref mkeptValues2, .ref mkeptHeights2, .ref mkeptHeats2, .ref mkeptSights, .long hh]))] := hD
  refine lv_if_eq (tgt := 10) hx hb dX12_image_4 (by decide) (fun c_4 => absurd c_4 (by decide)) (fun _ => ?_)
  refine lv_bipush (v := (-103)) hx hb dX12_image_7 (by decide) ?_
  refine W.widen (k := 0) (n := 0) (by decide) (by decide) ?_
  exact wk_iret () hx hb hr hlocks rfl hK hP hD hS [0] rfl rfl dX12_image_9
theorem dX12_restore_0 : decode cX12_restore 0 = .ok (.aload_n 0, 1) := by decide +kernel
theorem dX12_restore_1 : decode cX12_restore 1 = .ok (.getfield 76, 3) := by decide +kernel
theorem dX12_restore_4 : decode cX12_restore 4 = .ok (.aload_n 0, 1) := by decide +kernel
theorem dX12_restore_5 : decode cX12_restore 5 = .ok (.getfield 142, 3) := by decide +kernel
theorem dX12_restore_8 : decode cX12_restore 8 = .ok (.if_icmp .eq 6, 3) := by decide +kernel
theorem dX12_restore_11 : decode cX12_restore 11 = .ok (.bipush (-103), 2) := by decide +kernel
theorem dX12_restore_13 : decode cX12_restore 13 = .ok (.ireturn, 1) := by decide +kernel
set_option maxHeartbeats 4000000 in
set_option maxRecDepth 100000 in
theorem c_X12_restore (l : Launch) (D : va_G) (cy : ClassId) (mo mpage mkeys mvalues mheights mheats msecondKeys msecondValues msecondHeights msecondHeats msaved mbestHeights msights mby mkeptKeys mkeptValues mkeptHeights mkeptHeats mkeptKeys2 mkeptValues2 mkeptHeights2 mkeptHeats2 mkeptSights : Nat) (hh : Int64) : wk_Ci l yX12_restore cX12_restore 1 (some .int) { frames := 0, cells := 0, slots := 0, locals := 0 } D cy [.ref mo] [(mo, .inr (12, [.ref mpage, .int 0, .int 0, .int 0, .int 0, .int 0, .int 0, .int 0, .ref mkeys, .ref mvalues, .ref mheights, .ref mheats, .int 0, .ref msecondKeys, .ref msecondValues, .ref msecondHeights, .ref msecondHeats, .int 0, .int 0, .int 0, .int 0, .ref msaved, .ref mbestHeights, .int 0, .ref msights, .ref mby, .int 0, .int (-1), .int 0, .int 0, .int 0, .int 0, .int 0, .int 0, .ref mkeptKeys, .ref mkeptValues, .ref mkeptHeights, .ref mkeptHeats, .ref mkeptKeys2, .ref mkeptValues2, .ref mkeptHeights2, .ref mkeptHeats2, .ref mkeptSights, .long hh]))] 0 0 (fun (r : Int32) (u : Unit) => r = (-103)) (fun u => [(mo, .inr (12, [.ref mpage, .int 0, .int 0, .int 0, .int 0, .int 0, .int 0, .int 0, .ref mkeys, .ref mvalues, .ref mheights, .ref mheats, .int 0, .ref msecondKeys, .ref msecondValues, .ref msecondHeights, .ref msecondHeats, .int 0, .int 0, .int 0, .int 0, .ref msaved, .ref mbestHeights, .int 0, .ref msights, .ref mby, .int 0, .int (-1), .int 0, .int 0, .int 0, .int 0, .int 0, .int 0, .ref mkeptKeys, .ref mkeptValues, .ref mkeptHeights, .ref mkeptHeats, .ref mkeptKeys2, .ref mkeptValues2, .ref mkeptHeights2, .ref mkeptHeats2, .ref mkeptSights, .long hh]))]) := by
  refine wk_mkCi (by decide) (Nat.le_of_ble_eq_true rfl) ?_
  intro p e s m below meth c A ls B hA hK hP hD hS hl
  obtain ⟨hx, hb, hr, hlocks, hml, hown, htb, hin⟩ := B
  have hl : lv_has ls 1 [(0, .ref mo)] := hl
  refine lv_aload_n hx hb dX12_restore_0 rfl (lv_at hl 0 rfl) ?_
  refine va_get (D := D) (ci := 12) (v := .int (-1)) (C := RX12) (T := TX12) (N := 44) hx hb htb inX12 hown hK hP 0 rfl rfl 27 (by decide) (htb _ tw_790) (fun _ h9 => h9) rfl dX12_restore_1 ?_
  refine lv_aload_n hx hb dX12_restore_4 rfl (lv_at hl 0 rfl) ?_
  refine va_get (D := D) (ci := 12) (v := .int 0) (C := RX12) (T := TX12) (N := 44) hx hb htb inX12 hown hK hP 0 rfl rfl 7 (by decide) (htb _ tw_770) (fun _ h9 => h9) rfl dX12_restore_5 ?_
  refine lv_icmp_eq (tgt := 14) hx hb dX12_restore_8 (by decide) (fun c_1 => absurd c_1 (by decide)) (fun _ => ?_)
  refine lv_bipush (v := (-103)) hx hb dX12_restore_11 (by decide) ?_
  refine W.widen (k := 0) (n := 0) (by decide) (by decide) ?_
  exact wk_iret () hx hb hr hlocks rfl hK hP hD hS [0] rfl rfl dX12_restore_13
theorem dX12_count_0 : decode cX12_count 0 = .ok (.aload_n 0, 1) := by decide +kernel
theorem dX12_count_1 : decode cX12_count 1 = .ok (.iload_n 1, 1) := by decide +kernel
theorem dX12_count_2 : decode cX12_count 2 = .ok (.invokevirtual 326, 3) := by decide +kernel
theorem dX12_count_5 : decode cX12_count 5 = .ok (.ireturn, 1) := by decide +kernel
set_option maxHeartbeats 4000000 in
set_option maxRecDepth 100000 in
theorem c_X12_count (l : Launch) (D : va_G) (cy : ClassId) (mo mpage mkeys mvalues mheights mheats msecondKeys msecondValues msecondHeights msecondHeats msaved mbestHeights msights mby mkeptKeys mkeptValues mkeptHeights mkeptHeats mkeptKeys2 mkeptValues2 mkeptHeights2 mkeptHeats2 mkeptSights : Nat) (a : Int32) (hh : Int64) : wk_Ci l yX12_count cX12_count 2 (some .int) { frames := 2, cells := 0, slots := 0, locals := 44 } D cy [.ref mo, .int a] [(mo, .inr (12, [.ref mpage, .int 0, .int 0, .int 0, .int 0, .int 0, .int 0, .int 0, .ref mkeys, .ref mvalues, .ref mheights, .ref mheats, .int 0, .ref msecondKeys, .ref msecondValues, .ref msecondHeights, .ref msecondHeats, .int 0, .int 0, .int 0, .int 0, .ref msaved, .ref mbestHeights, .int 0, .ref msights, .ref mby, .int 0, .int (-1), .int 0, .int 0, .int 0, .int 0, .int 0, .int 0, .ref mkeptKeys, .ref mkeptValues, .ref mkeptHeights, .ref mkeptHeats, .ref mkeptKeys2, .ref mkeptValues2, .ref mkeptHeights2, .ref mkeptHeats2, .ref mkeptSights, .long hh]))] 0 0 (fun (r : Int32) (u : Unit) => r = if (0 ≤ (a : Int32).toInt ∧ (a : Int32).toInt ≤ 12) then 0 else (-102)) (fun u => [(mo, .inr (12, [.ref mpage, .int 0, .int 0, .int 0, .int 0, .int 0, .int 0, .int 0, .ref mkeys, .ref mvalues, .ref mheights, .ref mheats, .int 0, .ref msecondKeys, .ref msecondValues, .ref msecondHeights, .ref msecondHeats, .int 0, .int 0, .int 0, .int 0, .ref msaved, .ref mbestHeights, .int 0, .ref msights, .ref mby, .int 0, .int (-1), .int 0, .int 0, .int 0, .int 0, .int 0, .int 0, .ref mkeptKeys, .ref mkeptValues, .ref mkeptHeights, .ref mkeptHeats, .ref mkeptKeys2, .ref mkeptValues2, .ref mkeptHeights2, .ref mkeptHeats2, .ref mkeptSights, .long hh]))]) := by
  refine wk_mkCi (by decide) (Nat.le_of_ble_eq_true rfl) ?_
  intro p e s m below meth c A ls B hA hK hP hD hS hl
  obtain ⟨hx, hb, hr, hlocks, hml, hown, htb, hin⟩ := B
  have hl : lv_has ls 2 [(0, .ref mo), (1, .int a)] := hl
  refine lv_aload_n hx hb dX12_count_0 rfl (lv_at hl 0 rfl) ?_
  refine lv_iload_n hx hb dX12_count_1 rfl (lv_at hl 1 rfl) ?_
  refine wk_iV (As := [.int a]) (rest := []) (wc := [(mo, .inr (12, [.ref mpage, .int 0, .int 0, .int 0, .int 0, .int 0, .int 0, .int 0, .ref mkeys, .ref mvalues, .ref mheights, .ref mheats, .int 0, .ref msecondKeys, .ref msecondValues, .ref msecondHeights, .ref msecondHeats, .int 0, .int 0, .int 0, .int 0, .ref msaved, .ref mbestHeights, .int 0, .ref msights, .ref mby, .int 0, .int (-1), .int 0, .int 0, .int 0, .int 0, .int 0, .int 0, .ref mkeptKeys, .ref mkeptValues, .ref mkeptHeights, .ref mkeptHeats, .ref mkeptKeys2, .ref mkeptValues2, .ref mkeptHeights2, .ref mkeptHeats2, .ref mkeptSights, .long hh]))]) (wr := []) (n := 1) (R := _) ⟨hx, hb, hml, hown, htb⟩ (c_X12_countOf l D cy mo mpage mkeys mvalues mheights mheats msecondKeys msecondValues msecondHeights msecondHeats msaved mbestHeights msights mby mkeptKeys mkeptValues mkeptHeights mkeptHeats mkeptKeys2 mkeptValues2 mkeptHeights2 mkeptHeats2 mkeptSights a hh) tw_1190 tw_1187 tw_1189 tw_58 tw_71 rfl rfl (by decide +kernel) ⟨Nat.le_of_ble_eq_true rfl, Nat.le_of_ble_eq_true rfl⟩ hK hP hD hS hA [0] [] rfl rfl rfl rfl (by decide) 0 (ci := 12) rfl rfl rfl hl.1 rfl (Nat.le_of_ble_eq_true rfl) dX12_count_2 ⟨Nat.le_of_ble_eq_true rfl, Nat.le_of_ble_eq_true rfl⟩ (fun r_1 u_2 H locs hw_3 hP hD hS => ?_)
  refine W.widen (k := 0) (n := 0) (by decide) (by decide) ?_
  have hw_3 : r_1 = if (0 ≤ (a : Int32).toInt ∧ (a : Int32).toInt ≤ 12) then 0 else (-102) := hw_3
  subst hw_3
  have hP : va_P D classes [(mo, .inr (12, [.ref mpage, .int 0, .int 0, .int 0, .int 0, .int 0, .int 0, .int 0, .ref mkeys, .ref mvalues, .ref mheights, .ref mheats, .int 0, .ref msecondKeys, .ref msecondValues, .ref msecondHeights, .ref msecondHeats, .int 0, .int 0, .int 0, .int 0, .ref msaved, .ref mbestHeights, .int 0, .ref msights, .ref mby, .int 0, .int (-1), .int 0, .int 0, .int 0, .int 0, .int 0, .int 0, .ref mkeptKeys, .ref mkeptValues, .ref mkeptHeights, .ref mkeptHeats, .ref mkeptKeys2, .ref mkeptValues2, .ref mkeptHeights2, .ref mkeptHeats2, .ref mkeptSights, .long hh]))] H := hP
  have hD : va_D A [(mo, .inr (12, [.ref mpage, .int 0, .int 0, .int 0, .int 0, .int 0, .int 0, .int 0, .ref mkeys, .ref mvalues, .ref mheights, .ref mheats, .int 0, .ref msecondKeys, .ref msecondValues, .ref msecondHeights, .ref msecondHeats, .int 0, .int 0, .int 0, .int 0, .ref msaved, .ref mbestHeights, .int 0, .ref msights, .ref mby, .int 0, .int (-1), .int 0, .int 0, .int 0, .int 0, .int 0, .int 0, .ref mkeptKeys, .ref mkeptValues, .ref mkeptHeights, .ref mkeptHeats, .ref mkeptKeys2, .ref mkeptValues2, .ref mkeptHeights2, .ref mkeptHeats2, .ref mkeptSights, .long hh]))] := hD
  refine W.widen (k := 0) (n := 0) (by decide) (by decide) ?_
  exact wk_iret () hx hb hr hlocks rfl hK hP hD hS [0] rfl rfl dX12_count_5
theorem dX12_say_0 : decode cX12_say 0 = .ok (.aload_n 0, 1) := by decide +kernel
theorem dX12_say_1 : decode cX12_say 1 = .ok (.ldc2_w 329, 3) := by decide +kernel
theorem dX12_say_4 : decode cX12_say 4 = .ok (.aload_n 0, 1) := by decide +kernel
theorem dX12_say_5 : decode cX12_say 5 = .ok (.getfield 331, 3) := by decide +kernel
theorem dX12_say_8 : decode cX12_say 8 = .ok (.lmul, 1) := by decide +kernel
theorem dX12_say_9 : decode cX12_say 9 = .ok (.lload_n 1, 1) := by decide +kernel
theorem dX12_say_10 : decode cX12_say 10 = .ok (.ladd, 1) := by decide +kernel
theorem dX12_say_11 : decode cX12_say 11 = .ok (.putfield 331, 3) := by decide +kernel
theorem dX12_say_14 : decode cX12_say 14 = .ok (.return_, 1) := by decide +kernel
set_option maxHeartbeats 4000000 in
set_option maxRecDepth 100000 in
theorem c_X12_say (l : Launch) (D : va_G) (cy : ClassId) (mo mpage mkeys mvalues mheights mheats msecondKeys msecondValues msecondHeights msecondHeats msaved mbestHeights msights mby mkeptKeys mkeptValues mkeptHeights mkeptHeats mkeptKeys2 mkeptValues2 mkeptHeights2 mkeptHeats2 mkeptSights : Nat) (h v : Int64) : wk_Cv l yX12_say cX12_say 3 none { frames := 0, cells := 0, slots := 0, locals := 0 } D cy [.ref mo, .long v] [(mo, .inr (12, [.ref mpage, .int 0, .int 0, .int 0, .int 0, .int 0, .int 0, .int 0, .ref mkeys, .ref mvalues, .ref mheights, .ref mheats, .int 0, .ref msecondKeys, .ref msecondValues, .ref msecondHeights, .ref msecondHeats, .int 0, .int 0, .int 0, .int 0, .ref msaved, .ref mbestHeights, .int 0, .ref msights, .ref mby, .int 0, .int (-1), .int 0, .int 0, .int 0, .int 0, .int 0, .int 0, .ref mkeptKeys, .ref mkeptValues, .ref mkeptHeights, .ref mkeptHeats, .ref mkeptKeys2, .ref mkeptValues2, .ref mkeptHeights2, .ref mkeptHeats2, .ref mkeptSights, .long h]))] 0 0 (fun (u : Int64) => u = 31 * h + v) (fun u => [(mo, .inr (12, [.ref mpage, .int 0, .int 0, .int 0, .int 0, .int 0, .int 0, .int 0, .ref mkeys, .ref mvalues, .ref mheights, .ref mheats, .int 0, .ref msecondKeys, .ref msecondValues, .ref msecondHeights, .ref msecondHeats, .int 0, .int 0, .int 0, .int 0, .ref msaved, .ref mbestHeights, .int 0, .ref msights, .ref mby, .int 0, .int (-1), .int 0, .int 0, .int 0, .int 0, .int 0, .int 0, .ref mkeptKeys, .ref mkeptValues, .ref mkeptHeights, .ref mkeptHeats, .ref mkeptKeys2, .ref mkeptValues2, .ref mkeptHeights2, .ref mkeptHeats2, .ref mkeptSights, .long u]))]) := by
  refine wk_mkCv (by decide) (Nat.le_of_ble_eq_true rfl) ?_
  intro p e s m below meth c A ls B hA hK hP hD hS hl
  obtain ⟨hx, hb, hr, hlocks, hml, hown, htb, hin⟩ := B
  have hl : lv_has ls 3 [(0, .ref mo), (1, .long v)] := hl
  refine lv_aload_n hx hb dX12_say_0 rfl (lv_at hl 0 rfl) ?_
  refine lv_ldc2 (v := 31) hx hb hown (htb _ tw_1208) dX12_say_1 ?_
  refine lv_aload_n hx hb dX12_say_4 rfl (lv_at hl 0 rfl) ?_
  refine va_get (D := D) (ci := 12) (v := .long h) (C := RX12) (T := TX12) (N := 44) hx hb htb inX12 hown hK hP 0 rfl rfl 43 (by decide) (htb _ tw_806) (fun _ h9 => h9) rfl dX12_say_5 ?_
  refine lv_lmul hx hb dX12_say_8 ?_
  refine lv_lload_n hx hb dX12_say_9 rfl (lv_at hl 1 rfl) ?_
  refine lv_ladd hx hb dX12_say_10 ?_
  refine lv_topl (fun f_1 ef_1 => ?_)
  refine va_put (D := D) (ci := 12) (v := .long f_1) (ty := .long) (C := RX12) (T := TX12) (N := 44) hx hb htb inX12 tyX12 tyX12_ok nmX12 hown hK hP hD hS 0 rfl rfl 43 (by decide) (htb _ tw_806) (fun _ h9 => h9) rfl (by decide +kernel) rfl rfl (Nat.le_of_ble_eq_true rfl) dX12_say_11 (fun H locs hP hD hS => ?_)
  have hP : va_P D classes [(mo, .inr (12, [.ref mpage, .int 0, .int 0, .int 0, .int 0, .int 0, .int 0, .int 0, .ref mkeys, .ref mvalues, .ref mheights, .ref mheats, .int 0, .ref msecondKeys, .ref msecondValues, .ref msecondHeights, .ref msecondHeats, .int 0, .int 0, .int 0, .int 0, .ref msaved, .ref mbestHeights, .int 0, .ref msights, .ref mby, .int 0, .int (-1), .int 0, .int 0, .int 0, .int 0, .int 0, .int 0, .ref mkeptKeys, .ref mkeptValues, .ref mkeptHeights, .ref mkeptHeats, .ref mkeptKeys2, .ref mkeptValues2, .ref mkeptHeights2, .ref mkeptHeats2, .ref mkeptSights, .long f_1]))] H := hP
  have hD : va_D A [(mo, .inr (12, [.ref mpage, .int 0, .int 0, .int 0, .int 0, .int 0, .int 0, .int 0, .ref mkeys, .ref mvalues, .ref mheights, .ref mheats, .int 0, .ref msecondKeys, .ref msecondValues, .ref msecondHeights, .ref msecondHeats, .int 0, .int 0, .int 0, .int 0, .ref msaved, .ref mbestHeights, .int 0, .ref msights, .ref mby, .int 0, .int (-1), .int 0, .int 0, .int 0, .int 0, .int 0, .int 0, .ref mkeptKeys, .ref mkeptValues, .ref mkeptHeights, .ref mkeptHeats, .ref mkeptKeys2, .ref mkeptValues2, .ref mkeptHeights2, .ref mkeptHeats2, .ref mkeptSights, .long f_1]))] := hD
  refine W.widen (k := 0) (n := 0) (by decide) (by decide) ?_
  exact wk_vret f_1 hx hb hr hlocks ef_1 hK hP hD hS [0] rfl rfl dX12_say_14
theorem dX12_digest_0 : decode cX12_digest 0 = .ok (.aload_n 0, 1) := by decide +kernel
theorem dX12_digest_1 : decode cX12_digest 1 = .ok (.ldc2_w 339, 3) := by decide +kernel
theorem dX12_digest_4 : decode cX12_digest 4 = .ok (.putfield 331, 3) := by decide +kernel
theorem dX12_digest_7 : decode cX12_digest 7 = .ok (.iconst 0, 1) := by decide +kernel
theorem dX12_digest_8 : decode cX12_digest 8 = .ok (.istore_n 1, 1) := by decide +kernel
theorem dX12_digest_9 : decode cX12_digest 9 = .ok (.iload_n 1, 1) := by decide +kernel
theorem dX12_digest_10 : decode cX12_digest 10 = .ok (.aload_n 0, 1) := by decide +kernel
theorem dX12_digest_11 : decode cX12_digest 11 = .ok (.getfield 121, 3) := by decide +kernel
theorem dX12_digest_14 : decode cX12_digest 14 = .ok (.if_icmp .ge 14, 3) := by decide +kernel
theorem dX12_digest_28 : decode cX12_digest 28 = .ok (.aload_n 0, 1) := by decide +kernel
theorem dX12_digest_29 : decode cX12_digest 29 = .ok (.invokevirtual 185, 3) := by decide +kernel
theorem dX12_digest_32 : decode cX12_digest 32 = .ok (.ifCond .ne 7, 3) := by decide +kernel
theorem dX12_digest_39 : decode cX12_digest 39 = .ok (.iconst 0, 1) := by decide +kernel
theorem dX12_digest_40 : decode cX12_digest 40 = .ok (.istore_n 1, 1) := by decide +kernel
theorem dX12_digest_41 : decode cX12_digest 41 = .ok (.iload_n 1, 1) := by decide +kernel
theorem dX12_digest_42 : decode cX12_digest 42 = .ok (.aload_n 0, 1) := by decide +kernel
theorem dX12_digest_43 : decode cX12_digest 43 = .ok (.getfield 86, 3) := by decide +kernel
theorem dX12_digest_46 : decode cX12_digest 46 = .ok (.if_icmp .ge 20, 3) := by decide +kernel
theorem dX12_digest_66 : decode cX12_digest 66 = .ok (.iconst 0, 1) := by decide +kernel
theorem dX12_digest_67 : decode cX12_digest 67 = .ok (.istore_n 1, 1) := by decide +kernel
theorem dX12_digest_68 : decode cX12_digest 68 = .ok (.iload_n 1, 1) := by decide +kernel
theorem dX12_digest_69 : decode cX12_digest 69 = .ok (.bipush 13, 2) := by decide +kernel
theorem dX12_digest_71 : decode cX12_digest 71 = .ok (.if_icmp .ge 19, 3) := by decide +kernel
theorem dX12_digest_74 : decode cX12_digest 74 = .ok (.aload_n 0, 1) := by decide +kernel
theorem dX12_digest_75 : decode cX12_digest 75 = .ok (.aload_n 0, 1) := by decide +kernel
theorem dX12_digest_76 : decode cX12_digest 76 = .ok (.iload_n 1, 1) := by decide +kernel
theorem dX12_digest_77 : decode cX12_digest 77 = .ok (.invokevirtual 326, 3) := by decide +kernel
theorem dX12_digest_80 : decode cX12_digest 80 = .ok (.i2l, 1) := by decide +kernel
theorem dX12_digest_81 : decode cX12_digest 81 = .ok (.invokevirtual 335, 3) := by decide +kernel
theorem dX12_digest_84 : decode cX12_digest 84 = .ok (.iinc 1 1, 3) := by decide +kernel
theorem dX12_digest_87 : decode cX12_digest 87 = .ok (.goto (-19), 3) := by decide +kernel
theorem dX12_digest_90 : decode cX12_digest 90 = .ok (.aload_n 0, 1) := by decide +kernel
theorem dX12_digest_91 : decode cX12_digest 91 = .ok (.getfield 331, 3) := by decide +kernel
theorem dX12_digest_94 : decode cX12_digest 94 = .ok (.lreturn, 1) := by decide +kernel
set_option maxHeartbeats 4000000 in
set_option maxRecDepth 100000 in
theorem c_X12_digest (l : Launch) (D : va_G) (cy : ClassId) (mo mpage mkeys mvalues mheights mheats msecondKeys msecondValues msecondHeights msecondHeats msaved mbestHeights msights mby mkeptKeys mkeptValues mkeptHeights mkeptHeats mkeptKeys2 mkeptValues2 mkeptHeights2 mkeptHeats2 mkeptSights : Nat) (hh : Int64) : wk_Cl l yX12_digest cX12_digest 2 (some .long) { frames := 2, cells := 0, slots := 0, locals := 44 } D cy [.ref mo] [(mo, .inr (12, [.ref mpage, .int 0, .int 0, .int 0, .int 0, .int 0, .int 0, .int 0, .ref mkeys, .ref mvalues, .ref mheights, .ref mheats, .int 0, .ref msecondKeys, .ref msecondValues, .ref msecondHeights, .ref msecondHeats, .int 0, .int 0, .int 0, .int 0, .ref msaved, .ref mbestHeights, .int 0, .ref msights, .ref mby, .int 0, .int (-1), .int 0, .int 0, .int 0, .int 0, .int 0, .int 0, .ref mkeptKeys, .ref mkeptValues, .ref mkeptHeights, .ref mkeptHeats, .ref mkeptKeys2, .ref mkeptValues2, .ref mkeptHeights2, .ref mkeptHeats2, .ref mkeptSights, .long hh]))] 0 0 (fun (r : Int64) (u : Unit) => r = (-8242179974112640543)) (fun u => []) := by
  refine wk_mkCl (by decide) (Nat.le_of_ble_eq_true rfl) ?_
  intro p e s m below meth c A ls B hA hK hP hD hS hl
  obtain ⟨hx, hb, hr, hlocks, hml, hown, htb, hin⟩ := B
  have hl : lv_has ls 2 [(0, .ref mo)] := hl
  refine lv_aload_n hx hb dX12_digest_0 rfl (lv_at hl 0 rfl) ?_
  refine lv_ldc2 (v := 1151) hx hb hown (htb _ tw_1199) dX12_digest_1 ?_
  refine va_put (D := D) (ci := 12) (v := .long 1151) (ty := .long) (C := RX12) (T := TX12) (N := 44) hx hb htb inX12 tyX12 tyX12_ok nmX12 hown hK hP hD hS 0 rfl rfl 43 (by decide) (htb _ tw_806) (fun _ h9 => h9) rfl (by decide +kernel) rfl rfl (Nat.le_of_ble_eq_true rfl) dX12_digest_4 (fun H locs hP hD hS => ?_)
  have hP : va_P D classes [(mo, .inr (12, [.ref mpage, .int 0, .int 0, .int 0, .int 0, .int 0, .int 0, .int 0, .ref mkeys, .ref mvalues, .ref mheights, .ref mheats, .int 0, .ref msecondKeys, .ref msecondValues, .ref msecondHeights, .ref msecondHeats, .int 0, .int 0, .int 0, .int 0, .ref msaved, .ref mbestHeights, .int 0, .ref msights, .ref mby, .int 0, .int (-1), .int 0, .int 0, .int 0, .int 0, .int 0, .int 0, .ref mkeptKeys, .ref mkeptValues, .ref mkeptHeights, .ref mkeptHeats, .ref mkeptKeys2, .ref mkeptValues2, .ref mkeptHeights2, .ref mkeptHeats2, .ref mkeptSights, .long 1151]))] H := hP
  have hD : va_D A [(mo, .inr (12, [.ref mpage, .int 0, .int 0, .int 0, .int 0, .int 0, .int 0, .int 0, .ref mkeys, .ref mvalues, .ref mheights, .ref mheats, .int 0, .ref msecondKeys, .ref msecondValues, .ref msecondHeights, .ref msecondHeats, .int 0, .int 0, .int 0, .int 0, .ref msaved, .ref mbestHeights, .int 0, .ref msights, .ref mby, .int 0, .int (-1), .int 0, .int 0, .int 0, .int 0, .int 0, .int 0, .ref mkeptKeys, .ref mkeptValues, .ref mkeptHeights, .ref mkeptHeats, .ref mkeptKeys2, .ref mkeptValues2, .ref mkeptHeights2, .ref mkeptHeats2, .ref mkeptSights, .long 1151]))] := hD
  refine lv_iconst (v := 0) hx hb dX12_digest_7 (by decide) ?_
  refine lv_istore_n (lv' := [(1, .int 0), (0, .ref mo)]) hx hb dX12_digest_8 rfl hl (by decide) rfl (fun ls hl => ?_)
  refine lv_iload_n hx hb dX12_digest_9 rfl (lv_at hl 0 rfl) ?_
  refine lv_aload_n hx hb dX12_digest_10 rfl (lv_at hl 1 rfl) ?_
  refine va_get (D := D) (ci := 12) (v := .int 0) (C := RX12) (T := TX12) (N := 44) hx hb htb inX12 hown hK hP 0 rfl rfl 3 (by decide) (htb _ tw_766) (fun _ h9 => h9) rfl dX12_digest_11 ?_
  refine lv_icmp_ge (tgt := 28) hx hb dX12_digest_14 (by decide) (fun _ => ?_) (fun c_1 => absurd (by decide) c_1)
  refine lv_aload_n hx hb dX12_digest_28 rfl (lv_at hl 1 rfl) ?_
  refine wk_iV (As := []) (rest := []) (wc := [(mo, .inr (12, [.ref mpage, .int 0, .int 0, .int 0, .int 0, .int 0, .int 0, .int 0, .ref mkeys, .ref mvalues, .ref mheights, .ref mheats, .int 0, .ref msecondKeys, .ref msecondValues, .ref msecondHeights, .ref msecondHeats, .int 0, .int 0, .int 0, .int 0, .ref msaved, .ref mbestHeights, .int 0, .ref msights, .ref mby, .int 0, .int (-1), .int 0, .int 0, .int 0, .int 0, .int 0, .int 0, .ref mkeptKeys, .ref mkeptValues, .ref mkeptHeights, .ref mkeptHeats, .ref mkeptKeys2, .ref mkeptValues2, .ref mkeptHeights2, .ref mkeptHeats2, .ref mkeptSights, .long 1151]))]) (wr := []) (n := 0) (R := _) ⟨hx, hb, hml, hown, htb⟩ (c_X12_lacks l D cy mo mpage mkeys mvalues mheights mheats msecondKeys msecondValues msecondHeights msecondHeats msaved mbestHeights msights mby mkeptKeys mkeptValues mkeptHeights mkeptHeats mkeptKeys2 mkeptValues2 mkeptHeights2 mkeptHeats2 mkeptSights  1151) tw_969 tw_966 tw_968 tw_29 tw_71 rfl rfl (by decide +kernel) ⟨Nat.le_of_ble_eq_true rfl, Nat.le_of_ble_eq_true rfl⟩ hK hP hD hS hA [0] [] rfl rfl rfl rfl (by decide) 0 (ci := 12) rfl rfl rfl hl.1 rfl (Nat.le_of_ble_eq_true rfl) dX12_digest_29 ⟨Nat.le_of_ble_eq_true rfl, Nat.le_of_ble_eq_true rfl⟩ (fun r_2 u_3 H locs hw_4 hP hD hS => ?_)
  refine W.widen (k := 0) (n := 0) (by decide) (by decide) ?_
  have hw_4 : r_2 = 1 := hw_4
  subst hw_4
  have hP : va_P D classes [(mo, .inr (12, [.ref mpage, .int 0, .int 0, .int 0, .int 0, .int 0, .int 0, .int 0, .ref mkeys, .ref mvalues, .ref mheights, .ref mheats, .int 0, .ref msecondKeys, .ref msecondValues, .ref msecondHeights, .ref msecondHeats, .int 0, .int 0, .int 0, .int 0, .ref msaved, .ref mbestHeights, .int 0, .ref msights, .ref mby, .int 0, .int (-1), .int 0, .int 0, .int 0, .int 0, .int 0, .int 0, .ref mkeptKeys, .ref mkeptValues, .ref mkeptHeights, .ref mkeptHeats, .ref mkeptKeys2, .ref mkeptValues2, .ref mkeptHeights2, .ref mkeptHeats2, .ref mkeptSights, .long 1151]))] H := hP
  have hD : va_D A [(mo, .inr (12, [.ref mpage, .int 0, .int 0, .int 0, .int 0, .int 0, .int 0, .int 0, .ref mkeys, .ref mvalues, .ref mheights, .ref mheats, .int 0, .ref msecondKeys, .ref msecondValues, .ref msecondHeights, .ref msecondHeats, .int 0, .int 0, .int 0, .int 0, .ref msaved, .ref mbestHeights, .int 0, .ref msights, .ref mby, .int 0, .int (-1), .int 0, .int 0, .int 0, .int 0, .int 0, .int 0, .ref mkeptKeys, .ref mkeptValues, .ref mkeptHeights, .ref mkeptHeats, .ref mkeptKeys2, .ref mkeptValues2, .ref mkeptHeights2, .ref mkeptHeats2, .ref mkeptSights, .long 1151]))] := hD
  refine lv_if_ne (tgt := 39) hx hb dX12_digest_32 (by decide) (fun _ => ?_) (fun c_5 => absurd c_5 (by decide))
  refine lv_iconst (v := 0) hx hb dX12_digest_39 (by decide) ?_
  refine lv_istore_n (lv' := [(1, .int 0), (0, .ref mo)]) hx hb dX12_digest_40 rfl hl (by decide) rfl (fun ls hl => ?_)
  refine lv_iload_n hx hb dX12_digest_41 rfl (lv_at hl 0 rfl) ?_
  refine lv_aload_n hx hb dX12_digest_42 rfl (lv_at hl 1 rfl) ?_
  refine va_get (D := D) (ci := 12) (v := .int 0) (C := RX12) (T := TX12) (N := 44) hx hb htb inX12 hown hK hP 0 rfl rfl 1 (by decide) (htb _ tw_764) (fun _ h9 => h9) rfl dX12_digest_43 ?_
  refine lv_icmp_ge (tgt := 66) hx hb dX12_digest_46 (by decide) (fun _ => ?_) (fun c_6 => absurd (by decide) c_6)
  refine lv_iconst (v := 0) hx hb dX12_digest_66 (by decide) ?_
  refine lv_istore_n (lv' := [(1, .int 0), (0, .ref mo)]) hx hb dX12_digest_67 rfl hl (by decide) rfl (fun ls hl => ?_)
  refine lv_iload_n hx hb dX12_digest_68 rfl (lv_at hl 0 rfl) ?_
  refine lv_bipush (v := 13) hx hb dX12_digest_69 (by decide) ?_
  refine lv_icmp_ge (tgt := 90) hx hb dX12_digest_71 (by decide) (fun c_7 => absurd c_7 (by decide)) (fun _ => ?_)
  refine lv_aload_n hx hb dX12_digest_74 rfl (lv_at hl 1 rfl) ?_
  refine lv_aload_n hx hb dX12_digest_75 rfl (lv_at hl 1 rfl) ?_
  refine lv_iload_n hx hb dX12_digest_76 rfl (lv_at hl 0 rfl) ?_
  refine wk_iV (As := [.int 0]) (rest := [.ref mo]) (wc := [(mo, .inr (12, [.ref mpage, .int 0, .int 0, .int 0, .int 0, .int 0, .int 0, .int 0, .ref mkeys, .ref mvalues, .ref mheights, .ref mheats, .int 0, .ref msecondKeys, .ref msecondValues, .ref msecondHeights, .ref msecondHeats, .int 0, .int 0, .int 0, .int 0, .ref msaved, .ref mbestHeights, .int 0, .ref msights, .ref mby, .int 0, .int (-1), .int 0, .int 0, .int 0, .int 0, .int 0, .int 0, .ref mkeptKeys, .ref mkeptValues, .ref mkeptHeights, .ref mkeptHeats, .ref mkeptKeys2, .ref mkeptValues2, .ref mkeptHeights2, .ref mkeptHeats2, .ref mkeptSights, .long 1151]))]) (wr := []) (n := 1) (R := _) ⟨hx, hb, hml, hown, htb⟩ (c_X12_countOf l D cy mo mpage mkeys mvalues mheights mheats msecondKeys msecondValues msecondHeights msecondHeats msaved mbestHeights msights mby mkeptKeys mkeptValues mkeptHeights mkeptHeats mkeptKeys2 mkeptValues2 mkeptHeights2 mkeptHeats2 mkeptSights 0 1151) tw_1190 tw_1187 tw_1189 tw_58 tw_71 rfl rfl (by decide +kernel) ⟨Nat.le_of_ble_eq_true rfl, Nat.le_of_ble_eq_true rfl⟩ hK hP hD hS hA [0] [] rfl rfl rfl rfl (by decide) 0 (ci := 12) rfl rfl rfl hl.1 rfl (Nat.le_of_ble_eq_true rfl) dX12_digest_77 ⟨Nat.le_of_ble_eq_true rfl, Nat.le_of_ble_eq_true rfl⟩ (fun r_8 u_9 H locs hw_10 hP hD hS => ?_)
  refine W.widen (k := 0) (n := 0) (by decide) (by decide) ?_
  have hw_10 : r_8 = if (0 ≤ (0 : Int32).toInt ∧ (0 : Int32).toInt ≤ 12) then 0 else (-102) := hw_10
  subst hw_10
  have hP : va_P D classes [(mo, .inr (12, [.ref mpage, .int 0, .int 0, .int 0, .int 0, .int 0, .int 0, .int 0, .ref mkeys, .ref mvalues, .ref mheights, .ref mheats, .int 0, .ref msecondKeys, .ref msecondValues, .ref msecondHeights, .ref msecondHeats, .int 0, .int 0, .int 0, .int 0, .ref msaved, .ref mbestHeights, .int 0, .ref msights, .ref mby, .int 0, .int (-1), .int 0, .int 0, .int 0, .int 0, .int 0, .int 0, .ref mkeptKeys, .ref mkeptValues, .ref mkeptHeights, .ref mkeptHeats, .ref mkeptKeys2, .ref mkeptValues2, .ref mkeptHeights2, .ref mkeptHeats2, .ref mkeptSights, .long 1151]))] H := hP
  have hD : va_D A [(mo, .inr (12, [.ref mpage, .int 0, .int 0, .int 0, .int 0, .int 0, .int 0, .int 0, .ref mkeys, .ref mvalues, .ref mheights, .ref mheats, .int 0, .ref msecondKeys, .ref msecondValues, .ref msecondHeights, .ref msecondHeats, .int 0, .int 0, .int 0, .int 0, .ref msaved, .ref mbestHeights, .int 0, .ref msights, .ref mby, .int 0, .int (-1), .int 0, .int 0, .int 0, .int 0, .int 0, .int 0, .ref mkeptKeys, .ref mkeptValues, .ref mkeptHeights, .ref mkeptHeats, .ref mkeptKeys2, .ref mkeptValues2, .ref mkeptHeights2, .ref mkeptHeats2, .ref mkeptSights, .long 1151]))] := hD
  refine wk_toi (show ((if (0 ≤ (0 : Int32).toInt ∧ (0 : Int32).toInt ≤ 12) then 0 else (-102)) : Int32) = 0 by decide) ?_
  refine lv_i2l (v := 0) hx hb dX12_digest_80 (by decide) ?_
  refine wk_vV (As := [.long 0]) (rest := []) (wc := [(mo, .inr (12, [.ref mpage, .int 0, .int 0, .int 0, .int 0, .int 0, .int 0, .int 0, .ref mkeys, .ref mvalues, .ref mheights, .ref mheats, .int 0, .ref msecondKeys, .ref msecondValues, .ref msecondHeights, .ref msecondHeats, .int 0, .int 0, .int 0, .int 0, .ref msaved, .ref mbestHeights, .int 0, .ref msights, .ref mby, .int 0, .int (-1), .int 0, .int 0, .int 0, .int 0, .int 0, .int 0, .ref mkeptKeys, .ref mkeptValues, .ref mkeptHeights, .ref mkeptHeats, .ref mkeptKeys2, .ref mkeptValues2, .ref mkeptHeights2, .ref mkeptHeats2, .ref mkeptSights, .long 1151]))]) (wr := []) (n := 1) (R := _) ⟨hx, hb, hml, hown, htb⟩ (c_X12_say l D cy mo mpage mkeys mvalues mheights mheats msecondKeys msecondValues msecondHeights msecondHeats msaved mbestHeights msights mby mkeptKeys mkeptValues mkeptHeights mkeptHeats mkeptKeys2 mkeptValues2 mkeptHeights2 mkeptHeats2 mkeptSights 1151 0) tw_1207 tw_1204 tw_1206 tw_61 tw_71 rfl rfl (by decide +kernel) ⟨Nat.le_of_ble_eq_true rfl, Nat.le_of_ble_eq_true rfl⟩ hK hP hD hS hA [0] [] rfl rfl rfl rfl (by decide) 0 (ci := 12) rfl rfl rfl hl.1 rfl (Nat.le_of_ble_eq_true rfl) dX12_digest_81 ⟨Nat.le_of_ble_eq_true rfl, Nat.le_of_ble_eq_true rfl⟩ (fun u_12 H locs hw_13 hP hD hS => ?_)
  refine W.widen (k := 0) (n := 0) (by decide) (by decide) ?_
  have hw_13 : u_12 = 35681 := (show u_12 = 31 * 1151 + 0 from hw_13).trans (by decide)
  subst hw_13
  have hP : va_P D classes [(mo, .inr (12, [.ref mpage, .int 0, .int 0, .int 0, .int 0, .int 0, .int 0, .int 0, .ref mkeys, .ref mvalues, .ref mheights, .ref mheats, .int 0, .ref msecondKeys, .ref msecondValues, .ref msecondHeights, .ref msecondHeats, .int 0, .int 0, .int 0, .int 0, .ref msaved, .ref mbestHeights, .int 0, .ref msights, .ref mby, .int 0, .int (-1), .int 0, .int 0, .int 0, .int 0, .int 0, .int 0, .ref mkeptKeys, .ref mkeptValues, .ref mkeptHeights, .ref mkeptHeats, .ref mkeptKeys2, .ref mkeptValues2, .ref mkeptHeights2, .ref mkeptHeats2, .ref mkeptSights, .long 35681]))] H := hP
  have hD : va_D A [(mo, .inr (12, [.ref mpage, .int 0, .int 0, .int 0, .int 0, .int 0, .int 0, .int 0, .ref mkeys, .ref mvalues, .ref mheights, .ref mheats, .int 0, .ref msecondKeys, .ref msecondValues, .ref msecondHeights, .ref msecondHeats, .int 0, .int 0, .int 0, .int 0, .ref msaved, .ref mbestHeights, .int 0, .ref msights, .ref mby, .int 0, .int (-1), .int 0, .int 0, .int 0, .int 0, .int 0, .int 0, .ref mkeptKeys, .ref mkeptValues, .ref mkeptHeights, .ref mkeptHeats, .ref mkeptKeys2, .ref mkeptValues2, .ref mkeptHeights2, .ref mkeptHeats2, .ref mkeptSights, .long 35681]))] := hD
  refine lv_iinc (v := 1) (lv' := [(1, .int 1), (0, .ref mo)]) hx hb dX12_digest_84 hl (k := 0) rfl (by decide) (by decide) rfl (fun ls hl => ?_)
  refine lv_goto (tgt := 68) hx hb dX12_digest_87 (by decide) ?_
  refine lv_iload_n hx hb dX12_digest_68 rfl (lv_at hl 0 rfl) ?_
  refine lv_bipush (v := 13) hx hb dX12_digest_69 (by decide) ?_
  refine lv_icmp_ge (tgt := 90) hx hb dX12_digest_71 (by decide) (fun c_14 => absurd c_14 (by decide)) (fun _ => ?_)
  refine lv_aload_n hx hb dX12_digest_74 rfl (lv_at hl 1 rfl) ?_
  refine lv_aload_n hx hb dX12_digest_75 rfl (lv_at hl 1 rfl) ?_
  refine lv_iload_n hx hb dX12_digest_76 rfl (lv_at hl 0 rfl) ?_
  refine wk_iV (As := [.int 1]) (rest := [.ref mo]) (wc := [(mo, .inr (12, [.ref mpage, .int 0, .int 0, .int 0, .int 0, .int 0, .int 0, .int 0, .ref mkeys, .ref mvalues, .ref mheights, .ref mheats, .int 0, .ref msecondKeys, .ref msecondValues, .ref msecondHeights, .ref msecondHeats, .int 0, .int 0, .int 0, .int 0, .ref msaved, .ref mbestHeights, .int 0, .ref msights, .ref mby, .int 0, .int (-1), .int 0, .int 0, .int 0, .int 0, .int 0, .int 0, .ref mkeptKeys, .ref mkeptValues, .ref mkeptHeights, .ref mkeptHeats, .ref mkeptKeys2, .ref mkeptValues2, .ref mkeptHeights2, .ref mkeptHeats2, .ref mkeptSights, .long 35681]))]) (wr := []) (n := 1) (R := _) ⟨hx, hb, hml, hown, htb⟩ (c_X12_countOf l D cy mo mpage mkeys mvalues mheights mheats msecondKeys msecondValues msecondHeights msecondHeats msaved mbestHeights msights mby mkeptKeys mkeptValues mkeptHeights mkeptHeats mkeptKeys2 mkeptValues2 mkeptHeights2 mkeptHeats2 mkeptSights 1 35681) tw_1190 tw_1187 tw_1189 tw_58 tw_71 rfl rfl (by decide +kernel) ⟨Nat.le_of_ble_eq_true rfl, Nat.le_of_ble_eq_true rfl⟩ hK hP hD hS hA [0] [] rfl rfl rfl rfl (by decide) 0 (ci := 12) rfl rfl rfl hl.1 rfl (Nat.le_of_ble_eq_true rfl) dX12_digest_77 ⟨Nat.le_of_ble_eq_true rfl, Nat.le_of_ble_eq_true rfl⟩ (fun r_15 u_16 H locs hw_17 hP hD hS => ?_)
  refine W.widen (k := 0) (n := 0) (by decide) (by decide) ?_
  have hw_17 : r_15 = if (0 ≤ (1 : Int32).toInt ∧ (1 : Int32).toInt ≤ 12) then 0 else (-102) := hw_17
  subst hw_17
  have hP : va_P D classes [(mo, .inr (12, [.ref mpage, .int 0, .int 0, .int 0, .int 0, .int 0, .int 0, .int 0, .ref mkeys, .ref mvalues, .ref mheights, .ref mheats, .int 0, .ref msecondKeys, .ref msecondValues, .ref msecondHeights, .ref msecondHeats, .int 0, .int 0, .int 0, .int 0, .ref msaved, .ref mbestHeights, .int 0, .ref msights, .ref mby, .int 0, .int (-1), .int 0, .int 0, .int 0, .int 0, .int 0, .int 0, .ref mkeptKeys, .ref mkeptValues, .ref mkeptHeights, .ref mkeptHeats, .ref mkeptKeys2, .ref mkeptValues2, .ref mkeptHeights2, .ref mkeptHeats2, .ref mkeptSights, .long 35681]))] H := hP
  have hD : va_D A [(mo, .inr (12, [.ref mpage, .int 0, .int 0, .int 0, .int 0, .int 0, .int 0, .int 0, .ref mkeys, .ref mvalues, .ref mheights, .ref mheats, .int 0, .ref msecondKeys, .ref msecondValues, .ref msecondHeights, .ref msecondHeats, .int 0, .int 0, .int 0, .int 0, .ref msaved, .ref mbestHeights, .int 0, .ref msights, .ref mby, .int 0, .int (-1), .int 0, .int 0, .int 0, .int 0, .int 0, .int 0, .ref mkeptKeys, .ref mkeptValues, .ref mkeptHeights, .ref mkeptHeats, .ref mkeptKeys2, .ref mkeptValues2, .ref mkeptHeights2, .ref mkeptHeats2, .ref mkeptSights, .long 35681]))] := hD
  refine wk_toi (show ((if (0 ≤ (1 : Int32).toInt ∧ (1 : Int32).toInt ≤ 12) then 0 else (-102)) : Int32) = 0 by decide) ?_
  refine lv_i2l (v := 0) hx hb dX12_digest_80 (by decide) ?_
  refine wk_vV (As := [.long 0]) (rest := []) (wc := [(mo, .inr (12, [.ref mpage, .int 0, .int 0, .int 0, .int 0, .int 0, .int 0, .int 0, .ref mkeys, .ref mvalues, .ref mheights, .ref mheats, .int 0, .ref msecondKeys, .ref msecondValues, .ref msecondHeights, .ref msecondHeats, .int 0, .int 0, .int 0, .int 0, .ref msaved, .ref mbestHeights, .int 0, .ref msights, .ref mby, .int 0, .int (-1), .int 0, .int 0, .int 0, .int 0, .int 0, .int 0, .ref mkeptKeys, .ref mkeptValues, .ref mkeptHeights, .ref mkeptHeats, .ref mkeptKeys2, .ref mkeptValues2, .ref mkeptHeights2, .ref mkeptHeats2, .ref mkeptSights, .long 35681]))]) (wr := []) (n := 1) (R := _) ⟨hx, hb, hml, hown, htb⟩ (c_X12_say l D cy mo mpage mkeys mvalues mheights mheats msecondKeys msecondValues msecondHeights msecondHeats msaved mbestHeights msights mby mkeptKeys mkeptValues mkeptHeights mkeptHeats mkeptKeys2 mkeptValues2 mkeptHeights2 mkeptHeats2 mkeptSights 35681 0) tw_1207 tw_1204 tw_1206 tw_61 tw_71 rfl rfl (by decide +kernel) ⟨Nat.le_of_ble_eq_true rfl, Nat.le_of_ble_eq_true rfl⟩ hK hP hD hS hA [0] [] rfl rfl rfl rfl (by decide) 0 (ci := 12) rfl rfl rfl hl.1 rfl (Nat.le_of_ble_eq_true rfl) dX12_digest_81 ⟨Nat.le_of_ble_eq_true rfl, Nat.le_of_ble_eq_true rfl⟩ (fun u_19 H locs hw_20 hP hD hS => ?_)
  refine W.widen (k := 0) (n := 0) (by decide) (by decide) ?_
  have hw_20 : u_19 = 1106111 := (show u_19 = 31 * 35681 + 0 from hw_20).trans (by decide)
  subst hw_20
  have hP : va_P D classes [(mo, .inr (12, [.ref mpage, .int 0, .int 0, .int 0, .int 0, .int 0, .int 0, .int 0, .ref mkeys, .ref mvalues, .ref mheights, .ref mheats, .int 0, .ref msecondKeys, .ref msecondValues, .ref msecondHeights, .ref msecondHeats, .int 0, .int 0, .int 0, .int 0, .ref msaved, .ref mbestHeights, .int 0, .ref msights, .ref mby, .int 0, .int (-1), .int 0, .int 0, .int 0, .int 0, .int 0, .int 0, .ref mkeptKeys, .ref mkeptValues, .ref mkeptHeights, .ref mkeptHeats, .ref mkeptKeys2, .ref mkeptValues2, .ref mkeptHeights2, .ref mkeptHeats2, .ref mkeptSights, .long 1106111]))] H := hP
  have hD : va_D A [(mo, .inr (12, [.ref mpage, .int 0, .int 0, .int 0, .int 0, .int 0, .int 0, .int 0, .ref mkeys, .ref mvalues, .ref mheights, .ref mheats, .int 0, .ref msecondKeys, .ref msecondValues, .ref msecondHeights, .ref msecondHeats, .int 0, .int 0, .int 0, .int 0, .ref msaved, .ref mbestHeights, .int 0, .ref msights, .ref mby, .int 0, .int (-1), .int 0, .int 0, .int 0, .int 0, .int 0, .int 0, .ref mkeptKeys, .ref mkeptValues, .ref mkeptHeights, .ref mkeptHeats, .ref mkeptKeys2, .ref mkeptValues2, .ref mkeptHeights2, .ref mkeptHeats2, .ref mkeptSights, .long 1106111]))] := hD
  refine lv_iinc (v := 2) (lv' := [(1, .int 2), (0, .ref mo)]) hx hb dX12_digest_84 hl (k := 0) rfl (by decide) (by decide) rfl (fun ls hl => ?_)
  refine lv_goto (tgt := 68) hx hb dX12_digest_87 (by decide) ?_
  refine lv_iload_n hx hb dX12_digest_68 rfl (lv_at hl 0 rfl) ?_
  refine lv_bipush (v := 13) hx hb dX12_digest_69 (by decide) ?_
  refine lv_icmp_ge (tgt := 90) hx hb dX12_digest_71 (by decide) (fun c_21 => absurd c_21 (by decide)) (fun _ => ?_)
  refine lv_aload_n hx hb dX12_digest_74 rfl (lv_at hl 1 rfl) ?_
  refine lv_aload_n hx hb dX12_digest_75 rfl (lv_at hl 1 rfl) ?_
  refine lv_iload_n hx hb dX12_digest_76 rfl (lv_at hl 0 rfl) ?_
  refine wk_iV (As := [.int 2]) (rest := [.ref mo]) (wc := [(mo, .inr (12, [.ref mpage, .int 0, .int 0, .int 0, .int 0, .int 0, .int 0, .int 0, .ref mkeys, .ref mvalues, .ref mheights, .ref mheats, .int 0, .ref msecondKeys, .ref msecondValues, .ref msecondHeights, .ref msecondHeats, .int 0, .int 0, .int 0, .int 0, .ref msaved, .ref mbestHeights, .int 0, .ref msights, .ref mby, .int 0, .int (-1), .int 0, .int 0, .int 0, .int 0, .int 0, .int 0, .ref mkeptKeys, .ref mkeptValues, .ref mkeptHeights, .ref mkeptHeats, .ref mkeptKeys2, .ref mkeptValues2, .ref mkeptHeights2, .ref mkeptHeats2, .ref mkeptSights, .long 1106111]))]) (wr := []) (n := 1) (R := _) ⟨hx, hb, hml, hown, htb⟩ (c_X12_countOf l D cy mo mpage mkeys mvalues mheights mheats msecondKeys msecondValues msecondHeights msecondHeats msaved mbestHeights msights mby mkeptKeys mkeptValues mkeptHeights mkeptHeats mkeptKeys2 mkeptValues2 mkeptHeights2 mkeptHeats2 mkeptSights 2 1106111) tw_1190 tw_1187 tw_1189 tw_58 tw_71 rfl rfl (by decide +kernel) ⟨Nat.le_of_ble_eq_true rfl, Nat.le_of_ble_eq_true rfl⟩ hK hP hD hS hA [0] [] rfl rfl rfl rfl (by decide) 0 (ci := 12) rfl rfl rfl hl.1 rfl (Nat.le_of_ble_eq_true rfl) dX12_digest_77 ⟨Nat.le_of_ble_eq_true rfl, Nat.le_of_ble_eq_true rfl⟩ (fun r_22 u_23 H locs hw_24 hP hD hS => ?_)
  refine W.widen (k := 0) (n := 0) (by decide) (by decide) ?_
  have hw_24 : r_22 = if (0 ≤ (2 : Int32).toInt ∧ (2 : Int32).toInt ≤ 12) then 0 else (-102) := hw_24
  subst hw_24
  have hP : va_P D classes [(mo, .inr (12, [.ref mpage, .int 0, .int 0, .int 0, .int 0, .int 0, .int 0, .int 0, .ref mkeys, .ref mvalues, .ref mheights, .ref mheats, .int 0, .ref msecondKeys, .ref msecondValues, .ref msecondHeights, .ref msecondHeats, .int 0, .int 0, .int 0, .int 0, .ref msaved, .ref mbestHeights, .int 0, .ref msights, .ref mby, .int 0, .int (-1), .int 0, .int 0, .int 0, .int 0, .int 0, .int 0, .ref mkeptKeys, .ref mkeptValues, .ref mkeptHeights, .ref mkeptHeats, .ref mkeptKeys2, .ref mkeptValues2, .ref mkeptHeights2, .ref mkeptHeats2, .ref mkeptSights, .long 1106111]))] H := hP
  have hD : va_D A [(mo, .inr (12, [.ref mpage, .int 0, .int 0, .int 0, .int 0, .int 0, .int 0, .int 0, .ref mkeys, .ref mvalues, .ref mheights, .ref mheats, .int 0, .ref msecondKeys, .ref msecondValues, .ref msecondHeights, .ref msecondHeats, .int 0, .int 0, .int 0, .int 0, .ref msaved, .ref mbestHeights, .int 0, .ref msights, .ref mby, .int 0, .int (-1), .int 0, .int 0, .int 0, .int 0, .int 0, .int 0, .ref mkeptKeys, .ref mkeptValues, .ref mkeptHeights, .ref mkeptHeats, .ref mkeptKeys2, .ref mkeptValues2, .ref mkeptHeights2, .ref mkeptHeats2, .ref mkeptSights, .long 1106111]))] := hD
  refine wk_toi (show ((if (0 ≤ (2 : Int32).toInt ∧ (2 : Int32).toInt ≤ 12) then 0 else (-102)) : Int32) = 0 by decide) ?_
  refine lv_i2l (v := 0) hx hb dX12_digest_80 (by decide) ?_
  refine wk_vV (As := [.long 0]) (rest := []) (wc := [(mo, .inr (12, [.ref mpage, .int 0, .int 0, .int 0, .int 0, .int 0, .int 0, .int 0, .ref mkeys, .ref mvalues, .ref mheights, .ref mheats, .int 0, .ref msecondKeys, .ref msecondValues, .ref msecondHeights, .ref msecondHeats, .int 0, .int 0, .int 0, .int 0, .ref msaved, .ref mbestHeights, .int 0, .ref msights, .ref mby, .int 0, .int (-1), .int 0, .int 0, .int 0, .int 0, .int 0, .int 0, .ref mkeptKeys, .ref mkeptValues, .ref mkeptHeights, .ref mkeptHeats, .ref mkeptKeys2, .ref mkeptValues2, .ref mkeptHeights2, .ref mkeptHeats2, .ref mkeptSights, .long 1106111]))]) (wr := []) (n := 1) (R := _) ⟨hx, hb, hml, hown, htb⟩ (c_X12_say l D cy mo mpage mkeys mvalues mheights mheats msecondKeys msecondValues msecondHeights msecondHeats msaved mbestHeights msights mby mkeptKeys mkeptValues mkeptHeights mkeptHeats mkeptKeys2 mkeptValues2 mkeptHeights2 mkeptHeats2 mkeptSights 1106111 0) tw_1207 tw_1204 tw_1206 tw_61 tw_71 rfl rfl (by decide +kernel) ⟨Nat.le_of_ble_eq_true rfl, Nat.le_of_ble_eq_true rfl⟩ hK hP hD hS hA [0] [] rfl rfl rfl rfl (by decide) 0 (ci := 12) rfl rfl rfl hl.1 rfl (Nat.le_of_ble_eq_true rfl) dX12_digest_81 ⟨Nat.le_of_ble_eq_true rfl, Nat.le_of_ble_eq_true rfl⟩ (fun u_26 H locs hw_27 hP hD hS => ?_)
  refine W.widen (k := 0) (n := 0) (by decide) (by decide) ?_
  have hw_27 : u_26 = 34289441 := (show u_26 = 31 * 1106111 + 0 from hw_27).trans (by decide)
  subst hw_27
  have hP : va_P D classes [(mo, .inr (12, [.ref mpage, .int 0, .int 0, .int 0, .int 0, .int 0, .int 0, .int 0, .ref mkeys, .ref mvalues, .ref mheights, .ref mheats, .int 0, .ref msecondKeys, .ref msecondValues, .ref msecondHeights, .ref msecondHeats, .int 0, .int 0, .int 0, .int 0, .ref msaved, .ref mbestHeights, .int 0, .ref msights, .ref mby, .int 0, .int (-1), .int 0, .int 0, .int 0, .int 0, .int 0, .int 0, .ref mkeptKeys, .ref mkeptValues, .ref mkeptHeights, .ref mkeptHeats, .ref mkeptKeys2, .ref mkeptValues2, .ref mkeptHeights2, .ref mkeptHeats2, .ref mkeptSights, .long 34289441]))] H := hP
  have hD : va_D A [(mo, .inr (12, [.ref mpage, .int 0, .int 0, .int 0, .int 0, .int 0, .int 0, .int 0, .ref mkeys, .ref mvalues, .ref mheights, .ref mheats, .int 0, .ref msecondKeys, .ref msecondValues, .ref msecondHeights, .ref msecondHeats, .int 0, .int 0, .int 0, .int 0, .ref msaved, .ref mbestHeights, .int 0, .ref msights, .ref mby, .int 0, .int (-1), .int 0, .int 0, .int 0, .int 0, .int 0, .int 0, .ref mkeptKeys, .ref mkeptValues, .ref mkeptHeights, .ref mkeptHeats, .ref mkeptKeys2, .ref mkeptValues2, .ref mkeptHeights2, .ref mkeptHeats2, .ref mkeptSights, .long 34289441]))] := hD
  refine lv_iinc (v := 3) (lv' := [(1, .int 3), (0, .ref mo)]) hx hb dX12_digest_84 hl (k := 0) rfl (by decide) (by decide) rfl (fun ls hl => ?_)
  refine lv_goto (tgt := 68) hx hb dX12_digest_87 (by decide) ?_
  refine lv_iload_n hx hb dX12_digest_68 rfl (lv_at hl 0 rfl) ?_
  refine lv_bipush (v := 13) hx hb dX12_digest_69 (by decide) ?_
  refine lv_icmp_ge (tgt := 90) hx hb dX12_digest_71 (by decide) (fun c_28 => absurd c_28 (by decide)) (fun _ => ?_)
  refine lv_aload_n hx hb dX12_digest_74 rfl (lv_at hl 1 rfl) ?_
  refine lv_aload_n hx hb dX12_digest_75 rfl (lv_at hl 1 rfl) ?_
  refine lv_iload_n hx hb dX12_digest_76 rfl (lv_at hl 0 rfl) ?_
  refine wk_iV (As := [.int 3]) (rest := [.ref mo]) (wc := [(mo, .inr (12, [.ref mpage, .int 0, .int 0, .int 0, .int 0, .int 0, .int 0, .int 0, .ref mkeys, .ref mvalues, .ref mheights, .ref mheats, .int 0, .ref msecondKeys, .ref msecondValues, .ref msecondHeights, .ref msecondHeats, .int 0, .int 0, .int 0, .int 0, .ref msaved, .ref mbestHeights, .int 0, .ref msights, .ref mby, .int 0, .int (-1), .int 0, .int 0, .int 0, .int 0, .int 0, .int 0, .ref mkeptKeys, .ref mkeptValues, .ref mkeptHeights, .ref mkeptHeats, .ref mkeptKeys2, .ref mkeptValues2, .ref mkeptHeights2, .ref mkeptHeats2, .ref mkeptSights, .long 34289441]))]) (wr := []) (n := 1) (R := _) ⟨hx, hb, hml, hown, htb⟩ (c_X12_countOf l D cy mo mpage mkeys mvalues mheights mheats msecondKeys msecondValues msecondHeights msecondHeats msaved mbestHeights msights mby mkeptKeys mkeptValues mkeptHeights mkeptHeats mkeptKeys2 mkeptValues2 mkeptHeights2 mkeptHeats2 mkeptSights 3 34289441) tw_1190 tw_1187 tw_1189 tw_58 tw_71 rfl rfl (by decide +kernel) ⟨Nat.le_of_ble_eq_true rfl, Nat.le_of_ble_eq_true rfl⟩ hK hP hD hS hA [0] [] rfl rfl rfl rfl (by decide) 0 (ci := 12) rfl rfl rfl hl.1 rfl (Nat.le_of_ble_eq_true rfl) dX12_digest_77 ⟨Nat.le_of_ble_eq_true rfl, Nat.le_of_ble_eq_true rfl⟩ (fun r_29 u_30 H locs hw_31 hP hD hS => ?_)
  refine W.widen (k := 0) (n := 0) (by decide) (by decide) ?_
  have hw_31 : r_29 = if (0 ≤ (3 : Int32).toInt ∧ (3 : Int32).toInt ≤ 12) then 0 else (-102) := hw_31
  subst hw_31
  have hP : va_P D classes [(mo, .inr (12, [.ref mpage, .int 0, .int 0, .int 0, .int 0, .int 0, .int 0, .int 0, .ref mkeys, .ref mvalues, .ref mheights, .ref mheats, .int 0, .ref msecondKeys, .ref msecondValues, .ref msecondHeights, .ref msecondHeats, .int 0, .int 0, .int 0, .int 0, .ref msaved, .ref mbestHeights, .int 0, .ref msights, .ref mby, .int 0, .int (-1), .int 0, .int 0, .int 0, .int 0, .int 0, .int 0, .ref mkeptKeys, .ref mkeptValues, .ref mkeptHeights, .ref mkeptHeats, .ref mkeptKeys2, .ref mkeptValues2, .ref mkeptHeights2, .ref mkeptHeats2, .ref mkeptSights, .long 34289441]))] H := hP
  have hD : va_D A [(mo, .inr (12, [.ref mpage, .int 0, .int 0, .int 0, .int 0, .int 0, .int 0, .int 0, .ref mkeys, .ref mvalues, .ref mheights, .ref mheats, .int 0, .ref msecondKeys, .ref msecondValues, .ref msecondHeights, .ref msecondHeats, .int 0, .int 0, .int 0, .int 0, .ref msaved, .ref mbestHeights, .int 0, .ref msights, .ref mby, .int 0, .int (-1), .int 0, .int 0, .int 0, .int 0, .int 0, .int 0, .ref mkeptKeys, .ref mkeptValues, .ref mkeptHeights, .ref mkeptHeats, .ref mkeptKeys2, .ref mkeptValues2, .ref mkeptHeights2, .ref mkeptHeats2, .ref mkeptSights, .long 34289441]))] := hD
  refine wk_toi (show ((if (0 ≤ (3 : Int32).toInt ∧ (3 : Int32).toInt ≤ 12) then 0 else (-102)) : Int32) = 0 by decide) ?_
  refine lv_i2l (v := 0) hx hb dX12_digest_80 (by decide) ?_
  refine wk_vV (As := [.long 0]) (rest := []) (wc := [(mo, .inr (12, [.ref mpage, .int 0, .int 0, .int 0, .int 0, .int 0, .int 0, .int 0, .ref mkeys, .ref mvalues, .ref mheights, .ref mheats, .int 0, .ref msecondKeys, .ref msecondValues, .ref msecondHeights, .ref msecondHeats, .int 0, .int 0, .int 0, .int 0, .ref msaved, .ref mbestHeights, .int 0, .ref msights, .ref mby, .int 0, .int (-1), .int 0, .int 0, .int 0, .int 0, .int 0, .int 0, .ref mkeptKeys, .ref mkeptValues, .ref mkeptHeights, .ref mkeptHeats, .ref mkeptKeys2, .ref mkeptValues2, .ref mkeptHeights2, .ref mkeptHeats2, .ref mkeptSights, .long 34289441]))]) (wr := []) (n := 1) (R := _) ⟨hx, hb, hml, hown, htb⟩ (c_X12_say l D cy mo mpage mkeys mvalues mheights mheats msecondKeys msecondValues msecondHeights msecondHeats msaved mbestHeights msights mby mkeptKeys mkeptValues mkeptHeights mkeptHeats mkeptKeys2 mkeptValues2 mkeptHeights2 mkeptHeats2 mkeptSights 34289441 0) tw_1207 tw_1204 tw_1206 tw_61 tw_71 rfl rfl (by decide +kernel) ⟨Nat.le_of_ble_eq_true rfl, Nat.le_of_ble_eq_true rfl⟩ hK hP hD hS hA [0] [] rfl rfl rfl rfl (by decide) 0 (ci := 12) rfl rfl rfl hl.1 rfl (Nat.le_of_ble_eq_true rfl) dX12_digest_81 ⟨Nat.le_of_ble_eq_true rfl, Nat.le_of_ble_eq_true rfl⟩ (fun u_33 H locs hw_34 hP hD hS => ?_)
  refine W.widen (k := 0) (n := 0) (by decide) (by decide) ?_
  have hw_34 : u_33 = 1062972671 := (show u_33 = 31 * 34289441 + 0 from hw_34).trans (by decide)
  subst hw_34
  have hP : va_P D classes [(mo, .inr (12, [.ref mpage, .int 0, .int 0, .int 0, .int 0, .int 0, .int 0, .int 0, .ref mkeys, .ref mvalues, .ref mheights, .ref mheats, .int 0, .ref msecondKeys, .ref msecondValues, .ref msecondHeights, .ref msecondHeats, .int 0, .int 0, .int 0, .int 0, .ref msaved, .ref mbestHeights, .int 0, .ref msights, .ref mby, .int 0, .int (-1), .int 0, .int 0, .int 0, .int 0, .int 0, .int 0, .ref mkeptKeys, .ref mkeptValues, .ref mkeptHeights, .ref mkeptHeats, .ref mkeptKeys2, .ref mkeptValues2, .ref mkeptHeights2, .ref mkeptHeats2, .ref mkeptSights, .long 1062972671]))] H := hP
  have hD : va_D A [(mo, .inr (12, [.ref mpage, .int 0, .int 0, .int 0, .int 0, .int 0, .int 0, .int 0, .ref mkeys, .ref mvalues, .ref mheights, .ref mheats, .int 0, .ref msecondKeys, .ref msecondValues, .ref msecondHeights, .ref msecondHeats, .int 0, .int 0, .int 0, .int 0, .ref msaved, .ref mbestHeights, .int 0, .ref msights, .ref mby, .int 0, .int (-1), .int 0, .int 0, .int 0, .int 0, .int 0, .int 0, .ref mkeptKeys, .ref mkeptValues, .ref mkeptHeights, .ref mkeptHeats, .ref mkeptKeys2, .ref mkeptValues2, .ref mkeptHeights2, .ref mkeptHeats2, .ref mkeptSights, .long 1062972671]))] := hD
  refine lv_iinc (v := 4) (lv' := [(1, .int 4), (0, .ref mo)]) hx hb dX12_digest_84 hl (k := 0) rfl (by decide) (by decide) rfl (fun ls hl => ?_)
  refine lv_goto (tgt := 68) hx hb dX12_digest_87 (by decide) ?_
  refine lv_iload_n hx hb dX12_digest_68 rfl (lv_at hl 0 rfl) ?_
  refine lv_bipush (v := 13) hx hb dX12_digest_69 (by decide) ?_
  refine lv_icmp_ge (tgt := 90) hx hb dX12_digest_71 (by decide) (fun c_35 => absurd c_35 (by decide)) (fun _ => ?_)
  refine lv_aload_n hx hb dX12_digest_74 rfl (lv_at hl 1 rfl) ?_
  refine lv_aload_n hx hb dX12_digest_75 rfl (lv_at hl 1 rfl) ?_
  refine lv_iload_n hx hb dX12_digest_76 rfl (lv_at hl 0 rfl) ?_
  refine wk_iV (As := [.int 4]) (rest := [.ref mo]) (wc := [(mo, .inr (12, [.ref mpage, .int 0, .int 0, .int 0, .int 0, .int 0, .int 0, .int 0, .ref mkeys, .ref mvalues, .ref mheights, .ref mheats, .int 0, .ref msecondKeys, .ref msecondValues, .ref msecondHeights, .ref msecondHeats, .int 0, .int 0, .int 0, .int 0, .ref msaved, .ref mbestHeights, .int 0, .ref msights, .ref mby, .int 0, .int (-1), .int 0, .int 0, .int 0, .int 0, .int 0, .int 0, .ref mkeptKeys, .ref mkeptValues, .ref mkeptHeights, .ref mkeptHeats, .ref mkeptKeys2, .ref mkeptValues2, .ref mkeptHeights2, .ref mkeptHeats2, .ref mkeptSights, .long 1062972671]))]) (wr := []) (n := 1) (R := _) ⟨hx, hb, hml, hown, htb⟩ (c_X12_countOf l D cy mo mpage mkeys mvalues mheights mheats msecondKeys msecondValues msecondHeights msecondHeats msaved mbestHeights msights mby mkeptKeys mkeptValues mkeptHeights mkeptHeats mkeptKeys2 mkeptValues2 mkeptHeights2 mkeptHeats2 mkeptSights 4 1062972671) tw_1190 tw_1187 tw_1189 tw_58 tw_71 rfl rfl (by decide +kernel) ⟨Nat.le_of_ble_eq_true rfl, Nat.le_of_ble_eq_true rfl⟩ hK hP hD hS hA [0] [] rfl rfl rfl rfl (by decide) 0 (ci := 12) rfl rfl rfl hl.1 rfl (Nat.le_of_ble_eq_true rfl) dX12_digest_77 ⟨Nat.le_of_ble_eq_true rfl, Nat.le_of_ble_eq_true rfl⟩ (fun r_36 u_37 H locs hw_38 hP hD hS => ?_)
  refine W.widen (k := 0) (n := 0) (by decide) (by decide) ?_
  have hw_38 : r_36 = if (0 ≤ (4 : Int32).toInt ∧ (4 : Int32).toInt ≤ 12) then 0 else (-102) := hw_38
  subst hw_38
  have hP : va_P D classes [(mo, .inr (12, [.ref mpage, .int 0, .int 0, .int 0, .int 0, .int 0, .int 0, .int 0, .ref mkeys, .ref mvalues, .ref mheights, .ref mheats, .int 0, .ref msecondKeys, .ref msecondValues, .ref msecondHeights, .ref msecondHeats, .int 0, .int 0, .int 0, .int 0, .ref msaved, .ref mbestHeights, .int 0, .ref msights, .ref mby, .int 0, .int (-1), .int 0, .int 0, .int 0, .int 0, .int 0, .int 0, .ref mkeptKeys, .ref mkeptValues, .ref mkeptHeights, .ref mkeptHeats, .ref mkeptKeys2, .ref mkeptValues2, .ref mkeptHeights2, .ref mkeptHeats2, .ref mkeptSights, .long 1062972671]))] H := hP
  have hD : va_D A [(mo, .inr (12, [.ref mpage, .int 0, .int 0, .int 0, .int 0, .int 0, .int 0, .int 0, .ref mkeys, .ref mvalues, .ref mheights, .ref mheats, .int 0, .ref msecondKeys, .ref msecondValues, .ref msecondHeights, .ref msecondHeats, .int 0, .int 0, .int 0, .int 0, .ref msaved, .ref mbestHeights, .int 0, .ref msights, .ref mby, .int 0, .int (-1), .int 0, .int 0, .int 0, .int 0, .int 0, .int 0, .ref mkeptKeys, .ref mkeptValues, .ref mkeptHeights, .ref mkeptHeats, .ref mkeptKeys2, .ref mkeptValues2, .ref mkeptHeights2, .ref mkeptHeats2, .ref mkeptSights, .long 1062972671]))] := hD
  refine wk_toi (show ((if (0 ≤ (4 : Int32).toInt ∧ (4 : Int32).toInt ≤ 12) then 0 else (-102)) : Int32) = 0 by decide) ?_
  refine lv_i2l (v := 0) hx hb dX12_digest_80 (by decide) ?_
  refine wk_vV (As := [.long 0]) (rest := []) (wc := [(mo, .inr (12, [.ref mpage, .int 0, .int 0, .int 0, .int 0, .int 0, .int 0, .int 0, .ref mkeys, .ref mvalues, .ref mheights, .ref mheats, .int 0, .ref msecondKeys, .ref msecondValues, .ref msecondHeights, .ref msecondHeats, .int 0, .int 0, .int 0, .int 0, .ref msaved, .ref mbestHeights, .int 0, .ref msights, .ref mby, .int 0, .int (-1), .int 0, .int 0, .int 0, .int 0, .int 0, .int 0, .ref mkeptKeys, .ref mkeptValues, .ref mkeptHeights, .ref mkeptHeats, .ref mkeptKeys2, .ref mkeptValues2, .ref mkeptHeights2, .ref mkeptHeats2, .ref mkeptSights, .long 1062972671]))]) (wr := []) (n := 1) (R := _) ⟨hx, hb, hml, hown, htb⟩ (c_X12_say l D cy mo mpage mkeys mvalues mheights mheats msecondKeys msecondValues msecondHeights msecondHeats msaved mbestHeights msights mby mkeptKeys mkeptValues mkeptHeights mkeptHeats mkeptKeys2 mkeptValues2 mkeptHeights2 mkeptHeats2 mkeptSights 1062972671 0) tw_1207 tw_1204 tw_1206 tw_61 tw_71 rfl rfl (by decide +kernel) ⟨Nat.le_of_ble_eq_true rfl, Nat.le_of_ble_eq_true rfl⟩ hK hP hD hS hA [0] [] rfl rfl rfl rfl (by decide) 0 (ci := 12) rfl rfl rfl hl.1 rfl (Nat.le_of_ble_eq_true rfl) dX12_digest_81 ⟨Nat.le_of_ble_eq_true rfl, Nat.le_of_ble_eq_true rfl⟩ (fun u_40 H locs hw_41 hP hD hS => ?_)
  refine W.widen (k := 0) (n := 0) (by decide) (by decide) ?_
  have hw_41 : u_40 = 32952152801 := (show u_40 = 31 * 1062972671 + 0 from hw_41).trans (by decide)
  subst hw_41
  have hP : va_P D classes [(mo, .inr (12, [.ref mpage, .int 0, .int 0, .int 0, .int 0, .int 0, .int 0, .int 0, .ref mkeys, .ref mvalues, .ref mheights, .ref mheats, .int 0, .ref msecondKeys, .ref msecondValues, .ref msecondHeights, .ref msecondHeats, .int 0, .int 0, .int 0, .int 0, .ref msaved, .ref mbestHeights, .int 0, .ref msights, .ref mby, .int 0, .int (-1), .int 0, .int 0, .int 0, .int 0, .int 0, .int 0, .ref mkeptKeys, .ref mkeptValues, .ref mkeptHeights, .ref mkeptHeats, .ref mkeptKeys2, .ref mkeptValues2, .ref mkeptHeights2, .ref mkeptHeats2, .ref mkeptSights, .long 32952152801]))] H := hP
  have hD : va_D A [(mo, .inr (12, [.ref mpage, .int 0, .int 0, .int 0, .int 0, .int 0, .int 0, .int 0, .ref mkeys, .ref mvalues, .ref mheights, .ref mheats, .int 0, .ref msecondKeys, .ref msecondValues, .ref msecondHeights, .ref msecondHeats, .int 0, .int 0, .int 0, .int 0, .ref msaved, .ref mbestHeights, .int 0, .ref msights, .ref mby, .int 0, .int (-1), .int 0, .int 0, .int 0, .int 0, .int 0, .int 0, .ref mkeptKeys, .ref mkeptValues, .ref mkeptHeights, .ref mkeptHeats, .ref mkeptKeys2, .ref mkeptValues2, .ref mkeptHeights2, .ref mkeptHeats2, .ref mkeptSights, .long 32952152801]))] := hD
  refine lv_iinc (v := 5) (lv' := [(1, .int 5), (0, .ref mo)]) hx hb dX12_digest_84 hl (k := 0) rfl (by decide) (by decide) rfl (fun ls hl => ?_)
  refine lv_goto (tgt := 68) hx hb dX12_digest_87 (by decide) ?_
  refine lv_iload_n hx hb dX12_digest_68 rfl (lv_at hl 0 rfl) ?_
  refine lv_bipush (v := 13) hx hb dX12_digest_69 (by decide) ?_
  refine lv_icmp_ge (tgt := 90) hx hb dX12_digest_71 (by decide) (fun c_42 => absurd c_42 (by decide)) (fun _ => ?_)
  refine lv_aload_n hx hb dX12_digest_74 rfl (lv_at hl 1 rfl) ?_
  refine lv_aload_n hx hb dX12_digest_75 rfl (lv_at hl 1 rfl) ?_
  refine lv_iload_n hx hb dX12_digest_76 rfl (lv_at hl 0 rfl) ?_
  refine wk_iV (As := [.int 5]) (rest := [.ref mo]) (wc := [(mo, .inr (12, [.ref mpage, .int 0, .int 0, .int 0, .int 0, .int 0, .int 0, .int 0, .ref mkeys, .ref mvalues, .ref mheights, .ref mheats, .int 0, .ref msecondKeys, .ref msecondValues, .ref msecondHeights, .ref msecondHeats, .int 0, .int 0, .int 0, .int 0, .ref msaved, .ref mbestHeights, .int 0, .ref msights, .ref mby, .int 0, .int (-1), .int 0, .int 0, .int 0, .int 0, .int 0, .int 0, .ref mkeptKeys, .ref mkeptValues, .ref mkeptHeights, .ref mkeptHeats, .ref mkeptKeys2, .ref mkeptValues2, .ref mkeptHeights2, .ref mkeptHeats2, .ref mkeptSights, .long 32952152801]))]) (wr := []) (n := 1) (R := _) ⟨hx, hb, hml, hown, htb⟩ (c_X12_countOf l D cy mo mpage mkeys mvalues mheights mheats msecondKeys msecondValues msecondHeights msecondHeats msaved mbestHeights msights mby mkeptKeys mkeptValues mkeptHeights mkeptHeats mkeptKeys2 mkeptValues2 mkeptHeights2 mkeptHeats2 mkeptSights 5 32952152801) tw_1190 tw_1187 tw_1189 tw_58 tw_71 rfl rfl (by decide +kernel) ⟨Nat.le_of_ble_eq_true rfl, Nat.le_of_ble_eq_true rfl⟩ hK hP hD hS hA [0] [] rfl rfl rfl rfl (by decide) 0 (ci := 12) rfl rfl rfl hl.1 rfl (Nat.le_of_ble_eq_true rfl) dX12_digest_77 ⟨Nat.le_of_ble_eq_true rfl, Nat.le_of_ble_eq_true rfl⟩ (fun r_43 u_44 H locs hw_45 hP hD hS => ?_)
  refine W.widen (k := 0) (n := 0) (by decide) (by decide) ?_
  have hw_45 : r_43 = if (0 ≤ (5 : Int32).toInt ∧ (5 : Int32).toInt ≤ 12) then 0 else (-102) := hw_45
  subst hw_45
  have hP : va_P D classes [(mo, .inr (12, [.ref mpage, .int 0, .int 0, .int 0, .int 0, .int 0, .int 0, .int 0, .ref mkeys, .ref mvalues, .ref mheights, .ref mheats, .int 0, .ref msecondKeys, .ref msecondValues, .ref msecondHeights, .ref msecondHeats, .int 0, .int 0, .int 0, .int 0, .ref msaved, .ref mbestHeights, .int 0, .ref msights, .ref mby, .int 0, .int (-1), .int 0, .int 0, .int 0, .int 0, .int 0, .int 0, .ref mkeptKeys, .ref mkeptValues, .ref mkeptHeights, .ref mkeptHeats, .ref mkeptKeys2, .ref mkeptValues2, .ref mkeptHeights2, .ref mkeptHeats2, .ref mkeptSights, .long 32952152801]))] H := hP
  have hD : va_D A [(mo, .inr (12, [.ref mpage, .int 0, .int 0, .int 0, .int 0, .int 0, .int 0, .int 0, .ref mkeys, .ref mvalues, .ref mheights, .ref mheats, .int 0, .ref msecondKeys, .ref msecondValues, .ref msecondHeights, .ref msecondHeats, .int 0, .int 0, .int 0, .int 0, .ref msaved, .ref mbestHeights, .int 0, .ref msights, .ref mby, .int 0, .int (-1), .int 0, .int 0, .int 0, .int 0, .int 0, .int 0, .ref mkeptKeys, .ref mkeptValues, .ref mkeptHeights, .ref mkeptHeats, .ref mkeptKeys2, .ref mkeptValues2, .ref mkeptHeights2, .ref mkeptHeats2, .ref mkeptSights, .long 32952152801]))] := hD
  refine wk_toi (show ((if (0 ≤ (5 : Int32).toInt ∧ (5 : Int32).toInt ≤ 12) then 0 else (-102)) : Int32) = 0 by decide) ?_
  refine lv_i2l (v := 0) hx hb dX12_digest_80 (by decide) ?_
  refine wk_vV (As := [.long 0]) (rest := []) (wc := [(mo, .inr (12, [.ref mpage, .int 0, .int 0, .int 0, .int 0, .int 0, .int 0, .int 0, .ref mkeys, .ref mvalues, .ref mheights, .ref mheats, .int 0, .ref msecondKeys, .ref msecondValues, .ref msecondHeights, .ref msecondHeats, .int 0, .int 0, .int 0, .int 0, .ref msaved, .ref mbestHeights, .int 0, .ref msights, .ref mby, .int 0, .int (-1), .int 0, .int 0, .int 0, .int 0, .int 0, .int 0, .ref mkeptKeys, .ref mkeptValues, .ref mkeptHeights, .ref mkeptHeats, .ref mkeptKeys2, .ref mkeptValues2, .ref mkeptHeights2, .ref mkeptHeats2, .ref mkeptSights, .long 32952152801]))]) (wr := []) (n := 1) (R := _) ⟨hx, hb, hml, hown, htb⟩ (c_X12_say l D cy mo mpage mkeys mvalues mheights mheats msecondKeys msecondValues msecondHeights msecondHeats msaved mbestHeights msights mby mkeptKeys mkeptValues mkeptHeights mkeptHeats mkeptKeys2 mkeptValues2 mkeptHeights2 mkeptHeats2 mkeptSights 32952152801 0) tw_1207 tw_1204 tw_1206 tw_61 tw_71 rfl rfl (by decide +kernel) ⟨Nat.le_of_ble_eq_true rfl, Nat.le_of_ble_eq_true rfl⟩ hK hP hD hS hA [0] [] rfl rfl rfl rfl (by decide) 0 (ci := 12) rfl rfl rfl hl.1 rfl (Nat.le_of_ble_eq_true rfl) dX12_digest_81 ⟨Nat.le_of_ble_eq_true rfl, Nat.le_of_ble_eq_true rfl⟩ (fun u_47 H locs hw_48 hP hD hS => ?_)
  refine W.widen (k := 0) (n := 0) (by decide) (by decide) ?_
  have hw_48 : u_47 = 1021516736831 := (show u_47 = 31 * 32952152801 + 0 from hw_48).trans (by decide)
  subst hw_48
  have hP : va_P D classes [(mo, .inr (12, [.ref mpage, .int 0, .int 0, .int 0, .int 0, .int 0, .int 0, .int 0, .ref mkeys, .ref mvalues, .ref mheights, .ref mheats, .int 0, .ref msecondKeys, .ref msecondValues, .ref msecondHeights, .ref msecondHeats, .int 0, .int 0, .int 0, .int 0, .ref msaved, .ref mbestHeights, .int 0, .ref msights, .ref mby, .int 0, .int (-1), .int 0, .int 0, .int 0, .int 0, .int 0, .int 0, .ref mkeptKeys, .ref mkeptValues, .ref mkeptHeights, .ref mkeptHeats, .ref mkeptKeys2, .ref mkeptValues2, .ref mkeptHeights2, .ref mkeptHeats2, .ref mkeptSights, .long 1021516736831]))] H := hP
  have hD : va_D A [(mo, .inr (12, [.ref mpage, .int 0, .int 0, .int 0, .int 0, .int 0, .int 0, .int 0, .ref mkeys, .ref mvalues, .ref mheights, .ref mheats, .int 0, .ref msecondKeys, .ref msecondValues, .ref msecondHeights, .ref msecondHeats, .int 0, .int 0, .int 0, .int 0, .ref msaved, .ref mbestHeights, .int 0, .ref msights, .ref mby, .int 0, .int (-1), .int 0, .int 0, .int 0, .int 0, .int 0, .int 0, .ref mkeptKeys, .ref mkeptValues, .ref mkeptHeights, .ref mkeptHeats, .ref mkeptKeys2, .ref mkeptValues2, .ref mkeptHeights2, .ref mkeptHeats2, .ref mkeptSights, .long 1021516736831]))] := hD
  refine lv_iinc (v := 6) (lv' := [(1, .int 6), (0, .ref mo)]) hx hb dX12_digest_84 hl (k := 0) rfl (by decide) (by decide) rfl (fun ls hl => ?_)
  refine lv_goto (tgt := 68) hx hb dX12_digest_87 (by decide) ?_
  refine lv_iload_n hx hb dX12_digest_68 rfl (lv_at hl 0 rfl) ?_
  refine lv_bipush (v := 13) hx hb dX12_digest_69 (by decide) ?_
  refine lv_icmp_ge (tgt := 90) hx hb dX12_digest_71 (by decide) (fun c_49 => absurd c_49 (by decide)) (fun _ => ?_)
  refine lv_aload_n hx hb dX12_digest_74 rfl (lv_at hl 1 rfl) ?_
  refine lv_aload_n hx hb dX12_digest_75 rfl (lv_at hl 1 rfl) ?_
  refine lv_iload_n hx hb dX12_digest_76 rfl (lv_at hl 0 rfl) ?_
  refine wk_iV (As := [.int 6]) (rest := [.ref mo]) (wc := [(mo, .inr (12, [.ref mpage, .int 0, .int 0, .int 0, .int 0, .int 0, .int 0, .int 0, .ref mkeys, .ref mvalues, .ref mheights, .ref mheats, .int 0, .ref msecondKeys, .ref msecondValues, .ref msecondHeights, .ref msecondHeats, .int 0, .int 0, .int 0, .int 0, .ref msaved, .ref mbestHeights, .int 0, .ref msights, .ref mby, .int 0, .int (-1), .int 0, .int 0, .int 0, .int 0, .int 0, .int 0, .ref mkeptKeys, .ref mkeptValues, .ref mkeptHeights, .ref mkeptHeats, .ref mkeptKeys2, .ref mkeptValues2, .ref mkeptHeights2, .ref mkeptHeats2, .ref mkeptSights, .long 1021516736831]))]) (wr := []) (n := 1) (R := _) ⟨hx, hb, hml, hown, htb⟩ (c_X12_countOf l D cy mo mpage mkeys mvalues mheights mheats msecondKeys msecondValues msecondHeights msecondHeats msaved mbestHeights msights mby mkeptKeys mkeptValues mkeptHeights mkeptHeats mkeptKeys2 mkeptValues2 mkeptHeights2 mkeptHeats2 mkeptSights 6 1021516736831) tw_1190 tw_1187 tw_1189 tw_58 tw_71 rfl rfl (by decide +kernel) ⟨Nat.le_of_ble_eq_true rfl, Nat.le_of_ble_eq_true rfl⟩ hK hP hD hS hA [0] [] rfl rfl rfl rfl (by decide) 0 (ci := 12) rfl rfl rfl hl.1 rfl (Nat.le_of_ble_eq_true rfl) dX12_digest_77 ⟨Nat.le_of_ble_eq_true rfl, Nat.le_of_ble_eq_true rfl⟩ (fun r_50 u_51 H locs hw_52 hP hD hS => ?_)
  refine W.widen (k := 0) (n := 0) (by decide) (by decide) ?_
  have hw_52 : r_50 = if (0 ≤ (6 : Int32).toInt ∧ (6 : Int32).toInt ≤ 12) then 0 else (-102) := hw_52
  subst hw_52
  have hP : va_P D classes [(mo, .inr (12, [.ref mpage, .int 0, .int 0, .int 0, .int 0, .int 0, .int 0, .int 0, .ref mkeys, .ref mvalues, .ref mheights, .ref mheats, .int 0, .ref msecondKeys, .ref msecondValues, .ref msecondHeights, .ref msecondHeats, .int 0, .int 0, .int 0, .int 0, .ref msaved, .ref mbestHeights, .int 0, .ref msights, .ref mby, .int 0, .int (-1), .int 0, .int 0, .int 0, .int 0, .int 0, .int 0, .ref mkeptKeys, .ref mkeptValues, .ref mkeptHeights, .ref mkeptHeats, .ref mkeptKeys2, .ref mkeptValues2, .ref mkeptHeights2, .ref mkeptHeats2, .ref mkeptSights, .long 1021516736831]))] H := hP
  have hD : va_D A [(mo, .inr (12, [.ref mpage, .int 0, .int 0, .int 0, .int 0, .int 0, .int 0, .int 0, .ref mkeys, .ref mvalues, .ref mheights, .ref mheats, .int 0, .ref msecondKeys, .ref msecondValues, .ref msecondHeights, .ref msecondHeats, .int 0, .int 0, .int 0, .int 0, .ref msaved, .ref mbestHeights, .int 0, .ref msights, .ref mby, .int 0, .int (-1), .int 0, .int 0, .int 0, .int 0, .int 0, .int 0, .ref mkeptKeys, .ref mkeptValues, .ref mkeptHeights, .ref mkeptHeats, .ref mkeptKeys2, .ref mkeptValues2, .ref mkeptHeights2, .ref mkeptHeats2, .ref mkeptSights, .long 1021516736831]))] := hD
  refine wk_toi (show ((if (0 ≤ (6 : Int32).toInt ∧ (6 : Int32).toInt ≤ 12) then 0 else (-102)) : Int32) = 0 by decide) ?_
  refine lv_i2l (v := 0) hx hb dX12_digest_80 (by decide) ?_
  refine wk_vV (As := [.long 0]) (rest := []) (wc := [(mo, .inr (12, [.ref mpage, .int 0, .int 0, .int 0, .int 0, .int 0, .int 0, .int 0, .ref mkeys, .ref mvalues, .ref mheights, .ref mheats, .int 0, .ref msecondKeys, .ref msecondValues, .ref msecondHeights, .ref msecondHeats, .int 0, .int 0, .int 0, .int 0, .ref msaved, .ref mbestHeights, .int 0, .ref msights, .ref mby, .int 0, .int (-1), .int 0, .int 0, .int 0, .int 0, .int 0, .int 0, .ref mkeptKeys, .ref mkeptValues, .ref mkeptHeights, .ref mkeptHeats, .ref mkeptKeys2, .ref mkeptValues2, .ref mkeptHeights2, .ref mkeptHeats2, .ref mkeptSights, .long 1021516736831]))]) (wr := []) (n := 1) (R := _) ⟨hx, hb, hml, hown, htb⟩ (c_X12_say l D cy mo mpage mkeys mvalues mheights mheats msecondKeys msecondValues msecondHeights msecondHeats msaved mbestHeights msights mby mkeptKeys mkeptValues mkeptHeights mkeptHeats mkeptKeys2 mkeptValues2 mkeptHeights2 mkeptHeats2 mkeptSights 1021516736831 0) tw_1207 tw_1204 tw_1206 tw_61 tw_71 rfl rfl (by decide +kernel) ⟨Nat.le_of_ble_eq_true rfl, Nat.le_of_ble_eq_true rfl⟩ hK hP hD hS hA [0] [] rfl rfl rfl rfl (by decide) 0 (ci := 12) rfl rfl rfl hl.1 rfl (Nat.le_of_ble_eq_true rfl) dX12_digest_81 ⟨Nat.le_of_ble_eq_true rfl, Nat.le_of_ble_eq_true rfl⟩ (fun u_54 H locs hw_55 hP hD hS => ?_)
  refine W.widen (k := 0) (n := 0) (by decide) (by decide) ?_
  have hw_55 : u_54 = 31667018841761 := (show u_54 = 31 * 1021516736831 + 0 from hw_55).trans (by decide)
  subst hw_55
  have hP : va_P D classes [(mo, .inr (12, [.ref mpage, .int 0, .int 0, .int 0, .int 0, .int 0, .int 0, .int 0, .ref mkeys, .ref mvalues, .ref mheights, .ref mheats, .int 0, .ref msecondKeys, .ref msecondValues, .ref msecondHeights, .ref msecondHeats, .int 0, .int 0, .int 0, .int 0, .ref msaved, .ref mbestHeights, .int 0, .ref msights, .ref mby, .int 0, .int (-1), .int 0, .int 0, .int 0, .int 0, .int 0, .int 0, .ref mkeptKeys, .ref mkeptValues, .ref mkeptHeights, .ref mkeptHeats, .ref mkeptKeys2, .ref mkeptValues2, .ref mkeptHeights2, .ref mkeptHeats2, .ref mkeptSights, .long 31667018841761]))] H := hP
  have hD : va_D A [(mo, .inr (12, [.ref mpage, .int 0, .int 0, .int 0, .int 0, .int 0, .int 0, .int 0, .ref mkeys, .ref mvalues, .ref mheights, .ref mheats, .int 0, .ref msecondKeys, .ref msecondValues, .ref msecondHeights, .ref msecondHeats, .int 0, .int 0, .int 0, .int 0, .ref msaved, .ref mbestHeights, .int 0, .ref msights, .ref mby, .int 0, .int (-1), .int 0, .int 0, .int 0, .int 0, .int 0, .int 0, .ref mkeptKeys, .ref mkeptValues, .ref mkeptHeights, .ref mkeptHeats, .ref mkeptKeys2, .ref mkeptValues2, .ref mkeptHeights2, .ref mkeptHeats2, .ref mkeptSights, .long 31667018841761]))] := hD
  refine lv_iinc (v := 7) (lv' := [(1, .int 7), (0, .ref mo)]) hx hb dX12_digest_84 hl (k := 0) rfl (by decide) (by decide) rfl (fun ls hl => ?_)
  refine lv_goto (tgt := 68) hx hb dX12_digest_87 (by decide) ?_
  refine lv_iload_n hx hb dX12_digest_68 rfl (lv_at hl 0 rfl) ?_
  refine lv_bipush (v := 13) hx hb dX12_digest_69 (by decide) ?_
  refine lv_icmp_ge (tgt := 90) hx hb dX12_digest_71 (by decide) (fun c_56 => absurd c_56 (by decide)) (fun _ => ?_)
  refine lv_aload_n hx hb dX12_digest_74 rfl (lv_at hl 1 rfl) ?_
  refine lv_aload_n hx hb dX12_digest_75 rfl (lv_at hl 1 rfl) ?_
  refine lv_iload_n hx hb dX12_digest_76 rfl (lv_at hl 0 rfl) ?_
  refine wk_iV (As := [.int 7]) (rest := [.ref mo]) (wc := [(mo, .inr (12, [.ref mpage, .int 0, .int 0, .int 0, .int 0, .int 0, .int 0, .int 0, .ref mkeys, .ref mvalues, .ref mheights, .ref mheats, .int 0, .ref msecondKeys, .ref msecondValues, .ref msecondHeights, .ref msecondHeats, .int 0, .int 0, .int 0, .int 0, .ref msaved, .ref mbestHeights, .int 0, .ref msights, .ref mby, .int 0, .int (-1), .int 0, .int 0, .int 0, .int 0, .int 0, .int 0, .ref mkeptKeys, .ref mkeptValues, .ref mkeptHeights, .ref mkeptHeats, .ref mkeptKeys2, .ref mkeptValues2, .ref mkeptHeights2, .ref mkeptHeats2, .ref mkeptSights, .long 31667018841761]))]) (wr := []) (n := 1) (R := _) ⟨hx, hb, hml, hown, htb⟩ (c_X12_countOf l D cy mo mpage mkeys mvalues mheights mheats msecondKeys msecondValues msecondHeights msecondHeats msaved mbestHeights msights mby mkeptKeys mkeptValues mkeptHeights mkeptHeats mkeptKeys2 mkeptValues2 mkeptHeights2 mkeptHeats2 mkeptSights 7 31667018841761) tw_1190 tw_1187 tw_1189 tw_58 tw_71 rfl rfl (by decide +kernel) ⟨Nat.le_of_ble_eq_true rfl, Nat.le_of_ble_eq_true rfl⟩ hK hP hD hS hA [0] [] rfl rfl rfl rfl (by decide) 0 (ci := 12) rfl rfl rfl hl.1 rfl (Nat.le_of_ble_eq_true rfl) dX12_digest_77 ⟨Nat.le_of_ble_eq_true rfl, Nat.le_of_ble_eq_true rfl⟩ (fun r_57 u_58 H locs hw_59 hP hD hS => ?_)
  refine W.widen (k := 0) (n := 0) (by decide) (by decide) ?_
  have hw_59 : r_57 = if (0 ≤ (7 : Int32).toInt ∧ (7 : Int32).toInt ≤ 12) then 0 else (-102) := hw_59
  subst hw_59
  have hP : va_P D classes [(mo, .inr (12, [.ref mpage, .int 0, .int 0, .int 0, .int 0, .int 0, .int 0, .int 0, .ref mkeys, .ref mvalues, .ref mheights, .ref mheats, .int 0, .ref msecondKeys, .ref msecondValues, .ref msecondHeights, .ref msecondHeats, .int 0, .int 0, .int 0, .int 0, .ref msaved, .ref mbestHeights, .int 0, .ref msights, .ref mby, .int 0, .int (-1), .int 0, .int 0, .int 0, .int 0, .int 0, .int 0, .ref mkeptKeys, .ref mkeptValues, .ref mkeptHeights, .ref mkeptHeats, .ref mkeptKeys2, .ref mkeptValues2, .ref mkeptHeights2, .ref mkeptHeats2, .ref mkeptSights, .long 31667018841761]))] H := hP
  have hD : va_D A [(mo, .inr (12, [.ref mpage, .int 0, .int 0, .int 0, .int 0, .int 0, .int 0, .int 0, .ref mkeys, .ref mvalues, .ref mheights, .ref mheats, .int 0, .ref msecondKeys, .ref msecondValues, .ref msecondHeights, .ref msecondHeats, .int 0, .int 0, .int 0, .int 0, .ref msaved, .ref mbestHeights, .int 0, .ref msights, .ref mby, .int 0, .int (-1), .int 0, .int 0, .int 0, .int 0, .int 0, .int 0, .ref mkeptKeys, .ref mkeptValues, .ref mkeptHeights, .ref mkeptHeats, .ref mkeptKeys2, .ref mkeptValues2, .ref mkeptHeights2, .ref mkeptHeats2, .ref mkeptSights, .long 31667018841761]))] := hD
  refine wk_toi (show ((if (0 ≤ (7 : Int32).toInt ∧ (7 : Int32).toInt ≤ 12) then 0 else (-102)) : Int32) = 0 by decide) ?_
  refine lv_i2l (v := 0) hx hb dX12_digest_80 (by decide) ?_
  refine wk_vV (As := [.long 0]) (rest := []) (wc := [(mo, .inr (12, [.ref mpage, .int 0, .int 0, .int 0, .int 0, .int 0, .int 0, .int 0, .ref mkeys, .ref mvalues, .ref mheights, .ref mheats, .int 0, .ref msecondKeys, .ref msecondValues, .ref msecondHeights, .ref msecondHeats, .int 0, .int 0, .int 0, .int 0, .ref msaved, .ref mbestHeights, .int 0, .ref msights, .ref mby, .int 0, .int (-1), .int 0, .int 0, .int 0, .int 0, .int 0, .int 0, .ref mkeptKeys, .ref mkeptValues, .ref mkeptHeights, .ref mkeptHeats, .ref mkeptKeys2, .ref mkeptValues2, .ref mkeptHeights2, .ref mkeptHeats2, .ref mkeptSights, .long 31667018841761]))]) (wr := []) (n := 1) (R := _) ⟨hx, hb, hml, hown, htb⟩ (c_X12_say l D cy mo mpage mkeys mvalues mheights mheats msecondKeys msecondValues msecondHeights msecondHeats msaved mbestHeights msights mby mkeptKeys mkeptValues mkeptHeights mkeptHeats mkeptKeys2 mkeptValues2 mkeptHeights2 mkeptHeats2 mkeptSights 31667018841761 0) tw_1207 tw_1204 tw_1206 tw_61 tw_71 rfl rfl (by decide +kernel) ⟨Nat.le_of_ble_eq_true rfl, Nat.le_of_ble_eq_true rfl⟩ hK hP hD hS hA [0] [] rfl rfl rfl rfl (by decide) 0 (ci := 12) rfl rfl rfl hl.1 rfl (Nat.le_of_ble_eq_true rfl) dX12_digest_81 ⟨Nat.le_of_ble_eq_true rfl, Nat.le_of_ble_eq_true rfl⟩ (fun u_61 H locs hw_62 hP hD hS => ?_)
  refine W.widen (k := 0) (n := 0) (by decide) (by decide) ?_
  have hw_62 : u_61 = 981677584094591 := (show u_61 = 31 * 31667018841761 + 0 from hw_62).trans (by decide)
  subst hw_62
  have hP : va_P D classes [(mo, .inr (12, [.ref mpage, .int 0, .int 0, .int 0, .int 0, .int 0, .int 0, .int 0, .ref mkeys, .ref mvalues, .ref mheights, .ref mheats, .int 0, .ref msecondKeys, .ref msecondValues, .ref msecondHeights, .ref msecondHeats, .int 0, .int 0, .int 0, .int 0, .ref msaved, .ref mbestHeights, .int 0, .ref msights, .ref mby, .int 0, .int (-1), .int 0, .int 0, .int 0, .int 0, .int 0, .int 0, .ref mkeptKeys, .ref mkeptValues, .ref mkeptHeights, .ref mkeptHeats, .ref mkeptKeys2, .ref mkeptValues2, .ref mkeptHeights2, .ref mkeptHeats2, .ref mkeptSights, .long 981677584094591]))] H := hP
  have hD : va_D A [(mo, .inr (12, [.ref mpage, .int 0, .int 0, .int 0, .int 0, .int 0, .int 0, .int 0, .ref mkeys, .ref mvalues, .ref mheights, .ref mheats, .int 0, .ref msecondKeys, .ref msecondValues, .ref msecondHeights, .ref msecondHeats, .int 0, .int 0, .int 0, .int 0, .ref msaved, .ref mbestHeights, .int 0, .ref msights, .ref mby, .int 0, .int (-1), .int 0, .int 0, .int 0, .int 0, .int 0, .int 0, .ref mkeptKeys, .ref mkeptValues, .ref mkeptHeights, .ref mkeptHeats, .ref mkeptKeys2, .ref mkeptValues2, .ref mkeptHeights2, .ref mkeptHeats2, .ref mkeptSights, .long 981677584094591]))] := hD
  refine lv_iinc (v := 8) (lv' := [(1, .int 8), (0, .ref mo)]) hx hb dX12_digest_84 hl (k := 0) rfl (by decide) (by decide) rfl (fun ls hl => ?_)
  refine lv_goto (tgt := 68) hx hb dX12_digest_87 (by decide) ?_
  refine lv_iload_n hx hb dX12_digest_68 rfl (lv_at hl 0 rfl) ?_
  refine lv_bipush (v := 13) hx hb dX12_digest_69 (by decide) ?_
  refine lv_icmp_ge (tgt := 90) hx hb dX12_digest_71 (by decide) (fun c_63 => absurd c_63 (by decide)) (fun _ => ?_)
  refine lv_aload_n hx hb dX12_digest_74 rfl (lv_at hl 1 rfl) ?_
  refine lv_aload_n hx hb dX12_digest_75 rfl (lv_at hl 1 rfl) ?_
  refine lv_iload_n hx hb dX12_digest_76 rfl (lv_at hl 0 rfl) ?_
  refine wk_iV (As := [.int 8]) (rest := [.ref mo]) (wc := [(mo, .inr (12, [.ref mpage, .int 0, .int 0, .int 0, .int 0, .int 0, .int 0, .int 0, .ref mkeys, .ref mvalues, .ref mheights, .ref mheats, .int 0, .ref msecondKeys, .ref msecondValues, .ref msecondHeights, .ref msecondHeats, .int 0, .int 0, .int 0, .int 0, .ref msaved, .ref mbestHeights, .int 0, .ref msights, .ref mby, .int 0, .int (-1), .int 0, .int 0, .int 0, .int 0, .int 0, .int 0, .ref mkeptKeys, .ref mkeptValues, .ref mkeptHeights, .ref mkeptHeats, .ref mkeptKeys2, .ref mkeptValues2, .ref mkeptHeights2, .ref mkeptHeats2, .ref mkeptSights, .long 981677584094591]))]) (wr := []) (n := 1) (R := _) ⟨hx, hb, hml, hown, htb⟩ (c_X12_countOf l D cy mo mpage mkeys mvalues mheights mheats msecondKeys msecondValues msecondHeights msecondHeats msaved mbestHeights msights mby mkeptKeys mkeptValues mkeptHeights mkeptHeats mkeptKeys2 mkeptValues2 mkeptHeights2 mkeptHeats2 mkeptSights 8 981677584094591) tw_1190 tw_1187 tw_1189 tw_58 tw_71 rfl rfl (by decide +kernel) ⟨Nat.le_of_ble_eq_true rfl, Nat.le_of_ble_eq_true rfl⟩ hK hP hD hS hA [0] [] rfl rfl rfl rfl (by decide) 0 (ci := 12) rfl rfl rfl hl.1 rfl (Nat.le_of_ble_eq_true rfl) dX12_digest_77 ⟨Nat.le_of_ble_eq_true rfl, Nat.le_of_ble_eq_true rfl⟩ (fun r_64 u_65 H locs hw_66 hP hD hS => ?_)
  refine W.widen (k := 0) (n := 0) (by decide) (by decide) ?_
  have hw_66 : r_64 = if (0 ≤ (8 : Int32).toInt ∧ (8 : Int32).toInt ≤ 12) then 0 else (-102) := hw_66
  subst hw_66
  have hP : va_P D classes [(mo, .inr (12, [.ref mpage, .int 0, .int 0, .int 0, .int 0, .int 0, .int 0, .int 0, .ref mkeys, .ref mvalues, .ref mheights, .ref mheats, .int 0, .ref msecondKeys, .ref msecondValues, .ref msecondHeights, .ref msecondHeats, .int 0, .int 0, .int 0, .int 0, .ref msaved, .ref mbestHeights, .int 0, .ref msights, .ref mby, .int 0, .int (-1), .int 0, .int 0, .int 0, .int 0, .int 0, .int 0, .ref mkeptKeys, .ref mkeptValues, .ref mkeptHeights, .ref mkeptHeats, .ref mkeptKeys2, .ref mkeptValues2, .ref mkeptHeights2, .ref mkeptHeats2, .ref mkeptSights, .long 981677584094591]))] H := hP
  have hD : va_D A [(mo, .inr (12, [.ref mpage, .int 0, .int 0, .int 0, .int 0, .int 0, .int 0, .int 0, .ref mkeys, .ref mvalues, .ref mheights, .ref mheats, .int 0, .ref msecondKeys, .ref msecondValues, .ref msecondHeights, .ref msecondHeats, .int 0, .int 0, .int 0, .int 0, .ref msaved, .ref mbestHeights, .int 0, .ref msights, .ref mby, .int 0, .int (-1), .int 0, .int 0, .int 0, .int 0, .int 0, .int 0, .ref mkeptKeys, .ref mkeptValues, .ref mkeptHeights, .ref mkeptHeats, .ref mkeptKeys2, .ref mkeptValues2, .ref mkeptHeights2, .ref mkeptHeats2, .ref mkeptSights, .long 981677584094591]))] := hD
  refine wk_toi (show ((if (0 ≤ (8 : Int32).toInt ∧ (8 : Int32).toInt ≤ 12) then 0 else (-102)) : Int32) = 0 by decide) ?_
  refine lv_i2l (v := 0) hx hb dX12_digest_80 (by decide) ?_
  refine wk_vV (As := [.long 0]) (rest := []) (wc := [(mo, .inr (12, [.ref mpage, .int 0, .int 0, .int 0, .int 0, .int 0, .int 0, .int 0, .ref mkeys, .ref mvalues, .ref mheights, .ref mheats, .int 0, .ref msecondKeys, .ref msecondValues, .ref msecondHeights, .ref msecondHeats, .int 0, .int 0, .int 0, .int 0, .ref msaved, .ref mbestHeights, .int 0, .ref msights, .ref mby, .int 0, .int (-1), .int 0, .int 0, .int 0, .int 0, .int 0, .int 0, .ref mkeptKeys, .ref mkeptValues, .ref mkeptHeights, .ref mkeptHeats, .ref mkeptKeys2, .ref mkeptValues2, .ref mkeptHeights2, .ref mkeptHeats2, .ref mkeptSights, .long 981677584094591]))]) (wr := []) (n := 1) (R := _) ⟨hx, hb, hml, hown, htb⟩ (c_X12_say l D cy mo mpage mkeys mvalues mheights mheats msecondKeys msecondValues msecondHeights msecondHeats msaved mbestHeights msights mby mkeptKeys mkeptValues mkeptHeights mkeptHeats mkeptKeys2 mkeptValues2 mkeptHeights2 mkeptHeats2 mkeptSights 981677584094591 0) tw_1207 tw_1204 tw_1206 tw_61 tw_71 rfl rfl (by decide +kernel) ⟨Nat.le_of_ble_eq_true rfl, Nat.le_of_ble_eq_true rfl⟩ hK hP hD hS hA [0] [] rfl rfl rfl rfl (by decide) 0 (ci := 12) rfl rfl rfl hl.1 rfl (Nat.le_of_ble_eq_true rfl) dX12_digest_81 ⟨Nat.le_of_ble_eq_true rfl, Nat.le_of_ble_eq_true rfl⟩ (fun u_68 H locs hw_69 hP hD hS => ?_)
  refine W.widen (k := 0) (n := 0) (by decide) (by decide) ?_
  have hw_69 : u_68 = 30432005106932321 := (show u_68 = 31 * 981677584094591 + 0 from hw_69).trans (by decide)
  subst hw_69
  have hP : va_P D classes [(mo, .inr (12, [.ref mpage, .int 0, .int 0, .int 0, .int 0, .int 0, .int 0, .int 0, .ref mkeys, .ref mvalues, .ref mheights, .ref mheats, .int 0, .ref msecondKeys, .ref msecondValues, .ref msecondHeights, .ref msecondHeats, .int 0, .int 0, .int 0, .int 0, .ref msaved, .ref mbestHeights, .int 0, .ref msights, .ref mby, .int 0, .int (-1), .int 0, .int 0, .int 0, .int 0, .int 0, .int 0, .ref mkeptKeys, .ref mkeptValues, .ref mkeptHeights, .ref mkeptHeats, .ref mkeptKeys2, .ref mkeptValues2, .ref mkeptHeights2, .ref mkeptHeats2, .ref mkeptSights, .long 30432005106932321]))] H := hP
  have hD : va_D A [(mo, .inr (12, [.ref mpage, .int 0, .int 0, .int 0, .int 0, .int 0, .int 0, .int 0, .ref mkeys, .ref mvalues, .ref mheights, .ref mheats, .int 0, .ref msecondKeys, .ref msecondValues, .ref msecondHeights, .ref msecondHeats, .int 0, .int 0, .int 0, .int 0, .ref msaved, .ref mbestHeights, .int 0, .ref msights, .ref mby, .int 0, .int (-1), .int 0, .int 0, .int 0, .int 0, .int 0, .int 0, .ref mkeptKeys, .ref mkeptValues, .ref mkeptHeights, .ref mkeptHeats, .ref mkeptKeys2, .ref mkeptValues2, .ref mkeptHeights2, .ref mkeptHeats2, .ref mkeptSights, .long 30432005106932321]))] := hD
  refine lv_iinc (v := 9) (lv' := [(1, .int 9), (0, .ref mo)]) hx hb dX12_digest_84 hl (k := 0) rfl (by decide) (by decide) rfl (fun ls hl => ?_)
  refine lv_goto (tgt := 68) hx hb dX12_digest_87 (by decide) ?_
  refine lv_iload_n hx hb dX12_digest_68 rfl (lv_at hl 0 rfl) ?_
  refine lv_bipush (v := 13) hx hb dX12_digest_69 (by decide) ?_
  refine lv_icmp_ge (tgt := 90) hx hb dX12_digest_71 (by decide) (fun c_70 => absurd c_70 (by decide)) (fun _ => ?_)
  refine lv_aload_n hx hb dX12_digest_74 rfl (lv_at hl 1 rfl) ?_
  refine lv_aload_n hx hb dX12_digest_75 rfl (lv_at hl 1 rfl) ?_
  refine lv_iload_n hx hb dX12_digest_76 rfl (lv_at hl 0 rfl) ?_
  refine wk_iV (As := [.int 9]) (rest := [.ref mo]) (wc := [(mo, .inr (12, [.ref mpage, .int 0, .int 0, .int 0, .int 0, .int 0, .int 0, .int 0, .ref mkeys, .ref mvalues, .ref mheights, .ref mheats, .int 0, .ref msecondKeys, .ref msecondValues, .ref msecondHeights, .ref msecondHeats, .int 0, .int 0, .int 0, .int 0, .ref msaved, .ref mbestHeights, .int 0, .ref msights, .ref mby, .int 0, .int (-1), .int 0, .int 0, .int 0, .int 0, .int 0, .int 0, .ref mkeptKeys, .ref mkeptValues, .ref mkeptHeights, .ref mkeptHeats, .ref mkeptKeys2, .ref mkeptValues2, .ref mkeptHeights2, .ref mkeptHeats2, .ref mkeptSights, .long 30432005106932321]))]) (wr := []) (n := 1) (R := _) ⟨hx, hb, hml, hown, htb⟩ (c_X12_countOf l D cy mo mpage mkeys mvalues mheights mheats msecondKeys msecondValues msecondHeights msecondHeats msaved mbestHeights msights mby mkeptKeys mkeptValues mkeptHeights mkeptHeats mkeptKeys2 mkeptValues2 mkeptHeights2 mkeptHeats2 mkeptSights 9 30432005106932321) tw_1190 tw_1187 tw_1189 tw_58 tw_71 rfl rfl (by decide +kernel) ⟨Nat.le_of_ble_eq_true rfl, Nat.le_of_ble_eq_true rfl⟩ hK hP hD hS hA [0] [] rfl rfl rfl rfl (by decide) 0 (ci := 12) rfl rfl rfl hl.1 rfl (Nat.le_of_ble_eq_true rfl) dX12_digest_77 ⟨Nat.le_of_ble_eq_true rfl, Nat.le_of_ble_eq_true rfl⟩ (fun r_71 u_72 H locs hw_73 hP hD hS => ?_)
  refine W.widen (k := 0) (n := 0) (by decide) (by decide) ?_
  have hw_73 : r_71 = if (0 ≤ (9 : Int32).toInt ∧ (9 : Int32).toInt ≤ 12) then 0 else (-102) := hw_73
  subst hw_73
  have hP : va_P D classes [(mo, .inr (12, [.ref mpage, .int 0, .int 0, .int 0, .int 0, .int 0, .int 0, .int 0, .ref mkeys, .ref mvalues, .ref mheights, .ref mheats, .int 0, .ref msecondKeys, .ref msecondValues, .ref msecondHeights, .ref msecondHeats, .int 0, .int 0, .int 0, .int 0, .ref msaved, .ref mbestHeights, .int 0, .ref msights, .ref mby, .int 0, .int (-1), .int 0, .int 0, .int 0, .int 0, .int 0, .int 0, .ref mkeptKeys, .ref mkeptValues, .ref mkeptHeights, .ref mkeptHeats, .ref mkeptKeys2, .ref mkeptValues2, .ref mkeptHeights2, .ref mkeptHeats2, .ref mkeptSights, .long 30432005106932321]))] H := hP
  have hD : va_D A [(mo, .inr (12, [.ref mpage, .int 0, .int 0, .int 0, .int 0, .int 0, .int 0, .int 0, .ref mkeys, .ref mvalues, .ref mheights, .ref mheats, .int 0, .ref msecondKeys, .ref msecondValues, .ref msecondHeights, .ref msecondHeats, .int 0, .int 0, .int 0, .int 0, .ref msaved, .ref mbestHeights, .int 0, .ref msights, .ref mby, .int 0, .int (-1), .int 0, .int 0, .int 0, .int 0, .int 0, .int 0, .ref mkeptKeys, .ref mkeptValues, .ref mkeptHeights, .ref mkeptHeats, .ref mkeptKeys2, .ref mkeptValues2, .ref mkeptHeights2, .ref mkeptHeats2, .ref mkeptSights, .long 30432005106932321]))] := hD
  refine wk_toi (show ((if (0 ≤ (9 : Int32).toInt ∧ (9 : Int32).toInt ≤ 12) then 0 else (-102)) : Int32) = 0 by decide) ?_
  refine lv_i2l (v := 0) hx hb dX12_digest_80 (by decide) ?_
  refine wk_vV (As := [.long 0]) (rest := []) (wc := [(mo, .inr (12, [.ref mpage, .int 0, .int 0, .int 0, .int 0, .int 0, .int 0, .int 0, .ref mkeys, .ref mvalues, .ref mheights, .ref mheats, .int 0, .ref msecondKeys, .ref msecondValues, .ref msecondHeights, .ref msecondHeats, .int 0, .int 0, .int 0, .int 0, .ref msaved, .ref mbestHeights, .int 0, .ref msights, .ref mby, .int 0, .int (-1), .int 0, .int 0, .int 0, .int 0, .int 0, .int 0, .ref mkeptKeys, .ref mkeptValues, .ref mkeptHeights, .ref mkeptHeats, .ref mkeptKeys2, .ref mkeptValues2, .ref mkeptHeights2, .ref mkeptHeats2, .ref mkeptSights, .long 30432005106932321]))]) (wr := []) (n := 1) (R := _) ⟨hx, hb, hml, hown, htb⟩ (c_X12_say l D cy mo mpage mkeys mvalues mheights mheats msecondKeys msecondValues msecondHeights msecondHeats msaved mbestHeights msights mby mkeptKeys mkeptValues mkeptHeights mkeptHeats mkeptKeys2 mkeptValues2 mkeptHeights2 mkeptHeats2 mkeptSights 30432005106932321 0) tw_1207 tw_1204 tw_1206 tw_61 tw_71 rfl rfl (by decide +kernel) ⟨Nat.le_of_ble_eq_true rfl, Nat.le_of_ble_eq_true rfl⟩ hK hP hD hS hA [0] [] rfl rfl rfl rfl (by decide) 0 (ci := 12) rfl rfl rfl hl.1 rfl (Nat.le_of_ble_eq_true rfl) dX12_digest_81 ⟨Nat.le_of_ble_eq_true rfl, Nat.le_of_ble_eq_true rfl⟩ (fun u_75 H locs hw_76 hP hD hS => ?_)
  refine W.widen (k := 0) (n := 0) (by decide) (by decide) ?_
  have hw_76 : u_75 = 943392158314901951 := (show u_75 = 31 * 30432005106932321 + 0 from hw_76).trans (by decide)
  subst hw_76
  have hP : va_P D classes [(mo, .inr (12, [.ref mpage, .int 0, .int 0, .int 0, .int 0, .int 0, .int 0, .int 0, .ref mkeys, .ref mvalues, .ref mheights, .ref mheats, .int 0, .ref msecondKeys, .ref msecondValues, .ref msecondHeights, .ref msecondHeats, .int 0, .int 0, .int 0, .int 0, .ref msaved, .ref mbestHeights, .int 0, .ref msights, .ref mby, .int 0, .int (-1), .int 0, .int 0, .int 0, .int 0, .int 0, .int 0, .ref mkeptKeys, .ref mkeptValues, .ref mkeptHeights, .ref mkeptHeats, .ref mkeptKeys2, .ref mkeptValues2, .ref mkeptHeights2, .ref mkeptHeats2, .ref mkeptSights, .long 943392158314901951]))] H := hP
  have hD : va_D A [(mo, .inr (12, [.ref mpage, .int 0, .int 0, .int 0, .int 0, .int 0, .int 0, .int 0, .ref mkeys, .ref mvalues, .ref mheights, .ref mheats, .int 0, .ref msecondKeys, .ref msecondValues, .ref msecondHeights, .ref msecondHeats, .int 0, .int 0, .int 0, .int 0, .ref msaved, .ref mbestHeights, .int 0, .ref msights, .ref mby, .int 0, .int (-1), .int 0, .int 0, .int 0, .int 0, .int 0, .int 0, .ref mkeptKeys, .ref mkeptValues, .ref mkeptHeights, .ref mkeptHeats, .ref mkeptKeys2, .ref mkeptValues2, .ref mkeptHeights2, .ref mkeptHeats2, .ref mkeptSights, .long 943392158314901951]))] := hD
  refine lv_iinc (v := 10) (lv' := [(1, .int 10), (0, .ref mo)]) hx hb dX12_digest_84 hl (k := 0) rfl (by decide) (by decide) rfl (fun ls hl => ?_)
  refine lv_goto (tgt := 68) hx hb dX12_digest_87 (by decide) ?_
  refine lv_iload_n hx hb dX12_digest_68 rfl (lv_at hl 0 rfl) ?_
  refine lv_bipush (v := 13) hx hb dX12_digest_69 (by decide) ?_
  refine lv_icmp_ge (tgt := 90) hx hb dX12_digest_71 (by decide) (fun c_77 => absurd c_77 (by decide)) (fun _ => ?_)
  refine lv_aload_n hx hb dX12_digest_74 rfl (lv_at hl 1 rfl) ?_
  refine lv_aload_n hx hb dX12_digest_75 rfl (lv_at hl 1 rfl) ?_
  refine lv_iload_n hx hb dX12_digest_76 rfl (lv_at hl 0 rfl) ?_
  refine wk_iV (As := [.int 10]) (rest := [.ref mo]) (wc := [(mo, .inr (12, [.ref mpage, .int 0, .int 0, .int 0, .int 0, .int 0, .int 0, .int 0, .ref mkeys, .ref mvalues, .ref mheights, .ref mheats, .int 0, .ref msecondKeys, .ref msecondValues, .ref msecondHeights, .ref msecondHeats, .int 0, .int 0, .int 0, .int 0, .ref msaved, .ref mbestHeights, .int 0, .ref msights, .ref mby, .int 0, .int (-1), .int 0, .int 0, .int 0, .int 0, .int 0, .int 0, .ref mkeptKeys, .ref mkeptValues, .ref mkeptHeights, .ref mkeptHeats, .ref mkeptKeys2, .ref mkeptValues2, .ref mkeptHeights2, .ref mkeptHeats2, .ref mkeptSights, .long 943392158314901951]))]) (wr := []) (n := 1) (R := _) ⟨hx, hb, hml, hown, htb⟩ (c_X12_countOf l D cy mo mpage mkeys mvalues mheights mheats msecondKeys msecondValues msecondHeights msecondHeats msaved mbestHeights msights mby mkeptKeys mkeptValues mkeptHeights mkeptHeats mkeptKeys2 mkeptValues2 mkeptHeights2 mkeptHeats2 mkeptSights 10 943392158314901951) tw_1190 tw_1187 tw_1189 tw_58 tw_71 rfl rfl (by decide +kernel) ⟨Nat.le_of_ble_eq_true rfl, Nat.le_of_ble_eq_true rfl⟩ hK hP hD hS hA [0] [] rfl rfl rfl rfl (by decide) 0 (ci := 12) rfl rfl rfl hl.1 rfl (Nat.le_of_ble_eq_true rfl) dX12_digest_77 ⟨Nat.le_of_ble_eq_true rfl, Nat.le_of_ble_eq_true rfl⟩ (fun r_78 u_79 H locs hw_80 hP hD hS => ?_)
  refine W.widen (k := 0) (n := 0) (by decide) (by decide) ?_
  have hw_80 : r_78 = if (0 ≤ (10 : Int32).toInt ∧ (10 : Int32).toInt ≤ 12) then 0 else (-102) := hw_80
  subst hw_80
  have hP : va_P D classes [(mo, .inr (12, [.ref mpage, .int 0, .int 0, .int 0, .int 0, .int 0, .int 0, .int 0, .ref mkeys, .ref mvalues, .ref mheights, .ref mheats, .int 0, .ref msecondKeys, .ref msecondValues, .ref msecondHeights, .ref msecondHeats, .int 0, .int 0, .int 0, .int 0, .ref msaved, .ref mbestHeights, .int 0, .ref msights, .ref mby, .int 0, .int (-1), .int 0, .int 0, .int 0, .int 0, .int 0, .int 0, .ref mkeptKeys, .ref mkeptValues, .ref mkeptHeights, .ref mkeptHeats, .ref mkeptKeys2, .ref mkeptValues2, .ref mkeptHeights2, .ref mkeptHeats2, .ref mkeptSights, .long 943392158314901951]))] H := hP
  have hD : va_D A [(mo, .inr (12, [.ref mpage, .int 0, .int 0, .int 0, .int 0, .int 0, .int 0, .int 0, .ref mkeys, .ref mvalues, .ref mheights, .ref mheats, .int 0, .ref msecondKeys, .ref msecondValues, .ref msecondHeights, .ref msecondHeats, .int 0, .int 0, .int 0, .int 0, .ref msaved, .ref mbestHeights, .int 0, .ref msights, .ref mby, .int 0, .int (-1), .int 0, .int 0, .int 0, .int 0, .int 0, .int 0, .ref mkeptKeys, .ref mkeptValues, .ref mkeptHeights, .ref mkeptHeats, .ref mkeptKeys2, .ref mkeptValues2, .ref mkeptHeights2, .ref mkeptHeats2, .ref mkeptSights, .long 943392158314901951]))] := hD
  refine wk_toi (show ((if (0 ≤ (10 : Int32).toInt ∧ (10 : Int32).toInt ≤ 12) then 0 else (-102)) : Int32) = 0 by decide) ?_
  refine lv_i2l (v := 0) hx hb dX12_digest_80 (by decide) ?_
  refine wk_vV (As := [.long 0]) (rest := []) (wc := [(mo, .inr (12, [.ref mpage, .int 0, .int 0, .int 0, .int 0, .int 0, .int 0, .int 0, .ref mkeys, .ref mvalues, .ref mheights, .ref mheats, .int 0, .ref msecondKeys, .ref msecondValues, .ref msecondHeights, .ref msecondHeats, .int 0, .int 0, .int 0, .int 0, .ref msaved, .ref mbestHeights, .int 0, .ref msights, .ref mby, .int 0, .int (-1), .int 0, .int 0, .int 0, .int 0, .int 0, .int 0, .ref mkeptKeys, .ref mkeptValues, .ref mkeptHeights, .ref mkeptHeats, .ref mkeptKeys2, .ref mkeptValues2, .ref mkeptHeights2, .ref mkeptHeats2, .ref mkeptSights, .long 943392158314901951]))]) (wr := []) (n := 1) (R := _) ⟨hx, hb, hml, hown, htb⟩ (c_X12_say l D cy mo mpage mkeys mvalues mheights mheats msecondKeys msecondValues msecondHeights msecondHeats msaved mbestHeights msights mby mkeptKeys mkeptValues mkeptHeights mkeptHeats mkeptKeys2 mkeptValues2 mkeptHeights2 mkeptHeats2 mkeptSights 943392158314901951 0) tw_1207 tw_1204 tw_1206 tw_61 tw_71 rfl rfl (by decide +kernel) ⟨Nat.le_of_ble_eq_true rfl, Nat.le_of_ble_eq_true rfl⟩ hK hP hD hS hA [0] [] rfl rfl rfl rfl (by decide) 0 (ci := 12) rfl rfl rfl hl.1 rfl (Nat.le_of_ble_eq_true rfl) dX12_digest_81 ⟨Nat.le_of_ble_eq_true rfl, Nat.le_of_ble_eq_true rfl⟩ (fun u_82 H locs hw_83 hP hD hS => ?_)
  refine W.widen (k := 0) (n := 0) (by decide) (by decide) ?_
  have hw_83 : u_82 = (-7648331239657142751) := (show u_82 = 31 * 943392158314901951 + 0 from hw_83).trans (by decide)
  subst hw_83
  have hP : va_P D classes [(mo, .inr (12, [.ref mpage, .int 0, .int 0, .int 0, .int 0, .int 0, .int 0, .int 0, .ref mkeys, .ref mvalues, .ref mheights, .ref mheats, .int 0, .ref msecondKeys, .ref msecondValues, .ref msecondHeights, .ref msecondHeats, .int 0, .int 0, .int 0, .int 0, .ref msaved, .ref mbestHeights, .int 0, .ref msights, .ref mby, .int 0, .int (-1), .int 0, .int 0, .int 0, .int 0, .int 0, .int 0, .ref mkeptKeys, .ref mkeptValues, .ref mkeptHeights, .ref mkeptHeats, .ref mkeptKeys2, .ref mkeptValues2, .ref mkeptHeights2, .ref mkeptHeats2, .ref mkeptSights, .long (-7648331239657142751)]))] H := hP
  have hD : va_D A [(mo, .inr (12, [.ref mpage, .int 0, .int 0, .int 0, .int 0, .int 0, .int 0, .int 0, .ref mkeys, .ref mvalues, .ref mheights, .ref mheats, .int 0, .ref msecondKeys, .ref msecondValues, .ref msecondHeights, .ref msecondHeats, .int 0, .int 0, .int 0, .int 0, .ref msaved, .ref mbestHeights, .int 0, .ref msights, .ref mby, .int 0, .int (-1), .int 0, .int 0, .int 0, .int 0, .int 0, .int 0, .ref mkeptKeys, .ref mkeptValues, .ref mkeptHeights, .ref mkeptHeats, .ref mkeptKeys2, .ref mkeptValues2, .ref mkeptHeights2, .ref mkeptHeats2, .ref mkeptSights, .long (-7648331239657142751)]))] := hD
  refine lv_iinc (v := 11) (lv' := [(1, .int 11), (0, .ref mo)]) hx hb dX12_digest_84 hl (k := 0) rfl (by decide) (by decide) rfl (fun ls hl => ?_)
  refine lv_goto (tgt := 68) hx hb dX12_digest_87 (by decide) ?_
  refine lv_iload_n hx hb dX12_digest_68 rfl (lv_at hl 0 rfl) ?_
  refine lv_bipush (v := 13) hx hb dX12_digest_69 (by decide) ?_
  refine lv_icmp_ge (tgt := 90) hx hb dX12_digest_71 (by decide) (fun c_84 => absurd c_84 (by decide)) (fun _ => ?_)
  refine lv_aload_n hx hb dX12_digest_74 rfl (lv_at hl 1 rfl) ?_
  refine lv_aload_n hx hb dX12_digest_75 rfl (lv_at hl 1 rfl) ?_
  refine lv_iload_n hx hb dX12_digest_76 rfl (lv_at hl 0 rfl) ?_
  refine wk_iV (As := [.int 11]) (rest := [.ref mo]) (wc := [(mo, .inr (12, [.ref mpage, .int 0, .int 0, .int 0, .int 0, .int 0, .int 0, .int 0, .ref mkeys, .ref mvalues, .ref mheights, .ref mheats, .int 0, .ref msecondKeys, .ref msecondValues, .ref msecondHeights, .ref msecondHeats, .int 0, .int 0, .int 0, .int 0, .ref msaved, .ref mbestHeights, .int 0, .ref msights, .ref mby, .int 0, .int (-1), .int 0, .int 0, .int 0, .int 0, .int 0, .int 0, .ref mkeptKeys, .ref mkeptValues, .ref mkeptHeights, .ref mkeptHeats, .ref mkeptKeys2, .ref mkeptValues2, .ref mkeptHeights2, .ref mkeptHeats2, .ref mkeptSights, .long (-7648331239657142751)]))]) (wr := []) (n := 1) (R := _) ⟨hx, hb, hml, hown, htb⟩ (c_X12_countOf l D cy mo mpage mkeys mvalues mheights mheats msecondKeys msecondValues msecondHeights msecondHeats msaved mbestHeights msights mby mkeptKeys mkeptValues mkeptHeights mkeptHeats mkeptKeys2 mkeptValues2 mkeptHeights2 mkeptHeats2 mkeptSights 11 (-7648331239657142751)) tw_1190 tw_1187 tw_1189 tw_58 tw_71 rfl rfl (by decide +kernel) ⟨Nat.le_of_ble_eq_true rfl, Nat.le_of_ble_eq_true rfl⟩ hK hP hD hS hA [0] [] rfl rfl rfl rfl (by decide) 0 (ci := 12) rfl rfl rfl hl.1 rfl (Nat.le_of_ble_eq_true rfl) dX12_digest_77 ⟨Nat.le_of_ble_eq_true rfl, Nat.le_of_ble_eq_true rfl⟩ (fun r_85 u_86 H locs hw_87 hP hD hS => ?_)
  refine W.widen (k := 0) (n := 0) (by decide) (by decide) ?_
  have hw_87 : r_85 = if (0 ≤ (11 : Int32).toInt ∧ (11 : Int32).toInt ≤ 12) then 0 else (-102) := hw_87
  subst hw_87
  have hP : va_P D classes [(mo, .inr (12, [.ref mpage, .int 0, .int 0, .int 0, .int 0, .int 0, .int 0, .int 0, .ref mkeys, .ref mvalues, .ref mheights, .ref mheats, .int 0, .ref msecondKeys, .ref msecondValues, .ref msecondHeights, .ref msecondHeats, .int 0, .int 0, .int 0, .int 0, .ref msaved, .ref mbestHeights, .int 0, .ref msights, .ref mby, .int 0, .int (-1), .int 0, .int 0, .int 0, .int 0, .int 0, .int 0, .ref mkeptKeys, .ref mkeptValues, .ref mkeptHeights, .ref mkeptHeats, .ref mkeptKeys2, .ref mkeptValues2, .ref mkeptHeights2, .ref mkeptHeats2, .ref mkeptSights, .long (-7648331239657142751)]))] H := hP
  have hD : va_D A [(mo, .inr (12, [.ref mpage, .int 0, .int 0, .int 0, .int 0, .int 0, .int 0, .int 0, .ref mkeys, .ref mvalues, .ref mheights, .ref mheats, .int 0, .ref msecondKeys, .ref msecondValues, .ref msecondHeights, .ref msecondHeats, .int 0, .int 0, .int 0, .int 0, .ref msaved, .ref mbestHeights, .int 0, .ref msights, .ref mby, .int 0, .int (-1), .int 0, .int 0, .int 0, .int 0, .int 0, .int 0, .ref mkeptKeys, .ref mkeptValues, .ref mkeptHeights, .ref mkeptHeats, .ref mkeptKeys2, .ref mkeptValues2, .ref mkeptHeights2, .ref mkeptHeats2, .ref mkeptSights, .long (-7648331239657142751)]))] := hD
  refine wk_toi (show ((if (0 ≤ (11 : Int32).toInt ∧ (11 : Int32).toInt ≤ 12) then 0 else (-102)) : Int32) = 0 by decide) ?_
  refine lv_i2l (v := 0) hx hb dX12_digest_80 (by decide) ?_
  refine wk_vV (As := [.long 0]) (rest := []) (wc := [(mo, .inr (12, [.ref mpage, .int 0, .int 0, .int 0, .int 0, .int 0, .int 0, .int 0, .ref mkeys, .ref mvalues, .ref mheights, .ref mheats, .int 0, .ref msecondKeys, .ref msecondValues, .ref msecondHeights, .ref msecondHeats, .int 0, .int 0, .int 0, .int 0, .ref msaved, .ref mbestHeights, .int 0, .ref msights, .ref mby, .int 0, .int (-1), .int 0, .int 0, .int 0, .int 0, .int 0, .int 0, .ref mkeptKeys, .ref mkeptValues, .ref mkeptHeights, .ref mkeptHeats, .ref mkeptKeys2, .ref mkeptValues2, .ref mkeptHeights2, .ref mkeptHeats2, .ref mkeptSights, .long (-7648331239657142751)]))]) (wr := []) (n := 1) (R := _) ⟨hx, hb, hml, hown, htb⟩ (c_X12_say l D cy mo mpage mkeys mvalues mheights mheats msecondKeys msecondValues msecondHeights msecondHeats msaved mbestHeights msights mby mkeptKeys mkeptValues mkeptHeights mkeptHeats mkeptKeys2 mkeptValues2 mkeptHeights2 mkeptHeats2 mkeptSights (-7648331239657142751) 0) tw_1207 tw_1204 tw_1206 tw_61 tw_71 rfl rfl (by decide +kernel) ⟨Nat.le_of_ble_eq_true rfl, Nat.le_of_ble_eq_true rfl⟩ hK hP hD hS hA [0] [] rfl rfl rfl rfl (by decide) 0 (ci := 12) rfl rfl rfl hl.1 rfl (Nat.le_of_ble_eq_true rfl) dX12_digest_81 ⟨Nat.le_of_ble_eq_true rfl, Nat.le_of_ble_eq_true rfl⟩ (fun u_89 H locs hw_90 hP hD hS => ?_)
  refine W.widen (k := 0) (n := 0) (by decide) (by decide) ?_
  have hw_90 : u_89 = 2709404528852745727 := (show u_89 = 31 * (-7648331239657142751) + 0 from hw_90).trans (by decide)
  subst hw_90
  have hP : va_P D classes [(mo, .inr (12, [.ref mpage, .int 0, .int 0, .int 0, .int 0, .int 0, .int 0, .int 0, .ref mkeys, .ref mvalues, .ref mheights, .ref mheats, .int 0, .ref msecondKeys, .ref msecondValues, .ref msecondHeights, .ref msecondHeats, .int 0, .int 0, .int 0, .int 0, .ref msaved, .ref mbestHeights, .int 0, .ref msights, .ref mby, .int 0, .int (-1), .int 0, .int 0, .int 0, .int 0, .int 0, .int 0, .ref mkeptKeys, .ref mkeptValues, .ref mkeptHeights, .ref mkeptHeats, .ref mkeptKeys2, .ref mkeptValues2, .ref mkeptHeights2, .ref mkeptHeats2, .ref mkeptSights, .long 2709404528852745727]))] H := hP
  have hD : va_D A [(mo, .inr (12, [.ref mpage, .int 0, .int 0, .int 0, .int 0, .int 0, .int 0, .int 0, .ref mkeys, .ref mvalues, .ref mheights, .ref mheats, .int 0, .ref msecondKeys, .ref msecondValues, .ref msecondHeights, .ref msecondHeats, .int 0, .int 0, .int 0, .int 0, .ref msaved, .ref mbestHeights, .int 0, .ref msights, .ref mby, .int 0, .int (-1), .int 0, .int 0, .int 0, .int 0, .int 0, .int 0, .ref mkeptKeys, .ref mkeptValues, .ref mkeptHeights, .ref mkeptHeats, .ref mkeptKeys2, .ref mkeptValues2, .ref mkeptHeights2, .ref mkeptHeats2, .ref mkeptSights, .long 2709404528852745727]))] := hD
  refine lv_iinc (v := 12) (lv' := [(1, .int 12), (0, .ref mo)]) hx hb dX12_digest_84 hl (k := 0) rfl (by decide) (by decide) rfl (fun ls hl => ?_)
  refine lv_goto (tgt := 68) hx hb dX12_digest_87 (by decide) ?_
  refine lv_iload_n hx hb dX12_digest_68 rfl (lv_at hl 0 rfl) ?_
  refine lv_bipush (v := 13) hx hb dX12_digest_69 (by decide) ?_
  refine lv_icmp_ge (tgt := 90) hx hb dX12_digest_71 (by decide) (fun c_91 => absurd c_91 (by decide)) (fun _ => ?_)
  refine lv_aload_n hx hb dX12_digest_74 rfl (lv_at hl 1 rfl) ?_
  refine lv_aload_n hx hb dX12_digest_75 rfl (lv_at hl 1 rfl) ?_
  refine lv_iload_n hx hb dX12_digest_76 rfl (lv_at hl 0 rfl) ?_
  refine wk_iV (As := [.int 12]) (rest := [.ref mo]) (wc := [(mo, .inr (12, [.ref mpage, .int 0, .int 0, .int 0, .int 0, .int 0, .int 0, .int 0, .ref mkeys, .ref mvalues, .ref mheights, .ref mheats, .int 0, .ref msecondKeys, .ref msecondValues, .ref msecondHeights, .ref msecondHeats, .int 0, .int 0, .int 0, .int 0, .ref msaved, .ref mbestHeights, .int 0, .ref msights, .ref mby, .int 0, .int (-1), .int 0, .int 0, .int 0, .int 0, .int 0, .int 0, .ref mkeptKeys, .ref mkeptValues, .ref mkeptHeights, .ref mkeptHeats, .ref mkeptKeys2, .ref mkeptValues2, .ref mkeptHeights2, .ref mkeptHeats2, .ref mkeptSights, .long 2709404528852745727]))]) (wr := []) (n := 1) (R := _) ⟨hx, hb, hml, hown, htb⟩ (c_X12_countOf l D cy mo mpage mkeys mvalues mheights mheats msecondKeys msecondValues msecondHeights msecondHeats msaved mbestHeights msights mby mkeptKeys mkeptValues mkeptHeights mkeptHeats mkeptKeys2 mkeptValues2 mkeptHeights2 mkeptHeats2 mkeptSights 12 2709404528852745727) tw_1190 tw_1187 tw_1189 tw_58 tw_71 rfl rfl (by decide +kernel) ⟨Nat.le_of_ble_eq_true rfl, Nat.le_of_ble_eq_true rfl⟩ hK hP hD hS hA [0] [] rfl rfl rfl rfl (by decide) 0 (ci := 12) rfl rfl rfl hl.1 rfl (Nat.le_of_ble_eq_true rfl) dX12_digest_77 ⟨Nat.le_of_ble_eq_true rfl, Nat.le_of_ble_eq_true rfl⟩ (fun r_92 u_93 H locs hw_94 hP hD hS => ?_)
  refine W.widen (k := 0) (n := 0) (by decide) (by decide) ?_
  have hw_94 : r_92 = if (0 ≤ (12 : Int32).toInt ∧ (12 : Int32).toInt ≤ 12) then 0 else (-102) := hw_94
  subst hw_94
  have hP : va_P D classes [(mo, .inr (12, [.ref mpage, .int 0, .int 0, .int 0, .int 0, .int 0, .int 0, .int 0, .ref mkeys, .ref mvalues, .ref mheights, .ref mheats, .int 0, .ref msecondKeys, .ref msecondValues, .ref msecondHeights, .ref msecondHeats, .int 0, .int 0, .int 0, .int 0, .ref msaved, .ref mbestHeights, .int 0, .ref msights, .ref mby, .int 0, .int (-1), .int 0, .int 0, .int 0, .int 0, .int 0, .int 0, .ref mkeptKeys, .ref mkeptValues, .ref mkeptHeights, .ref mkeptHeats, .ref mkeptKeys2, .ref mkeptValues2, .ref mkeptHeights2, .ref mkeptHeats2, .ref mkeptSights, .long 2709404528852745727]))] H := hP
  have hD : va_D A [(mo, .inr (12, [.ref mpage, .int 0, .int 0, .int 0, .int 0, .int 0, .int 0, .int 0, .ref mkeys, .ref mvalues, .ref mheights, .ref mheats, .int 0, .ref msecondKeys, .ref msecondValues, .ref msecondHeights, .ref msecondHeats, .int 0, .int 0, .int 0, .int 0, .ref msaved, .ref mbestHeights, .int 0, .ref msights, .ref mby, .int 0, .int (-1), .int 0, .int 0, .int 0, .int 0, .int 0, .int 0, .ref mkeptKeys, .ref mkeptValues, .ref mkeptHeights, .ref mkeptHeats, .ref mkeptKeys2, .ref mkeptValues2, .ref mkeptHeights2, .ref mkeptHeats2, .ref mkeptSights, .long 2709404528852745727]))] := hD
  refine wk_toi (show ((if (0 ≤ (12 : Int32).toInt ∧ (12 : Int32).toInt ≤ 12) then 0 else (-102)) : Int32) = 0 by decide) ?_
  refine lv_i2l (v := 0) hx hb dX12_digest_80 (by decide) ?_
  refine wk_vV (As := [.long 0]) (rest := []) (wc := [(mo, .inr (12, [.ref mpage, .int 0, .int 0, .int 0, .int 0, .int 0, .int 0, .int 0, .ref mkeys, .ref mvalues, .ref mheights, .ref mheats, .int 0, .ref msecondKeys, .ref msecondValues, .ref msecondHeights, .ref msecondHeats, .int 0, .int 0, .int 0, .int 0, .ref msaved, .ref mbestHeights, .int 0, .ref msights, .ref mby, .int 0, .int (-1), .int 0, .int 0, .int 0, .int 0, .int 0, .int 0, .ref mkeptKeys, .ref mkeptValues, .ref mkeptHeights, .ref mkeptHeats, .ref mkeptKeys2, .ref mkeptValues2, .ref mkeptHeights2, .ref mkeptHeats2, .ref mkeptSights, .long 2709404528852745727]))]) (wr := []) (n := 1) (R := _) ⟨hx, hb, hml, hown, htb⟩ (c_X12_say l D cy mo mpage mkeys mvalues mheights mheats msecondKeys msecondValues msecondHeights msecondHeats msaved mbestHeights msights mby mkeptKeys mkeptValues mkeptHeights mkeptHeats mkeptKeys2 mkeptValues2 mkeptHeights2 mkeptHeats2 mkeptSights 2709404528852745727 0) tw_1207 tw_1204 tw_1206 tw_61 tw_71 rfl rfl (by decide +kernel) ⟨Nat.le_of_ble_eq_true rfl, Nat.le_of_ble_eq_true rfl⟩ hK hP hD hS hA [0] [] rfl rfl rfl rfl (by decide) 0 (ci := 12) rfl rfl rfl hl.1 rfl (Nat.le_of_ble_eq_true rfl) dX12_digest_81 ⟨Nat.le_of_ble_eq_true rfl, Nat.le_of_ble_eq_true rfl⟩ (fun u_96 H locs hw_97 hP hD hS => ?_)
  refine W.widen (k := 0) (n := 0) (by decide) (by decide) ?_
  have hw_97 : u_96 = (-8242179974112640543) := (show u_96 = 31 * 2709404528852745727 + 0 from hw_97).trans (by decide)
  subst hw_97
  have hP : va_P D classes [(mo, .inr (12, [.ref mpage, .int 0, .int 0, .int 0, .int 0, .int 0, .int 0, .int 0, .ref mkeys, .ref mvalues, .ref mheights, .ref mheats, .int 0, .ref msecondKeys, .ref msecondValues, .ref msecondHeights, .ref msecondHeats, .int 0, .int 0, .int 0, .int 0, .ref msaved, .ref mbestHeights, .int 0, .ref msights, .ref mby, .int 0, .int (-1), .int 0, .int 0, .int 0, .int 0, .int 0, .int 0, .ref mkeptKeys, .ref mkeptValues, .ref mkeptHeights, .ref mkeptHeats, .ref mkeptKeys2, .ref mkeptValues2, .ref mkeptHeights2, .ref mkeptHeats2, .ref mkeptSights, .long (-8242179974112640543)]))] H := hP
  have hD : va_D A [(mo, .inr (12, [.ref mpage, .int 0, .int 0, .int 0, .int 0, .int 0, .int 0, .int 0, .ref mkeys, .ref mvalues, .ref mheights, .ref mheats, .int 0, .ref msecondKeys, .ref msecondValues, .ref msecondHeights, .ref msecondHeats, .int 0, .int 0, .int 0, .int 0, .ref msaved, .ref mbestHeights, .int 0, .ref msights, .ref mby, .int 0, .int (-1), .int 0, .int 0, .int 0, .int 0, .int 0, .int 0, .ref mkeptKeys, .ref mkeptValues, .ref mkeptHeights, .ref mkeptHeats, .ref mkeptKeys2, .ref mkeptValues2, .ref mkeptHeights2, .ref mkeptHeats2, .ref mkeptSights, .long (-8242179974112640543)]))] := hD
  refine lv_iinc (v := 13) (lv' := [(1, .int 13), (0, .ref mo)]) hx hb dX12_digest_84 hl (k := 0) rfl (by decide) (by decide) rfl (fun ls hl => ?_)
  refine lv_goto (tgt := 68) hx hb dX12_digest_87 (by decide) ?_
  refine lv_iload_n hx hb dX12_digest_68 rfl (lv_at hl 0 rfl) ?_
  refine lv_bipush (v := 13) hx hb dX12_digest_69 (by decide) ?_
  refine lv_icmp_ge (tgt := 90) hx hb dX12_digest_71 (by decide) (fun _ => ?_) (fun c_98 => absurd (by decide) c_98)
  refine lv_aload_n hx hb dX12_digest_90 rfl (lv_at hl 1 rfl) ?_
  refine va_get (D := D) (ci := 12) (v := .long (-8242179974112640543)) (C := RX12) (T := TX12) (N := 44) hx hb htb inX12 hown hK hP 0 rfl rfl 43 (by decide) (htb _ tw_806) (fun _ h9 => h9) rfl dX12_digest_91 ?_
  refine W.widen (k := 0) (n := 0) (by decide) (by decide) ?_
  exact wk_lret () hx hb hr hlocks rfl hK hP hD hS [] rfl rfl dX12_digest_94
end
